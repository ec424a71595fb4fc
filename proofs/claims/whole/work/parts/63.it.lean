/-! ===== one round of the law's loop ===== -/
theorem law_it {L : Nat} {xs : Nat → Int32} {T x4 : Nat} {x5 x6 : am_V} {M : am_M} (hL : L ≤ 2560) (hT : T ≤ 999999) (h : St T M M) (hx : x4 + 5 ≤ L) :
    ∃ M' y5 y6 T', T' ≤ T + 1 ∧ St T' M' M' ∧ ∀ n res, rL_law L xs n 23 [.inr (29, 0), .inr (9, 0), .inr (10, 0), .inr (80, 0), .inl (.int (i3 (x4 + 5))), y5, y6] [] M' = some res → rL_law L xs (n + 600) 23 [.inr (29, 0), .inr (9, 0), .inr (10, 0), .inr (80, 0), .inl (.int (i3 x4)), x5, x6] [] M = some res := by
  have hL' : L ≤ 2147483648 := by omega
  have g1 : ¬ (Int32.ofNat L - 5 < i3 x4) := fun q => by
    have e : Int32.ofNat L - 5 = i3 (L - 5) := i3_sub (a := L) (b := 5) (by omega)
    rw [e] at q
    have := (i3_lt (by omega) (by omega)).1 q
    omega
  have g2 : x4 < L := by omega
  have i1 : i3 x4 + 1 = i3 (x4 + 1) := i3_add x4 1
  have i2 : i3 x4 + 2 = i3 (x4 + 2) := i3_add x4 2
  have i3' : i3 x4 + 3 = i3 (x4 + 3) := i3_add x4 3
  have i4 : i3 x4 + 4 = i3 (x4 + 4) := i3_add x4 4
  have i5 : i3 x4 + 5 = i3 (x4 + 5) := i3_add x4 5
  have l1 : x4 + 1 < L := by omega
  have l2 : x4 + 2 < L := by omega
  have l3 : x4 + 3 < L := by omega
  have l4 : x4 + 4 < L := by omega
  by_cases e0 : xs x4 &&& 31 = 0
  · obtain ⟨v, M1, M2, a1, a2, a3, a4⟩ := JV2 frL_define frX10_define (fr_c (fr_r rfl) (fr_c fr_i (fr_c fr_i (fr_c fr_i fr_nil)))) (fr_c (fr_r rfl) (fr_c fr_i (fr_c fr_i (fr_c fr_i fr_nil)))) (fun C D hh => J_define hh (xs (x4 + 1)) (xs (x4 + 2)) (xs (x4 + 3))) h
    exact ⟨M2, .inl (.int v), x6, T, by omega, a4, fun n res k => mL_law (qL_law_23_1 hL' g1 g2  e0 l1 i1 l2 i2 l3 i3' a1 a2 a3 (by rw [i5]; exact k)) (by omega)⟩
  by_cases e1 : xs x4 &&& 31 = 1
  · obtain ⟨v, w, M1, M2, a1, a2, a3, a4, a5, a6⟩ := JO2 frL_curve frX10_curve (fr_c (fr_r rfl) (fr_c fr_i (fr_c fr_i (fr_c fr_i (fr_c (fr_r rfl) fr_nil))))) (fr_c (fr_r rfl) (fr_c fr_i (fr_c fr_i (fr_c fr_i fr_nil)))) (fun C D hh => J_curve hh (xs (x4 + 1)) (xs (x4 + 2)) (xs (x4 + 3))) h
    refine ⟨M2, .inl (.int v), .inl (.int w), T, by omega, a5, fun n res k => ?_⟩
    by_cases v0 : v = 0
    · exact mL_law (qL_law_23_3 hL' g1 g2  e0 e1 l1 i1 l2 i2 l3 i3' a1 a2 a3 v0 (lg_eq (a4 v0)) (by rw [i5]; exact k)) (by omega)
    · exact mL_law (qL_law_23_5 hL' g1 g2  e0 e1 l1 i1 l2 i2 l3 i3' a1 a2 a3 v0 (by rw [i5]; exact k)) (by omega)
  by_cases e2 : xs x4 &&& 31 = 2
  · obtain ⟨v, w, M1, M2, a1, a2, a3, a4, a5, a6⟩ := JO2 frL_seal frX10_seal (fr_c (fr_r rfl) (fr_c fr_i (fr_c (fr_r rfl) fr_nil))) (fr_c (fr_r rfl) (fr_c fr_i fr_nil)) (fun C D hh => J_seal hh (xs (x4 + 1))) h
    refine ⟨M2, .inl (.int v), .inl (.int w), T, by omega, a5, fun n res k => ?_⟩
    by_cases v0 : v = 0
    · exact mL_law (qL_law_23_7 hL' g1 g2  e0 e1 e2 l1 i1 a1 a2 a3 v0 (bool_out (seal_b a6 a2) (a4 v0)) (by rw [i5]; exact k)) (by omega)
    · exact mL_law (qL_law_23_9 hL' g1 g2  e0 e1 e2 l1 i1 a1 a2 a3 v0 (by rw [i5]; exact k)) (by omega)
  by_cases e3 : xs x4 &&& 31 = 3
  · obtain ⟨v, M1, M2, a1, a2, a3, a4⟩ := JV2 frL_rack frX10_rack (fr_c (fr_r rfl) (fr_c fr_i (fr_c fr_i (fr_c fr_i (fr_c fr_i fr_nil))))) (fr_c (fr_r rfl) (fr_c fr_i (fr_c fr_i (fr_c fr_i (fr_c fr_i fr_nil))))) (fun C D hh => J_rack hh (xs (x4 + 1)) (xs (x4 + 2)) (xs (x4 + 3)) (xs (x4 + 4))) h
    exact ⟨M2, .inl (.int v), x6, T, by omega, a4, fun n res k => mL_law (qL_law_23_11 hL' g1 g2  e0 e1 e2 e3 l1 i1 l2 i2 l3 i3' l4 i4 a1 a2 a3 (by rw [i5]; exact k)) (by omega)⟩
  by_cases e4 : xs x4 &&& 31 = 4
  · obtain ⟨v, w, M1, M2, a1, a2, a3, a4, a5, a6⟩ := JO2 frL_removeRack frX10_removeRack (fr_c (fr_r rfl) (fr_c fr_i (fr_c (fr_r rfl) fr_nil))) (fr_c (fr_r rfl) (fr_c fr_i fr_nil)) (fun C D hh => J_removeRack hh (xs (x4 + 1))) h
    refine ⟨M2, .inl (.int v), .inl (.int w), T, by omega, a5, fun n res k => ?_⟩
    by_cases v0 : v = 0
    · exact mL_law (qL_law_23_13 hL' g1 g2  e0 e1 e2 e3 e4 l1 i1 a1 a2 a3 v0 (lg_eq (a4 v0)) (by rw [i5]; exact k)) (by omega)
    · exact mL_law (qL_law_23_15 hL' g1 g2  e0 e1 e2 e3 e4 l1 i1 a1 a2 a3 v0 (by rw [i5]; exact k)) (by omega)
  by_cases e5 : xs x4 &&& 31 = 5
  · obtain ⟨v, M1, M2, a1, a2, a3, a4⟩ := JV2 frL_reagent frX10_reagent (fr_c (fr_r rfl) (fr_c fr_i (fr_c fr_i (fr_c fr_i (fr_c fr_i fr_nil))))) (fr_c (fr_r rfl) (fr_c fr_i (fr_c fr_i (fr_c fr_i (fr_c fr_i fr_nil))))) (fun C D hh => J_reagent hh (xs (x4 + 1)) (xs (x4 + 2)) (xs (x4 + 3)) (xs (x4 + 4))) h
    exact ⟨M2, .inl (.int v), x6, T, by omega, a4, fun n res k => mL_law (qL_law_23_17 hL' g1 g2  e0 e1 e2 e3 e4 e5 l1 i1 l2 i2 l3 i3' l4 i4 a1 a2 a3 (by rw [i5]; exact k)) (by omega)⟩
  by_cases e6 : xs x4 &&& 31 = 6
  · obtain ⟨v, w, M1, M2, a1, a2, a3, a4, a5, a6⟩ := JO2 frL_forbid frX10_forbid (fr_c (fr_r rfl) (fr_c fr_i (fr_c fr_i (fr_c (fr_r rfl) fr_nil)))) (fr_c (fr_r rfl) (fr_c fr_i (fr_c fr_i fr_nil))) (fun C D hh => J_forbid hh (xs (x4 + 1)) (xs (x4 + 2))) h
    refine ⟨M2, .inl (.int v), .inl (.int w), T, by omega, a5, fun n res k => ?_⟩
    by_cases v0 : v = 0
    · exact mL_law (qL_law_23_19 hL' g1 g2  e0 e1 e2 e3 e4 e5 e6 l1 i1 l2 i2 a1 a2 a3 v0 (bool_out (forbid_b a2) (a4 v0)) (by rw [i5]; exact k)) (by omega)
    · exact mL_law (qL_law_23_21 hL' g1 g2  e0 e1 e2 e3 e4 e5 e6 l1 i1 l2 i2 a1 a2 a3 v0 (by rw [i5]; exact k)) (by omega)
  by_cases e7 : xs x4 &&& 31 = 7
  · by_cases z : xs (x4 + 3) = 0
    · obtain ⟨v, w, M1, M2, a1, a2, a3, a4, a5, a6⟩ := JO2 frL_order frX10_order (fr_c (fr_r rfl) (fr_c fr_i (fr_c fr_i (fr_c fr_i (fr_c (fr_r rfl) fr_nil))))) (fr_c (fr_r rfl) (fr_c fr_i (fr_c fr_i (fr_c fr_i fr_nil)))) (fun C D hh => J_order hh (xs (x4 + 1)) (xs (x4 + 2)) 0 (Or.inl rfl)) h
      refine ⟨M2, .inl (.int v), .inl (.int w), T, by omega, a5, fun n res k => ?_⟩
      by_cases v0 : v = 0
      · exact mL_law (qL_law_23_23 hL' g1 g2  e0 e1 e2 e3 e4 e5 e6 e7 l1 i1 l2 i2 l3 i3' z a1 a2 a3 v0 (lg_eq (a4 v0)) (by rw [i5]; exact k)) (by omega)
      · exact mL_law (qL_law_23_25 hL' g1 g2  e0 e1 e2 e3 e4 e5 e6 e7 l1 i1 l2 i2 l3 i3' z a1 a2 a3 v0 (by rw [i5]; exact k)) (by omega)
    · obtain ⟨v, w, M1, M2, a1, a2, a3, a4, a5, a6⟩ := JO2 frL_order frX10_order (fr_c (fr_r rfl) (fr_c fr_i (fr_c fr_i (fr_c fr_i (fr_c (fr_r rfl) fr_nil))))) (fr_c (fr_r rfl) (fr_c fr_i (fr_c fr_i (fr_c fr_i fr_nil)))) (fun C D hh => J_order hh (xs (x4 + 1)) (xs (x4 + 2)) 1 (Or.inr rfl)) h
      refine ⟨M2, .inl (.int v), .inl (.int w), T, by omega, a5, fun n res k => ?_⟩
      by_cases v0 : v = 0
      · exact mL_law (qL_law_23_27 hL' g1 g2  e0 e1 e2 e3 e4 e5 e6 e7 l1 i1 l2 i2 l3 i3' z a1 a2 a3 v0 (lg_eq (a4 v0)) (by rw [i5]; exact k)) (by omega)
      · exact mL_law (qL_law_23_29 hL' g1 g2  e0 e1 e2 e3 e4 e5 e6 e7 l1 i1 l2 i2 l3 i3' z a1 a2 a3 v0 (by rw [i5]; exact k)) (by omega)
  by_cases e8 : xs x4 &&& 31 = 8
  · obtain ⟨v, M1, M2, a1, a2, a3, a4⟩ := JV2 frL_clock frX10_clock (fr_c (fr_r rfl) (fr_c fr_i fr_nil)) (fr_c (fr_r rfl) (fr_c fr_i fr_nil)) (fun C D hh => J_clock hh (xs (x4 + 1))) h
    exact ⟨M2, .inl (.int v), x6, T, by omega, a4, fun n res k => mL_law (qL_law_23_31 hL' g1 g2  e0 e1 e2 e3 e4 e5 e6 e7 e8 l1 i1 a1 a2 a3 (by rw [i5]; exact k)) (by omega)⟩
  by_cases e9 : xs x4 &&& 31 = 9
  · obtain ⟨v, M1, M2, a1, a2, a3, a4⟩ := JV2 frL_light frX10_light (fr_c (fr_r rfl) (fr_c fr_i fr_nil)) (fr_c (fr_r rfl) (fr_c fr_i fr_nil)) (fun C D hh => J_light hh (xs (x4 + 1))) h
    exact ⟨M2, .inl (.int v), x6, T, by omega, a4, fun n res k => mL_law (qL_law_23_33 hL' g1 g2  e0 e1 e2 e3 e4 e5 e6 e7 e8 e9 l1 i1 a1 a2 a3 (by rw [i5]; exact k)) (by omega)⟩
  by_cases e10 : xs x4 &&& 31 = 10
  · obtain ⟨v, M1, M2, a1, a2, a3, a4⟩ := JV2 frL_spoil frX10_spoil (fr_c (fr_r rfl) (fr_c fr_i fr_nil)) (fr_c (fr_r rfl) (fr_c fr_i fr_nil)) (fun C D hh => J_spoil hh (xs (x4 + 1))) h
    exact ⟨M2, .inl (.int v), x6, T, by omega, a4, fun n res k => mL_law (qL_law_23_35 hL' g1 g2  e0 e1 e2 e3 e4 e5 e6 e7 e8 e9 e10 l1 i1 a1 a2 a3 (by rw [i5]; exact k)) (by omega)⟩
  by_cases e11 : xs x4 &&& 31 = 11
  · obtain ⟨v, M1, M2, a1, a2, a3⟩ := JS2 hT h
    exact ⟨M2, x5, x6, T + 1, by omega, a3, fun n res k => mL_law (qL_law_23_37 hL' g1 g2  e0 e1 e2 e3 e4 e5 e6 e7 e8 e9 e10 e11  a1 a2 rfl (by rw [i5]; exact k)) (by omega)⟩
  by_cases e12 : xs x4 &&& 31 = 12
  · refine ⟨am_put M 10 0 45 0, x5, x6, T, by omega, ?_, fun n res k => mL_law (qL_law_23_39 hL' g1 g2  e0 e1 e2 e3 e4 e5 e6 e7 e8 e9 e10 e11 e12  ?_ (by rw [i5]; exact k)) (by omega)⟩
    · obtain ⟨n, l, hr⟩ := h
      have q : St T M (am_put M 10 0 45 0) := ⟨n, l, Rel_thr hr⟩
      exact St_cg q (fun k hk _ => fr_put (S := fr_D) (k := 10) rfl k hk) (fun _ _ => rfl)
    · obtain ⟨n, l, hr⟩ := h
      exact hr.2.2.2.2.1.2.2.2.2.2.2.2.2.2.2.2.1
  by_cases e13 : xs x4 &&& 31 = 13
  · obtain ⟨v, w, M1, M2, a1, a2, a3, a4, a5, a6⟩ := JO2 frL_state frX10_state (fr_c (fr_r rfl) (fr_c fr_i (fr_c fr_i (fr_c (fr_r rfl) fr_nil)))) (fr_c (fr_r rfl) (fr_c fr_i (fr_c fr_i fr_nil))) (fun C D hh => J_state hh (xs (x4 + 1)) (xs (x4 + 2))) h
    refine ⟨M2, .inl (.int v), .inl (.int w), T, by omega, a5, fun n res k => ?_⟩
    by_cases v0 : v = 0
    · exact mL_law (qL_law_23_41 hL' g1 g2  e0 e1 e2 e3 e4 e5 e6 e7 e8 e9 e10 e11 e12 e13 l1 i1 l2 i2 a1 a2 a3 v0 (lg_eq (a4 v0)) (by rw [i5]; exact k)) (by omega)
    · exact mL_law (qL_law_23_43 hL' g1 g2  e0 e1 e2 e3 e4 e5 e6 e7 e8 e9 e10 e11 e12 e13 l1 i1 l2 i2 a1 a2 a3 v0 (by rw [i5]; exact k)) (by omega)
  by_cases e14 : xs x4 &&& 31 = 14
  · obtain ⟨v, w, M1, M2, a1, a2, a3, a4, a5, a6⟩ := JO2 frL_cuvette frX10_cuvette (fr_c (fr_r rfl) (fr_c fr_i (fr_c fr_i (fr_c (fr_r rfl) fr_nil)))) (fr_c (fr_r rfl) (fr_c fr_i (fr_c fr_i fr_nil))) (fun C D hh => J_cuvette hh (xs (x4 + 1)) (xs (x4 + 2))) h
    refine ⟨M2, .inl (.int v), .inl (.int w), T, by omega, a5, fun n res k => ?_⟩
    by_cases v0 : v = 0
    · exact mL_law (qL_law_23_45 hL' g1 g2  e0 e1 e2 e3 e4 e5 e6 e7 e8 e9 e10 e11 e12 e13 e14 l1 i1 l2 i2 a1 a2 a3 v0 (lg_eq (a4 v0)) (by rw [i5]; exact k)) (by omega)
    · exact mL_law (qL_law_23_47 hL' g1 g2  e0 e1 e2 e3 e4 e5 e6 e7 e8 e9 e10 e11 e12 e13 e14 l1 i1 l2 i2 a1 a2 a3 v0 (by rw [i5]; exact k)) (by omega)
  by_cases e15 : xs x4 &&& 31 = 15
  · obtain ⟨v, w, M1, M2, a1, a2, a3, a4, a5, a6⟩ := JO2 frL_volume frX10_volume (fr_c (fr_r rfl) (fr_c fr_i (fr_c fr_i (fr_c (fr_r rfl) fr_nil)))) (fr_c (fr_r rfl) (fr_c fr_i (fr_c fr_i fr_nil))) (fun C D hh => J_volume hh (xs (x4 + 1)) (xs (x4 + 2))) h
    refine ⟨M2, .inl (.int v), .inl (.int w), T, by omega, a5, fun n res k => ?_⟩
    by_cases v0 : v = 0
    · exact mL_law (qL_law_23_49 hL' g1 g2  e0 e1 e2 e3 e4 e5 e6 e7 e8 e9 e10 e11 e12 e13 e14 e15 l1 i1 l2 i2 a1 a2 a3 v0 (lg_eq (a4 v0)) (by rw [i5]; exact k)) (by omega)
    · exact mL_law (qL_law_23_51 hL' g1 g2  e0 e1 e2 e3 e4 e5 e6 e7 e8 e9 e10 e11 e12 e13 e14 e15 l1 i1 l2 i2 a1 a2 a3 v0 (by rw [i5]; exact k)) (by omega)
  by_cases e16 : xs x4 &&& 31 = 16
  · obtain ⟨v, w, M1, M2, a1, a2, a3, a4, a5, a6⟩ := JO2 frL_trend frX10_trend (fr_c (fr_r rfl) (fr_c fr_i (fr_c fr_i (fr_c (fr_r rfl) fr_nil)))) (fr_c (fr_r rfl) (fr_c fr_i (fr_c fr_i fr_nil))) (fun C D hh => J_trend hh (xs (x4 + 1)) (xs (x4 + 2))) h
    refine ⟨M2, .inl (.int v), .inl (.int w), T, by omega, a5, fun n res k => ?_⟩
    by_cases v0 : v = 0
    · exact mL_law (qL_law_23_53 hL' g1 g2  e0 e1 e2 e3 e4 e5 e6 e7 e8 e9 e10 e11 e12 e13 e14 e15 e16 l1 i1 l2 i2 a1 a2 a3 v0 (lg_eq (a4 v0)) (by rw [i5]; exact k)) (by omega)
    · exact mL_law (qL_law_23_55 hL' g1 g2  e0 e1 e2 e3 e4 e5 e6 e7 e8 e9 e10 e11 e12 e13 e14 e15 e16 l1 i1 l2 i2 a1 a2 a3 v0 (by rw [i5]; exact k)) (by omega)
  by_cases e17 : xs x4 &&& 31 = 17
  · obtain ⟨v, w, M1, M2, a1, a2, a3, a4, a5, a6⟩ := JO2 frL_rules frX10_rules (fr_c (fr_r rfl) (fr_c fr_i (fr_c (fr_r rfl) fr_nil))) (fr_c (fr_r rfl) (fr_c fr_i fr_nil)) (fun C D hh => J_rules hh (xs (x4 + 1))) h
    refine ⟨M2, .inl (.int v), .inl (.int w), T, by omega, a5, fun n res k => ?_⟩
    by_cases v0 : v = 0
    · exact mL_law (qL_law_23_57 hL' g1 g2  e0 e1 e2 e3 e4 e5 e6 e7 e8 e9 e10 e11 e12 e13 e14 e15 e16 e17 l1 i1 a1 a2 a3 v0 (lg_eq (a4 v0)) (by rw [i5]; exact k)) (by omega)
    · exact mL_law (qL_law_23_59 hL' g1 g2  e0 e1 e2 e3 e4 e5 e6 e7 e8 e9 e10 e11 e12 e13 e14 e15 e16 e17 l1 i1 a1 a2 a3 v0 (by rw [i5]; exact k)) (by omega)
  by_cases e18 : xs x4 &&& 31 = 18
  · obtain ⟨v, w, M1, M2, a1, a2, a3, a4, a5, a6⟩ := JO2 frL_host frX10_host (fr_c (fr_r rfl) (fr_c fr_i (fr_c (fr_r rfl) fr_nil))) (fr_c (fr_r rfl) (fr_c fr_i fr_nil)) (fun C D hh => J_host hh (xs (x4 + 1))) h
    refine ⟨M2, .inl (.int v), .inl (.int w), T, by omega, a5, fun n res k => ?_⟩
    by_cases v0 : v = 0
    · exact mL_law (qL_law_23_61 hL' g1 g2  e0 e1 e2 e3 e4 e5 e6 e7 e8 e9 e10 e11 e12 e13 e14 e15 e16 e17 e18 l1 i1 a1 a2 a3 v0 (lg_eq (a4 v0)) (by rw [i5]; exact k)) (by omega)
    · exact mL_law (qL_law_23_63 hL' g1 g2  e0 e1 e2 e3 e4 e5 e6 e7 e8 e9 e10 e11 e12 e13 e14 e15 e16 e17 e18 l1 i1 a1 a2 a3 v0 (by rw [i5]; exact k)) (by omega)
  by_cases e19 : xs x4 &&& 31 = 19
  · obtain ⟨v, w, M1, M2, a1, a2, a3, a4, a5, a6⟩ := JO2 frL_took frX10_took (fr_c (fr_r rfl) (fr_c fr_i (fr_c (fr_r rfl) fr_nil))) (fr_c (fr_r rfl) (fr_c fr_i fr_nil)) (fun C D hh => J_took hh (xs (x4 + 1))) h
    refine ⟨M2, .inl (.int v), .inl (.int w), T, by omega, a5, fun n res k => ?_⟩
    by_cases v0 : v = 0
    · exact mL_law (qL_law_23_65 hL' g1 g2  e0 e1 e2 e3 e4 e5 e6 e7 e8 e9 e10 e11 e12 e13 e14 e15 e16 e17 e18 e19 l1 i1 a1 a2 a3 v0 (lg_eq (a4 v0)) (by rw [i5]; exact k)) (by omega)
    · exact mL_law (qL_law_23_67 hL' g1 g2  e0 e1 e2 e3 e4 e5 e6 e7 e8 e9 e10 e11 e12 e13 e14 e15 e16 e17 e18 e19 l1 i1 a1 a2 a3 v0 (by rw [i5]; exact k)) (by omega)
  exact ⟨M, x5, x6, T, by omega, h, fun n res k => mL_law (qL_law_23_69 hL' g1 g2  e0 e1 e2 e3 e4 e5 e6 e7 e8 e9 e10 e11 e12 e13 e14 e15 e16 e17 e18 e19 (by rw [i5]; exact k)) (by omega)⟩
