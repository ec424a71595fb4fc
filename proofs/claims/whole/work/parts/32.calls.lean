/-! ===== more calls ===== -/
theorem J_removeRack {T : Nat} {C D : am_M} (h : St T C D) (x1 : Int32) : JO T (fL_removeRack [.inr (9, 0), .inl (.int x1), .inr (80, 0)] C) (fX10_removeRack [.inr (10, 0), .inl (.int x1)] D) := by
  obtain ⟨n, L, h⟩ := h
  have hN := h.2.2.2.2.1
  have hO := h.2.2.2.2.2.1
  have hn := hN.2.1
  have h40 := hN.2.2.1
  have stop : ∀ (D1 : am_M) (i m : Nat), i ≤ n → D1 10 0 14 = i3 n → ¬ D1 10 0 45 = 0 → rX10_removeRack (m + 100) 33 [.inr (10, 0), .inl (.int x1), .inl (.int (i3 i))] [] D1 = am_rI 0 D1 := by
    intro D1 i m hi e1 e2
    rcases Nat.lt_or_ge i n with q | q
    · exact qX10_removeRack_33_5 (hge e1 q (by omega)) e2
    · rw [show i = n by omega]
      exact qX10_removeRack_33_1 (hen e1 (by omega)) e2
  by_cases h1 : 0 ≤ x1 ∧ x1 ≤ 5
  case neg => exact JO_no h (qL_removeRack_0 (qX9_removeRack_0 h1)) (qX10_removeRack_0 h1 (stop _ 0 99700 (Nat.zero_le _) hn (by show ¬ (1 : Int32) = 0; decide))) (by decide)
  obtain ⟨s, hs, es⟩ := pl (m := 5) (by decide) h1
  have hS := h.2.1
  by_cases h2 : C 8 s 0 = -1
  case pos => exact JO_no h (qL_removeRack_1 (qX9_removeRack_3 h1 hs es h2)) (qX10_removeRack_1 h1 hs es ((slot_e hS hs).mp h2) (stop _ 0 99700 (Nat.zero_le _) hn (by show ¬ (2 : Int32) = 0; decide))) (by decide)
  have h2' : ¬ D 37 0 s = 0 := fun q => h2 ((slot_e hS hs).mpr q)
  have hcode : C 8 s 0 = D 37 0 s := by
    rcases (hS s hs).1 with ⟨a, _⟩ | ⟨a, _⟩
    · exact absurd a h2
    · exact a
  have c1 := sX9_isAwaited hN hO (C 8 s 0)
  have lp := lp_find (r := fun m i => rX10_removeRack m 33 [.inr (10, 0), .inl (.int x1), .inl (.int (i3 i))] [] (am_put D 10 0 45 0)) (N := n) (c := 200) (P := fun i => D 45 0 i = C 8 s 0 ∧ nt (D 48 0 i) ≤ 1) (yes := fun _ => (.inl (some (.inl (.int 0))), am_put (am_put D 10 0 45 0) 10 0 45 3)) (no := (.inl (some (.inl (.int (D 39 0 s)))), am_put (am_put D 10 0 45 0) 37 0 s 0))
    (by
      intro i m hi hp
      refine qX10_removeRack_33_3 (n := m + 100) (hge hn hi (by omega)) rfl (by omega) hs es ?_ ((wi_n1 (hO.2.1 i (by omega)).2.2.1 (by decide)).mpr hp.2) (stop _ (i + 1) m hi hn (by show ¬ (3 : Int32) = 0; decide))
      show D 45 0 i = D 37 0 s
      rw [hp.1, hcode])
    (by
      intro i m res hi hp k
      have k' : rX10_removeRack (m + 100) 33 [.inr (10, 0), .inl (.int x1), .inl (.int (i3 (i + 1)))] [] (am_put D 10 0 45 0) = some res := mX10_removeRack k (by omega)
      by_cases e : D 45 0 i = D 37 0 s
      · exact qX10_removeRack_33_2 (n := m + 100) (hge hn hi (by omega)) rfl (by omega) hs es e (Classical.byContradiction fun q => hp ⟨e.trans hcode.symm, (wi_n1 (hO.2.1 i (by omega)).2.2.1 (by decide)).mp q⟩) k'
      · exact qX10_removeRack_33_4 (n := m + 100) (hge hn hi (by omega)) rfl (by omega) hs es e k')
    (by
      intro m
      exact qX10_removeRack_33_0 (n := m + 100) (hen hn (by omega)) rfl hs es) n 0 (Nat.zero_add n)
  rcases lp with ⟨j, _, hj, hp, _, hr⟩ | ⟨hp, hr⟩
  · rw [bi_t ⟨j, hj, hp⟩] at c1
    exact JO_no h (qL_removeRack_2 (qX9_removeRack_2 h1 hs es h2 c1 (by decide))) (qX10_removeRack_2 h1 hs es h2' ((hr 99800 (by omega)).trans (by rw [show am_put (am_put D 10 0 45 0) 10 0 45 3 = am_put D 10 0 45 3 from funext fun k => funext fun i => funext fun f => by unfold am_put; split <;> rfl]))) (by decide)
  · rw [bi_f (fun ⟨i, hi, q⟩ => hp i (Nat.zero_le i) hi q)] at c1
    have w : (am_put C 8 s 0 (-1)) 8 s 2 = D 39 0 s := by rw [put_ne (by omega)]; exact (hS s hs).2.2.2.1
    obtain ⟨hP, _, hF, hQ, hN, hO, hH, hC, hB⟩ := h
    refine JO_ok (n := n) (L := L) (C := am_put C 8 s 0 (-1)) (D := am_put (am_put D 10 0 45 0) 37 0 s 0) ⟨hP, ?_, hF, hQ, hN, hO, hH, hC, hB⟩ ?_ (qX10_removeRack_2 h1 hs es h2' (hr 99800 (by omega))) rfl
    · intro s' hs'
      by_cases e : s' = s
      · subst e
        have := hS s' hs'
        refine ⟨Or.inl ⟨put_eq ⟨rfl, rfl, rfl⟩, put_eq ⟨rfl, rfl, rfl⟩⟩, ?_, this.2.2.1, ?_, this.2.2.2.2⟩
        · rw [put_ne (by omega)]; exact this.2.1
        · rw [put_ne (by omega)]; exact this.2.2.2.1
      · simpa [am_put, e] using hS s' hs'
    · have := qL_removeRack_3 (qX9_removeRack_1 h1 hs es h2 c1 rfl)
      rw [w] at this
      exact this
theorem J_reagent {T : Nat} {C D : am_M} (h : St T C D) (x1 x2 x3 x4 : Int32) : JV T (fL_reagent [.inr (9, 0), .inl (.int x1), .inl (.int x2), .inl (.int x3), .inl (.int x4)] C) (fX10_reagent [.inr (10, 0), .inl (.int x1), .inl (.int x2), .inl (.int x3), .inl (.int x4)] D) := by
  obtain ⟨n, L, h⟩ := h
  by_cases h1 : 0 ≤ x1 ∧ x1 ≤ 7
  case neg => exact ⟨1, C, _, qL_reagent_0 (qX9_reagent_0 h1), qX10_reagent_0 h1, rfl, n, L, Rel_thr h⟩
  by_cases h2 : 0 ≤ x2 ∧ x2 ≤ 5
  case neg => exact ⟨1, C, _, qL_reagent_0 (qX9_reagent_1 h1 h2), qX10_reagent_1 h1 h2, rfl, n, L, Rel_thr h⟩
  by_cases h3 : 0 ≤ x3 ∧ x3 ≤ 100000
  case neg => exact ⟨1, C, _, qL_reagent_0 (qX9_reagent_2 h1 h2 h3), qX10_reagent_2 h1 h2 h3, rfl, n, L, Rel_thr h⟩
  by_cases h4 : x4 < 0
  case pos => exact ⟨1, C, _, qL_reagent_0 (qX9_reagent_3 h1 h2 h3 h4), qX10_reagent_3 h1 h2 h3 h4, rfl, n, L, Rel_thr h⟩
  obtain ⟨p, hp, ep⟩ := pl (m := 7) (by decide) h1
  have hQ := h.2.2.2.1
  have hB := h.2.2.2.2.2.2.2.2
  have hp2 := hQ p hp
  have d1 := rs_of hB hp
  rw [← ep] at d1
  have hr : C 5 p 2 = i3 (rsv L p) := hp2.2.2.2.2.2.1
  have hb : rsv L p ≤ 100000 := Nat.le_trans hp2.2.2.2.2.2.2 hp2.2.2.2.1.2
  by_cases h5 : rsv L p = 0
  · have hr0 : C 5 p 2 = 0 := by rw [hr, h5]; rfl
    rw [h5] at d1
    obtain ⟨hP, hS, hF, _, hN, hO, hH, hC, _⟩ := h
    refine ⟨0, _, _, qL_reagent_2 (qX9_reagent_4 h1 h2 h3 h4 hp ep hr0), qX10_reagent_4 h1 h2 h3 h4 d1 (by decide) hp ep, rfl, n, L, hP, hS, hF, ?_, hN, hO, hH, hC, hB⟩
    intro p' hp'
    by_cases e : p' = p
    · subst e
      refine ⟨?_, ?_, ?_, ?_, ?_, ?_, ?_⟩
      · rw [put_ne (by omega), put_ne (by omega), put_eq ⟨rfl, rfl, rfl⟩]
        show x2 = am_put (am_put D 10 0 45 0) 40 0 p' x2 40 0 p'
        rw [put_eq ⟨rfl, rfl, rfl⟩]
      · show am_put (am_put D 10 0 45 0) 40 0 p' x2 40 0 p' = -1 ∨ wi (am_put (am_put D 10 0 45 0) 40 0 p' x2 40 0 p') 5
        rw [put_eq ⟨rfl, rfl, rfl⟩]; exact Or.inr (wi_le (by decide) h2.1 h2.2)
      · rw [put_ne (by omega), put_eq ⟨rfl, rfl, rfl⟩]
        show x3 = am_put (am_put (am_put D 10 0 45 0) 40 0 p' x2) 41 0 p' x3 41 0 p'
        rw [put_eq ⟨rfl, rfl, rfl⟩]
      · show wi (am_put (am_put (am_put D 10 0 45 0) 40 0 p' x2) 41 0 p' x3 41 0 p') 100000
        rw [put_eq ⟨rfl, rfl, rfl⟩]; exact wi_le (by decide) h3.1 h3.2
      · rw [put_eq ⟨rfl, rfl, rfl⟩, put_eq ⟨rfl, rfl, rfl⟩]
      · rw [put_ne (by omega), put_ne (by omega), put_ne (by omega)]; exact hr
      · rw [h5]; exact Nat.zero_le _
    · simpa [am_put, e] using hQ p' hp'
  · have hr0 : ¬ C 5 p 2 = 0 := by
      rw [hr]; intro q
      exact h5 ((i3_inj (b := 0) (by omega) (by decide)).mp q)
    refine ⟨2, C, _, qL_reagent_1 (qX9_reagent_5 h1 h2 h3 h4 hp ep hr0), qX10_reagent_5 h1 h2 h3 h4 d1 ?_, rfl, n, L, Rel_thr h⟩
    intro q
    have := (i3_le (b := 0) (by omega) (by decide)).mp q
    omega
theorem J_forbid {T : Nat} {C D : am_M} (h : St T C D) (x1 x2 : Int32) : JO T (fL_forbid [.inr (9, 0), .inl (.int x1), .inl (.int x2), .inr (80, 0)] C) (fX10_forbid [.inr (10, 0), .inl (.int x1), .inl (.int x2)] D) := by
  obtain ⟨n, L, h⟩ := h
  by_cases h1 : 0 ≤ x1 ∧ x1 ≤ 5
  case neg => exact JO_no h (qL_forbid_0 (qX9_forbid_0 h1)) (qX10_forbid_0 h1) (by decide)
  by_cases h2 : 0 ≤ x2 ∧ x2 ≤ 5
  case neg => exact JO_no h (qL_forbid_0 (qX9_forbid_1 h1 h2)) (qX10_forbid_1 h1 h2) (by decide)
  obtain ⟨a, ha, ea⟩ := pl (m := 5) (by decide) h1
  obtain ⟨b, hb, eb⟩ := pl (m := 5) (by decide) h2
  have e1 : x1 * 6 + x2 = i3 (6 * a + b) := by
    rw [ea, eb]
    show i3 a * i3 6 + i3 b = _
    rw [i3_mul, i3_add, Nat.mul_comm]
  have e2 : 6 * x1 + x2 = i3 (6 * a + b) := by
    rw [ea, eb]
    show i3 6 * i3 a + i3 b = _
    rw [i3_mul, i3_add]
  have hF := h.2.2.1
  have hi : 6 * a + b < 36 := by omega
  have hc := hF _ hi
  have key : ∀ v : Int32, v = 0 ∨ v = 1 → Rel 1 40 40 T n L (am_put C 21 0 (6 * a + b) v) (am_put (am_put D 10 0 45 0) 43 0 (6 * a + b) v) := by
    intro v hv
    obtain ⟨hP, hS, _, hQ, hN, hO, hH, hC, hB⟩ := h
    refine ⟨hP, hS, ?_, hQ, hN, hO, hH, hC, hB⟩
    intro i hi'
    by_cases e : i = 6 * a + b
    · rw [e, put_eq ⟨rfl, rfl, rfl⟩, put_eq ⟨rfl, rfl, rfl⟩]; exact ⟨rfl, hv⟩
    · simpa [am_put, e] using hF i hi'
  by_cases h3 : am_b (D 43 0 (6 * a + b)) = 0
  · have h3' : am_b (C 21 0 (6 * a + b)) = 0 := by rw [hc.1]; exact h3
    have c1 := qX7_turnSuccession_0 hi e1 h3'
    have d1 := qX10_forbid_2 h1 h2 hi e2 h3
    rw [put_eq ⟨rfl, rfl, rfl⟩] at c1 d1
    exact JO_ok (w := 1) (key 1 (Or.inr rfl)) (qL_forbid_2 (qX9_forbid_2 h1 h2 c1 rfl) (by decide)) d1 rfl
  · have h3' : ¬ am_b (C 21 0 (6 * a + b)) = 0 := by rw [hc.1]; exact h3
    have c1 := qX7_turnSuccession_1 hi e1 h3'
    have d1 := qX10_forbid_3 h1 h2 hi e2 h3
    rw [put_eq ⟨rfl, rfl, rfl⟩] at c1 d1
    exact JO_ok (w := 0) (key 0 (Or.inl rfl)) (qL_forbid_1 (qX9_forbid_2 h1 h2 c1 rfl) rfl) d1 rfl
theorem J_state {T : Nat} {C D : am_M} (h : St T C D) (x1 x2 : Int32) : JO T (fL_state [.inr (9, 0), .inl (.int x1), .inl (.int x2), .inr (80, 0)] C) (fX10_state [.inr (10, 0), .inl (.int x1), .inl (.int x2)] D) := by
  obtain ⟨n, L, h⟩ := h
  have hN := h.2.2.2.2.1
  have hO := h.2.2.2.2.2.1
  have hn := hN.2.1
  have h40 := hN.2.2.1
  have e7 : C 9 0 7 = i3 n := hN.1
  have hr : 0 ≤ x1 ∧ x1 ≤ C 9 0 7 - 1 ↔ ¬ x1 < 0 ∧ ¬ D 10 0 14 ≤ x1 := by
    rw [e7, hn, i3_nlt, i3_nle, Int32.le_iff_toInt_le, Int32.le_iff_toInt_le, Int32.lt_iff_toInt_lt, i3_toInt (by omega)]
    have : (i3 n - 1).toInt = (n : Int) - 1 := by
      rcases Nat.eq_zero_or_pos n with q | q
      · rw [q]; decide
      · rw [show (1 : Int32) = i3 1 from rfl, i3_sub q, i3_toInt (by omega)]; omega
    rw [this]; omega
  by_cases h1 : 0 ≤ x1 ∧ x1 ≤ C 9 0 7 - 1
  case neg =>
    refine JO_no h (qL_state_0 (qX9_state_0 h1)) ?_ (by decide) (w := 0)
    by_cases q : x1 < 0
    · exact qX10_state_0 q
    · by_cases q2 : D 10 0 14 ≤ x1
      · exact qX10_state_1 q q2
      · exact absurd (hr.mpr ⟨q, q2⟩) h1
  have ⟨a1, a2⟩ := hr.mp h1
  by_cases h2 : 0 ≤ x2 ∧ x2 ≤ 6
  case neg => exact JO_no h (qL_state_0 (qX9_state_1 h1 h2)) (qX10_state_2 a1 a2 h2) (by decide)
  have ho : ∃ o, o < n ∧ x1 = i3 o := by
    refine ⟨nt x1, ?_, i3_nt h1.1⟩
    have := i3_nle.mp a2
    rw [hn, i3_nt h1.1] at this
    exact (i3_lt (nt_lt _) (by omega)).mp this
  obtain ⟨o, ho, eo⟩ := ho
  have o40 : o < 40 := by omega
  obtain ⟨q0, q1, q2, q3, q4, q5, q6, q8, q9⟩ := hO.1 o o40
  have q7 := (hO.2.2.2.2.2.2.1 o ho).1
  have done : ∀ {w : Int32}, fX9_state [.inr (9, 0), .inl (.int x1), .inl (.int x2)] C = am_rI w C → fX10_state [.inr (10, 0), .inl (.int x1), .inl (.int x2)] D = am_rI w (am_put D 10 0 45 0) → JO T (fL_state [.inr (9, 0), .inl (.int x1), .inl (.int x2), .inr (80, 0)] C) (fX10_state [.inr (10, 0), .inl (.int x1), .inl (.int x2)] D) := fun c d => JO_ok (Rel_thr h) (qL_state_1 c) d rfl
  by_cases run : D 48 0 o = 1
  · have w51 := hO.2.2.2.2.2.2.2.2.1 o ho run
    have e51 : D 51 0 o = i3 (nt (D 51 0 o)) := w51.1
    have hc10 : nt (D 51 0 o) < 10 := by have := w51.2; omega
    have cv := sX9_cuvetteOf1 o C (q7.trans e51) hc10
    have ru := h.2.2.2.2.2.2.2.1.2.2 o _ ho hc10 e51
    by_cases k0 : x2 = 0
    · exact done (qX9_state_2 h1 h2 o40 eo cv hc10 k0) (by rw [q3]; exact qX10_state_3 a1 a2 h2 k0 o40 eo)
    by_cases k1 : x2 = 1
    · exact done (qX9_state_3 h1 h2 o40 eo cv hc10 k0 k1) (by rw [q4]; exact qX10_state_4 a1 a2 h2 k0 k1 o40 eo)
    by_cases k2 : x2 = 2
    · exact done (qX9_state_4 h1 h2 o40 eo cv hc10 k0 k1 k2) (by rw [q5]; exact qX10_state_5 a1 a2 h2 k0 k1 k2 o40 eo)
    by_cases k3 : x2 = 3
    · exact done (qX9_state_5 h1 h2 o40 eo cv hc10 k0 k1 k2 k3) (by rw [q7]; exact qX10_state_6 a1 a2 h2 k0 k1 k2 k3 o40 eo)
    by_cases k4 : x2 = 4
    · exact done (qX9_state_6 h1 h2 o40 eo cv hc10 k0 k1 k2 k3 k4) (by rw [ru.2.2.1]; exact qX10_state_7 a1 a2 h2 k0 k1 k2 k3 k4 o40 eo run)
    by_cases k5 : x2 = 5
    · exact done (qX9_state_7 h1 h2 o40 eo cv hc10 k0 k1 k2 k3 k4 k5) (by rw [q8]; exact qX10_state_9 a1 a2 h2 k0 k1 k2 k3 k4 k5 o40 eo)
    · exact done (qX9_state_8 h1 h2 o40 eo cv hc10 k0 k1 k2 k3 k4 k5) (by rw [q9]; exact qX10_state_10 a1 a2 h2 k0 k1 k2 k3 k4 k5 o40 eo)
  · have e51 := hO.2.2.2.2.2.2.2.1 o ho run
    have cv := sX9_cuvetteOf0 o C (q7.trans e51)
    by_cases k0 : x2 = 0
    · exact done (qX9_state_9 h1 h2 o40 eo cv k0) (by rw [q3]; exact qX10_state_3 a1 a2 h2 k0 o40 eo)
    by_cases k1 : x2 = 1
    · exact done (qX9_state_10 h1 h2 o40 eo cv k0 k1) (by rw [q4]; exact qX10_state_4 a1 a2 h2 k0 k1 o40 eo)
    by_cases k2 : x2 = 2
    · exact done (qX9_state_11 h1 h2 o40 eo cv k0 k1 k2) (by rw [q5]; exact qX10_state_5 a1 a2 h2 k0 k1 k2 o40 eo)
    by_cases k3 : x2 = 3
    · exact done (qX9_state_12 h1 h2 o40 eo cv k0 k1 k2 k3) (by rw [q7]; exact qX10_state_6 a1 a2 h2 k0 k1 k2 k3 o40 eo)
    by_cases k4 : x2 = 4
    · exact done (qX9_state_13 h1 h2 o40 eo cv k0 k1 k2 k3 k4) (qX10_state_8 a1 a2 h2 k0 k1 k2 k3 k4 o40 eo run)
    by_cases k5 : x2 = 5
    · exact done (qX9_state_14 h1 h2 o40 eo cv k0 k1 k2 k3 k4 k5) (by rw [q8]; exact qX10_state_9 a1 a2 h2 k0 k1 k2 k3 k4 k5 o40 eo)
    · exact done (qX9_state_15 h1 h2 o40 eo cv k0 k1 k2 k3 k4 k5) (by rw [q9]; exact qX10_state_10 a1 a2 h2 k0 k1 k2 k3 k4 k5 o40 eo)
theorem J_cuvette {T : Nat} {C D : am_M} (h : St T C D) (x1 x2 : Int32) : JO T (fL_cuvette [.inr (9, 0), .inl (.int x1), .inl (.int x2), .inr (80, 0)] C) (fX10_cuvette [.inr (10, 0), .inl (.int x1), .inl (.int x2)] D) := by
  obtain ⟨n, L, h⟩ := h
  have hN := h.2.2.2.2.1
  have hO := h.2.2.2.2.2.1
  have hC := h.2.2.2.2.2.2.2.1
  have hn := hN.2.1
  have h40 := hN.2.2.1
  by_cases h1 : 0 ≤ x1 ∧ x1 ≤ 9
  case neg => exact JO_no h (qL_cuvette_0 (qX9_cuvette_0 h1)) (qX10_cuvette_0 h1) (by decide)
  by_cases h2 : 0 ≤ x2 ∧ x2 ≤ 2
  case neg => exact JO_no h (qL_cuvette_0 (qX9_cuvette_1 h1 h2)) (qX10_cuvette_1 h1 h2) (by decide)
  obtain ⟨c, hc, ec⟩ := pl (m := 9) (by decide) h1
  obtain ⟨r1, _, r3⟩ := hC.1 c hc
  by_cases k1 : x2 = 1
  · have k0 : ¬ x2 = 0 := by rw [k1]; decide
    refine JO_ok (w := C 1 c 8) (Rel_thr h) (qL_cuvette_1 (qX9_cuvette_3 h1 h2 hc ec k0 k1)) ?_ rfl
    rw [r1]; exact qX10_cuvette_2 h1 h2 k1 hc ec
  by_cases k2 : x2 = 2
  · have k0 : ¬ x2 = 0 := by rw [k2]; decide
    refine JO_ok (w := C 1 c 9) (Rel_thr h) (qL_cuvette_1 (qX9_cuvette_4 h1 h2 hc ec k0 k1)) ?_ rfl
    rw [r3]; exact qX10_cuvette_3 h1 h2 k1 k2 hc ec
  have k0 : x2 = 0 := by
    obtain ⟨k, hk, e⟩ := pl (m := 2) (by decide) h2
    rw [e] at k1 k2 ⊢
    have a : k ≠ 1 := fun q => k1 (by rw [q]; rfl)
    have b : k ≠ 2 := fun q => k2 (by rw [q]; rfl)
    rw [show k = 0 by omega]; rfl
  have lp := lp_find (r := fun m i => rX10_cuvette m 63 [.inr (10, 0), .inl (.int x1), .inl (.int x2), .inl (.int (i3 i))] [] (am_put D 10 0 45 0)) (N := n) (c := 100) (P := fun i => D 51 0 i = x1) (yes := fun i => (.inl (some (.inl (.int (i3 i)))), am_put D 10 0 45 0)) (no := (.inl (some (.inl (.int (-1)))), am_put D 10 0 45 0))
    (by intro i m hi hp; exact qX10_cuvette_63_1 (hge hn hi (by omega)) (by omega) hp)
    (by intro i m res hi hp k; exact qX10_cuvette_63_2 (hge hn hi (by omega)) (by omega) hp k)
    (by intro m; exact qX10_cuvette_63_0 (hen hn (by omega))) n 0 (Nat.zero_add n)
  have c1 := qL_cuvette_1 (qX9_cuvette_2 (M := C) h1 h2 hc ec k0)
  rcases lp with ⟨j, _, hj, hp, _, hr⟩ | ⟨hp, hr⟩
  · have ru := hC.2.2 j c hj hc (hp.trans ec)
    rw [ru.1] at c1
    exact JO_ok (w := i3 j) (Rel_thr h) c1 (qX10_cuvette_4 h1 h2 k1 k2 (hr 99700 (by omega))) rfl
  · have e : C 1 c 5 = -1 := by
      rcases hC.2.1 c hc with q | ⟨o, ho, _, q⟩
      · exact q
      · exact absurd (q.trans ec.symm) (hp o (Nat.zero_le _) ho)
    rw [e] at c1
    exact JO_ok (w := -1) (Rel_thr h) c1 (qX10_cuvette_4 h1 h2 k1 k2 (hr 99700 (by omega))) rfl
theorem J_volume {T : Nat} {C D : am_M} (h : St T C D) (x1 x2 : Int32) : JO T (fL_volume [.inr (9, 0), .inl (.int x1), .inl (.int x2), .inr (80, 0)] C) (fX10_volume [.inr (10, 0), .inl (.int x1), .inl (.int x2)] D) := by
  obtain ⟨n, L, h⟩ := h
  have hS := h.2.1
  have hQ := h.2.2.2.1
  by_cases h1 : 0 ≤ x1 ∧ x1 ≤ 2
  case neg => exact JO_no h (qL_volume_0 (qX9_volume_0 h1)) (qX10_volume_0 h1) (by decide)
  by_cases k0 : x1 = 0
  · by_cases h2 : 0 ≤ x2 ∧ x2 ≤ 5
    case neg => exact JO_no h (qL_volume_0 (qX9_volume_1 h1 k0 h2)) (qX10_volume_1 h1 k0 h2) (by decide)
    obtain ⟨s, hs, es⟩ := pl (m := 5) (by decide) h2
    by_cases h3 : C 8 s 0 = -1
    · exact JO_no h (qL_volume_1 (qX9_volume_3 h1 k0 h2 hs es h3)) (qX10_volume_2 h1 k0 h2 hs es ((slot_e hS hs).mp h3)) (by decide)
    · refine JO_ok (w := C 8 s 2) (Rel_thr h) (qL_volume_2 (qX9_volume_2 h1 k0 h2 hs es h3)) ?_ rfl
      rw [(hS s hs).2.2.2.1]
      exact qX10_volume_3 h1 k0 h2 hs es (fun q => h3 ((slot_e hS hs).mpr q))
  · by_cases h2 : 0 ≤ x2 ∧ x2 ≤ 7
    case neg => exact JO_no h (qL_volume_0 (qX9_volume_4 h1 k0 h2)) (qX10_volume_4 h1 k0 h2) (by decide)
    obtain ⟨p, hp, ep⟩ := pl (m := 7) (by decide) h2
    obtain ⟨r1, r2, r3, r4, r5, r6, r7⟩ := hQ p hp
    by_cases h3 : C 5 p 0 = -1
    · refine JO_no h (qL_volume_1 (qX9_volume_7 h1 k0 h2 hp ep h3)) (qX10_volume_7 h1 k0 h2 hp ep ?_) (by decide)
      rw [← r1, h3]; decide
    · have h3' : 0 ≤ D 40 0 p := by
        rcases r2 with q | q
        · rw [r1] at h3; exact absurd q h3
        · exact wi_ge q
      by_cases k1 : x1 = 1
      · refine JO_ok (w := C 5 p 1) (Rel_thr h) (qL_volume_2 (qX9_volume_5 h1 k0 h2 hp ep h3 k1)) ?_ rfl
        rw [r3]
        exact qX10_volume_5 h1 k0 h2 hp ep h3' k1
      · refine JO_ok (w := C 5 p 2) (Rel_thr h) (qL_volume_2 (qX9_volume_6 h1 k0 h2 hp ep h3 k1)) ?_ rfl
        rw [r6]
        have d1 := rs_of (Rel_thr (v := 0) h).2.2.2.2.2.2.2.2 hp
        rw [← ep] at d1
        exact qX10_volume_6 h1 k0 h2 hp ep h3' k1 d1
theorem J_host {T : Nat} {C D : am_M} (h : St T C D) (x1 : Int32) : JO T (fL_host [.inr (9, 0), .inl (.int x1), .inr (80, 0)] C) (fX10_host [.inr (10, 0), .inl (.int x1)] D) := by
  obtain ⟨n, L, h⟩ := h
  obtain ⟨h1, h2, h3⟩ := h.2.2.2.2.2.2.1
  have hrel : ∀ k, rel (D 48 0) k ≤ k := by
    intro k
    induction k with
    | zero => exact Nat.le_refl 0
    | succ k ih => unfold rel; split <;> omega
  have hb := hrel 40
  have e1 : D 10 0 40 = i3 (nt (D 10 0 40)) := h2.1
  have hh : nt (D 10 0 40) ≤ 40 := Nat.le_trans h2.2 hb
  have hr : 0 ≤ x1 ∧ x1 ≤ C 3 0 1 - 1 ↔ ¬ x1 < 0 ∧ x1 < D 10 0 40 := by
    rw [h1, e1, i3_nlt, Int32.le_iff_toInt_le, Int32.le_iff_toInt_le, Int32.lt_iff_toInt_lt, i3_toInt (nt_lt _)]
    have : (i3 (nt (D 10 0 40)) - 1).toInt = (nt (D 10 0 40) : Int) - 1 := by
      rcases Nat.eq_zero_or_pos (nt (D 10 0 40)) with q | q
      · rw [q]; decide
      · rw [show (1 : Int32) = i3 1 from rfl, i3_sub q, i3_toInt (by omega)]; omega
    rw [this]; omega
  by_cases k : 0 ≤ x1 ∧ x1 ≤ C 3 0 1 - 1
  · have ⟨a, b⟩ := hr.mp k
    have hj : nt x1 < 40 := by
      have : nt x1 < nt (D 10 0 40) := by
        rw [e1, i3_nt k.1] at b
        exact (i3_lt (nt_lt _) (nt_lt _)).mp b
      omega
    refine JO_ok (w := C 17 0 (nt x1)) (Rel_thr h) (qL_host_1 (qX9_host_1 k hj (i3_nt k.1))) ?_ rfl
    rw [h3 _ hj]
    exact qX10_host_1 a b hj (i3_nt k.1)
  · refine JO_no h (qL_host_0 (qX9_host_0 k)) ?_ (by decide) (w := 0)
    by_cases q : x1 < 0
    · exact qX10_host_0 q
    · exact qX10_host_2 q (fun q2 => k (hr.mpr ⟨q, q2⟩))
