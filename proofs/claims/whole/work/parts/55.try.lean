/-! ===== the try of one order, both sides ===== -/
theorem J_try {T n o : Nat} {L : List Bk} {C D : am_M} (h : Rel 1 40 40 T n L C D) (hT : T ≤ 1000000) (ho : o < n) (hw : D 48 0 o = 0) :
    ∃ b C' D' L', fX9_tryStart [.inr (9, 0), .inl (.int (i3 o))] C = am_rI b C' ∧ fX10_tries [.inr (10, 0), .inl (.int (i3 o))] D = am_rI b D' ∧ Rel 1 40 40 T n L' C' D' := by
  have h0 := h
  obtain ⟨hP, hS, hF, hQ, hN, hO, hH, hC, hB⟩ := h0
  have h40 := hN.2.2.1
  have o40 : o < 40 := by omega
  have t4 := t4_of hO o40
  have et : D 46 0 o = i3 (nt (D 46 0 o)) := (hO.2.1 o o40).1.1
  obtain ⟨r0, r1, r2, r3, r4, r5, r6, r8, r9⟩ := hO.1 o o40
  replace r0 := r0 ho
  have etC : C 4 o 1 = i3 (nt (D 46 0 o)) := r1.trans et
  have len := bk_len hB
  have e51 : D 51 0 o = -1 := hO.2.2.2.2.2.2.2.1 o ho (by rw [hw]; decide)
  have d53 := (hO.2.1 o o40).2.2.2.2
  have noL : ∀ x, x ∈ L → ¬ x.2.2.2.2 = o := by
    intro x hx e
    obtain ⟨c', hc', q, _⟩ := (hB.2.2.2.1 x hx).2.2.2.2.2.2
    rw [e, e51] at q
    exact i3_nm (by omega) q.symm
  -- the slot
  have sl9 := sX9_slotOf (C 4 o 0) C
  have sl10 := sX10_slotOf (D 45 0 o) D
  rw [r0, slot_cg hS (hO.2.2.2.2.2.2.1 o ho).2.1] at sl9
  rw [← r0] at sl9
  have spec := fst1_spec (P := fun s => D 37 0 s = D 45 0 o) 6 0
  rw [r0] at sl9
  generalize fst1 (fun s => D 37 0 s = D 45 0 o) 6 0 = sl at sl9 sl10 spec
  rw [← r0] at sl9
  rcases spec with ⟨es, _⟩ | ⟨s, _, hs, _, es⟩
  · exact ⟨0, C, D, L, qX9_tryStart_0 o40 rfl t4 etC sl9 es, qX10_tries_10 o40 rfl sl10 (m1n _ es), h⟩
  have s6 : s < 6 := by omega
  subst es
  have nms : ¬ i3 s = -1 := i3_nm (by omega)
  have ges : (0 : Int32) ≤ i3 s := i3_ge (by omega)
  -- how much sample
  have w0 : wi (fd D (nt (D 46 0 o)) 0) 500 := RP_wi hP t4 (f := 0) (m := 500) (by decide) rfl rfl (by decide)
  have g13 : 0 < fd D (nt (D 46 0 o)) 13 := by
    have q := (hP.2.1 _ 13 t4 (by decide)).1
    exact Int32.lt_of_lt_of_le (show (0 : Int32) < am_st 27 13 by decide) q
  have n13 : ¬ fd D (nt (D 46 0 o)) 13 = 0 := fun q => by rw [q] at g13; exact absurd g13 (by decide)
  obtain ⟨vol, hvol⟩ : ∃ vol, vol = if D 53 0 o = 0 then fd D (nt (D 46 0 o)) 0 else fd D (nt (D 46 0 o)) 0 / fd D (nt (D 46 0 o)) 13 := ⟨_, rfl⟩
  have wv : wi vol 500 := by
    rw [hvol]
    by_cases e : D 53 0 o = 0
    · rw [if_pos e]; exact w0
    · rw [if_neg e]; exact div_wi w0 (by decide) g13
  have sv : ∀ M : am_M, M 18 = C 18 → M 4 o 6 = C 4 o 6 → ∀ M' : am_M, M' 18 = C 18 → fX6_sampleVolume [.inr (6, nt (D 46 0 o)), .inl (.int (am_b (M 4 o 6)))] M' = am_rI vol M' := by
    intro M _ e6 M' e18
    have q := sX6_sampleVolume (nt (D 46 0 o)) (am_b (M 4 o 6)) M' (by rw [e18, hP.1 _ 13 t4 (by decide)]; exact g13)
    rw [e6, r6, b01 d53, e18, hP.1 _ 0 t4 (by decide), hP.1 _ 13 t4 (by decide), ← hvol] at q
    rw [e6, r6, b01 d53]
    exact q
  have sv0 := sv C rfl rfl C rfl
  have c82 : C 8 s 2 = D 39 0 s := (hS s s6).2.2.2.1
  -- the reference, whatever the dilution
  have ab : am_b (D 53 0 o) = D 53 0 o := b01 d53
  have T4 : ¬ vol ≤ D 39 0 s → ∀ M5, fX10_fail [.inr (10, 0), .inl (.int (i3 o)), .inl (.int 1)] D = am_rV M5 → fX10_tries [.inr (10, 0), .inl (.int (i3 o))] D = am_rI 0 M5 := by
    intro hv M5 k
    by_cases e : D 53 0 o = 0
    · rw [hvol, if_pos e] at hv
      exact qX10_tries_4 o40 rfl sl10 ges (ab.trans e) t4 et s6 rfl hv k
    · rw [hvol, if_neg e] at hv
      exact qX10_tries_9 o40 rfl sl10 ges (by rw [ab]; exact e) t4 et n13 s6 rfl hv k
  have T0 : vol ≤ D 39 0 s → ∀ v5 M6 M7 M8, fX10_book [.inr (10, 0), .inl (.int (i3 o))] D = am_rI v5 M6 → v5 = 0 → fX10_cancel [.inr (10, 0), .inl (.int (i3 o))] M6 = am_rV M7 → fX10_fail [.inr (10, 0), .inl (.int (i3 o)), .inl (.int 2)] M7 = am_rV M8 → fX10_tries [.inr (10, 0), .inl (.int (i3 o))] D = am_rI 0 M8 := by
    intro hv v5 M6 M7 M8 k1 k2 k3 k4
    by_cases e : D 53 0 o = 0
    · rw [hvol, if_pos e] at hv
      exact qX10_tries_0 o40 rfl sl10 ges (ab.trans e) t4 et s6 rfl hv k1 k2 k3 k4
    · rw [hvol, if_neg e] at hv
      exact qX10_tries_5 o40 rfl sl10 ges (by rw [ab]; exact e) t4 et n13 s6 rfl hv k1 k2 k3 k4
  have T1 : vol ≤ D 39 0 s → ∀ v5 M6 v7 M8, fX10_book [.inr (10, 0), .inl (.int (i3 o))] D = am_rI v5 M6 → ¬ v5 = 0 → fX10_clean [.inr (10, 0)] M6 = am_rI v7 M6 → v7 < 0 → fX10_cancel [.inr (10, 0), .inl (.int (i3 o))] M6 = am_rV M8 → fX10_tries [.inr (10, 0), .inl (.int (i3 o))] D = am_rI 0 M8 := by
    intro hv v5 M6 v7 M8 k1 k2 k3 k4 k5
    by_cases e : D 53 0 o = 0
    · rw [hvol, if_pos e] at hv
      exact qX10_tries_1 o40 rfl sl10 ges (ab.trans e) t4 et s6 rfl hv k1 k2 k3 k4 k5
    · rw [hvol, if_neg e] at hv
      exact qX10_tries_6 o40 rfl sl10 ges (by rw [ab]; exact e) t4 et n13 s6 rfl hv k1 k2 k3 k4 k5
  have T2 : vol ≤ D 39 0 s → ∀ v5 M6 v7 v8 M9, fX10_book [.inr (10, 0), .inl (.int (i3 o))] D = am_rI v5 M6 → ¬ v5 = 0 → fX10_clean [.inr (10, 0)] M6 = am_rI v7 M6 → ¬ v7 < 0 → fX10_allowed [.inr (10, 0)] M6 = am_rI v8 M6 → v8 = 0 → fX10_cancel [.inr (10, 0), .inl (.int (i3 o))] M6 = am_rV M9 → fX10_tries [.inr (10, 0), .inl (.int (i3 o))] D = am_rI 0 M9 := by
    intro hv v5 M6 v7 v8 M9 k1 k2 k3 k4 k5 k6 k7
    by_cases e : D 53 0 o = 0
    · rw [hvol, if_pos e] at hv
      exact qX10_tries_2 o40 rfl sl10 ges (ab.trans e) t4 et s6 rfl hv k1 k2 k3 k4 k5 k6 k7
    · rw [hvol, if_neg e] at hv
      exact qX10_tries_7 o40 rfl sl10 ges (by rw [ab]; exact e) t4 et n13 s6 rfl hv k1 k2 k3 k4 k5 k6 k7
  have T3 : vol ≤ D 39 0 s → ∀ v5 M6 v7 v8 M9, fX10_book [.inr (10, 0), .inl (.int (i3 o))] D = am_rI v5 M6 → ¬ v5 = 0 → fX10_clean [.inr (10, 0)] M6 = am_rI v7 M6 → ¬ v7 < 0 → fX10_allowed [.inr (10, 0)] M6 = am_rI v8 M6 → ¬ v8 = 0 → fX10_start [.inr (10, 0), .inl (.int (i3 o)), .inl (.int (i3 s)), .inl (.int v7), .inl (.int vol)] M6 = am_rV M9 → fX10_tries [.inr (10, 0), .inl (.int (i3 o))] D = am_rI 1 M9 := by
    intro hv v5 M6 v7 v8 M9 k1 k2 k3 k4 k5 k6 k7
    by_cases e : D 53 0 o = 0
    · rw [hvol, if_pos e] at hv k7
      exact qX10_tries_3 o40 rfl sl10 ges (ab.trans e) t4 et s6 rfl hv k1 k2 k3 k4 k5 k6 k7
    · rw [hvol, if_neg e] at hv k7
      exact qX10_tries_8 o40 rfl sl10 ges (by rw [ab]; exact e) t4 et n13 s6 rfl hv k1 k2 k3 k4 k5 k6 k7
  by_cases enough : vol ≤ D 39 0 s
  case neg =>
    exact ⟨0, _, _, L, qX9_tryStart_6 o40 rfl t4 etC sl9 nms s6 rfl sv0 (by rw [c82]; exact enough), T4 enough _ (qX10_fail_0 o40 rfl), Rel_fail h ho hw (fun _ _ _ _ _ _ _ => rfl) (fun _ _ => rfl) hB.1 hB.2.2.1⟩
  have en9 : vol ≤ C 8 s 2 := by rw [c82]; exact enough
  obtain ⟨v6, v7, r, D1, L1, p0, p1, bk, hr0, hr1, memo, l2, g1, g2, g3, g4⟩ := J_book h hT ho hw
  have rest : ∃ D2, fX10_cancel [.inr (10, 0), .inl (.int (i3 o))] D1 = am_rV D2 ∧ (∀ b x, L[b]? = some x → bcell D2 b x) ∧ D2 10 0 36 = i3 L.length ∧ (∀ k, ¬ k = 10 → ¬ k = 61 → ¬ k = 62 → ¬ k = 63 → ¬ k = 64 → ¬ k = 65 → D2 k = D k) ∧ (∀ f, ¬ f = 36 → D2 10 0 f = D 10 0 f) := by
    obtain ⟨D2, q1, q2, q3, q4, q5⟩ := sX10_cancel (L := L ++ L1) (D := D1) o40 g1 (by rw [List.length_append]; omega) g2 (fun x hx => by
      rcases List.mem_append.1 hx with q | q
      · have := (hB.2.2.2.1 x q).2.2.2.2.2.1; omega
      · rw [memo x q]; exact o40)
    rw [oth_back noL memo] at q2 q3
    exact ⟨D2, q1, q2, q3, fun k a1 a2 a3 a4 a5 a6 => (q4 k a1 a2 a3 a4 a5 a6).trans (g3 k a1 a2 a3 a4 a5 a6), fun f hf => (q5 f hf).trans (g4 f hf)⟩
  obtain ⟨Db, b1, b2, b3, b4, b5⟩ := rest
  have c181 : C 18 (nt (D 46 0 o)) 1 = fd D (nt (D 46 0 o)) 1 := hP.1 _ 1 t4 (by decide)
  have c184 : C 18 (nt (D 46 0 o)) 4 = fd D (nt (D 46 0 o)) 4 := hP.1 _ 4 t4 (by decide)
  by_cases hr : r = 0
  · have RF := Rel_fail (y := 2) h ho hw b4 b5 b3 b2
    have ref := T0 enough _ _ _ _ bk hr b1 (qX10_fail_0 o40 rfl)
    by_cases q : ¬ C 18 (nt (D 46 0 o)) 1 = -1 ∧ v6 = -1
    · exact ⟨0, _, _, L, qX9_tryStart_5 o40 rfl t4 etC sl9 nms s6 rfl sv0 en9 p0 p1 q, ref, RF⟩
    · refine ⟨0, _, _, L, qX9_tryStart_4 o40 rfl t4 etC sl9 nms s6 rfl sv0 en9 p0 p1 q ?_, ref, RF⟩
      rw [c184]
      rcases hr0 hr with z | z
      · rw [← c181] at z; exact absurd z q
      · exact z
  obtain ⟨h6, h7, hL1, cap⟩ := hr1 hr
  have la0 : ¬ (¬ C 18 (nt (D 46 0 o)) 1 = -1 ∧ v6 = -1) := by
    rw [c181]; intro ⟨z1, z2⟩
    rcases h6 with z | z
    · exact z1 z.2
    · have := z.1.1; rw [z2] at this; exact i3_nm (nt_lt _) this.symm
  have la1 : ¬ (¬ C 18 (nt (D 46 0 o)) 4 = -1 ∧ v7 = -1) := by
    rw [c184]; intro ⟨z1, z2⟩
    rcases h7 with z | z
    · exact z1 z.2
    · have := z.1.1; rw [z2] at this; exact i3_nm (nt_lt _) this.symm
  have d51 : D1 51 = D 51 := g3 51 (by decide) (by decide) (by decide) (by decide) (by decide) (by decide)
  have d59 : D1 59 = D 59 := g3 59 (by decide) (by decide) (by decide) (by decide) (by decide) (by decide)
  have cl9 := sX9_cleanCuvette C
  have cl10 := sX10_clean (n := n) D1 (by rw [g4 14 (by decide)]; exact hN.2.1) h40
  rw [d51, d59] at cl10
  rw [clean_cg h40 hC] at cl9
  have cs := fst1_spec (P := fun c => D 59 0 c = 0 ∧ ∀ o, o < n → ¬ D 51 0 o = i3 c) 10 0
  generalize fst1 (fun c => D 59 0 c = 0 ∧ ∀ o, o < n → ¬ D 51 0 o = i3 c) 10 0 = cv at cl9 cl10 cs
  rcases cs with ⟨ec, _⟩ | ⟨c, _, hc', ⟨hc59, hc51⟩, ec⟩
  · exact ⟨0, C, Db, L, qX9_tryStart_1 o40 rfl t4 etC sl9 nms s6 rfl sv0 en9 p0 p1 la0 la1 cl9 ec, T1 enough _ _ _ _ bk hr cl10 (by rw [ec]; decide) b1, Rel_same h (fun _ _ _ => rfl) (fun _ => ⟨rfl, rfl⟩) b4 b5 b3 b2⟩
  have hc : c < 10 := by omega
  subst ec
  have nmc : ¬ i3 c = -1 := i3_nm (by omega)
  have nlc : ¬ i3 c < 0 := i3_nl (by omega)
  have hcl : C 1 c 5 = -1 := by
    rcases hC.2.1 c hc with e | ⟨o', ho', _, e⟩
    · exact e
    · exact absurd e (hc51 o' ho')
  obtain ⟨b, C1, a1, a2, a3, a4, a5, mem⟩ := J_arm h hT ho hw hc hcl h6 h7 hL1 g1 g2 (g3 43 (by decide) (by decide) (by decide) (by decide) (by decide) (by decide)) g4
  by_cases hb : b = 0
  · exact ⟨0, C1, Db, L, qX9_tryStart_2 o40 rfl t4 etC sl9 nms s6 rfl sv0 en9 p0 p1 la0 la1 cl9 nmc a1 hb, T2 enough _ _ _ _ _ bk hr cl10 nlc a2 hb b1, Rel_same h a3 (a4 hb) b4 b5 b3 b2⟩
  obtain ⟨nd, eC1⟩ := a5 hb
  -- the class's side of the beginning
  have ct01 : C 8 s 1 = 0 ∨ C 8 s 1 = 1 := by rw [(hS s s6).2.1]; exact (hS s s6).2.2.1
  have eCt : C1 8 s 1 = C 8 s 1 := by rw [a3 8 (by decide) (by decide)]
  have bct : am_b (C1 8 s 1) = C 8 s 1 := by rw [eCt]; exact b01 ct01
  have st1 := qX1_start_0 (x0 := c) (x1 := i3 o) (x2 := am_b (C1 8 s 1)) (M := C1) (by rw [bct]; exact b01 ct01)
  obtain ⟨M12, hM12⟩ : ∃ M, M = am_put (am_put (am_put (am_put (am_put C1 1 c 5 (i3 o)) 1 c 6 (am_b (C1 8 s 1))) 1 c 7 0) 1 c 1 0) 1 c 4 0 := ⟨_, rfl⟩
  rw [← hM12] at st1
  have m12k : ∀ k, ¬ k = 1 → M12 k = C1 k := fun k hk => by rw [hM12]; funext i f; rw [am_put_nk hk, am_put_nk hk, am_put_nk hk, am_put_nk hk, am_put_nk hk]
  have m12o : ∀ c' f, ¬ c' = c → M12 1 c' f = C 1 c' f := fun c' f hk => by rw [hM12, am_put_ni hk, am_put_ni hk, am_put_ni hk, am_put_ni hk, am_put_ni hk, a3 1 (by decide) (by decide)]
  have m5 : M12 1 c 5 = i3 o := by rw [hM12, am_put_nf (by decide), am_put_nf (by decide), am_put_nf (by decide), am_put_nf (by decide), am_put_i]
  have m6 : M12 1 c 6 = C 8 s 1 := by rw [hM12, am_put_nf (by decide), am_put_nf (by decide), am_put_nf (by decide), am_put_i]; exact bct
  have m7 : M12 1 c 7 = 0 := by rw [hM12, am_put_nf (by decide), am_put_nf (by decide), am_put_i]
  have m1 : M12 1 c 1 = 0 := by rw [hM12, am_put_nf (by decide), am_put_i]
  have m4 : M12 1 c 4 = 0 := by rw [hM12, am_put_i]
  have m8 : M12 1 c 8 = C 1 c 8 := by rw [hM12, am_put_nf (by decide), am_put_nf (by decide), am_put_nf (by decide), am_put_nf (by decide), am_put_nf (by decide), a3 1 (by decide) (by decide)]
  have m9 : M12 1 c 9 = C 1 c 9 := by rw [hM12, am_put_nf (by decide), am_put_nf (by decide), am_put_nf (by decide), am_put_nf (by decide), am_put_nf (by decide), a3 1 (by decide) (by decide)]
  clear hM12
  obtain ⟨M13, n1, n2, n3, n4, n5, n6, n7⟩ := sX9_reserve (c := c) (w := 0) (v := v6) (x := M12 18 (nt (D 46 0 o)) 2) M12 (by decide) (h6.elim (fun q => Or.inl q.1) (fun q => Or.inr q.1))
  obtain ⟨M14, k1, k2, k3, k4, k5, k6, k7⟩ := sX9_reserve (c := c) (w := 1) (v := v7) (x := M13 18 (nt (D 46 0 o)) 5) M13 (by decide) (h7.elim (fun q => Or.inl q.1) (fun q => Or.inr q.1))
  have M12k : ∀ k, ¬ k = 1 → ¬ k = 19 → ¬ k = 20 → M12 k = C k := fun k z1 z2 z3 => (m12k k z1).trans (a3 k z2 z3)
  have M13k : ∀ k, ¬ k = 1 → ¬ k = 5 → ¬ k = 14 → ¬ k = 15 → ¬ k = 19 → ¬ k = 20 → M13 k = C k := fun k z1 z2 z3 z4 z5 z6 => (n2 k z2 z3 z4).trans (M12k k z1 z5 z6)
  have M14k : ∀ k, ¬ k = 1 → ¬ k = 5 → ¬ k = 14 → ¬ k = 15 → ¬ k = 19 → ¬ k = 20 → M14 k = C k := fun k z1 z2 z3 z4 z5 z6 => (k2 k z2 z3 z4).trans (M13k k z1 z2 z3 z4 z5 z6)
  have M14_1 : M14 1 = M12 1 := (k2 1 (by decide) (by decide) (by decide)).trans (n2 1 (by decide) (by decide) (by decide))
  have M14_19 : M14 19 = C1 19 := ((k2 19 (by decide) (by decide) (by decide)).trans (n2 19 (by decide) (by decide) (by decide))).trans (m12k 19 (by decide))
  have M14_20 : M14 20 = C1 20 := ((k2 20 (by decide) (by decide) (by decide)).trans (n2 20 (by decide) (by decide) (by decide))).trans (m12k 20 (by decide))
  have M14_4 : M14 4 = C 4 := M14k 4 (by decide) (by decide) (by decide) (by decide) (by decide) (by decide)
  have x2 : M12 18 (nt (D 46 0 o)) 2 = fd D (nt (D 46 0 o)) 2 := by rw [M12k 18 (by decide) (by decide) (by decide)]; exact hP.1 _ 2 t4 (by decide)
  have x5 : M13 18 (nt (D 46 0 o)) 5 = fd D (nt (D 46 0 o)) 5 := by rw [M13k 18 (by decide) (by decide) (by decide) (by decide) (by decide) (by decide)]; exact hP.1 _ 5 t4 (by decide)
  have wd0 : wi (fd D (nt (D 46 0 o)) 2) 2000 := RP_wi hP t4 (f := 2) (m := 2000) (by decide) rfl rfl (by decide)
  have wd1 : wi (fd D (nt (D 46 0 o)) 5) 2000 := RP_wi hP t4 (f := 5) (m := 2000) (by decide) rfl rfl (by decide)
  -- what is reserved
  have rs : ∀ w p v, p < 8 → (v = -1 ∨ wi v 7) → rsv (nb T D (nt (D 46 0 o)) o w v) p = if v = i3 p then nt (fd D (nt (D 46 0 o)) (2 + 3 * w)) else 0 := by
    intro w p v hp hv
    unfold nb
    by_cases e : v = -1
    · rw [if_pos e, if_neg (by rw [e]; exact fun q => i3_nm (by omega) q.symm)]; rfl
    · rw [if_neg e]
      show (if nt v = p then nt (fd D (nt (D 46 0 o)) (2 + 3 * w)) else 0) + 0 = _
      have wv := hv.resolve_left e
      by_cases q : v = i3 p
      · rw [if_pos q, if_pos (by rw [q]; exact nt_i (by omega)), Nat.add_zero]
      · rw [if_neg q, if_neg (fun z => q (by rw [← z]; exact wv.1))]
  have p2 : ∀ p, p < 8 → M14 5 p 2 = i3 (rsv (L ++ L1) p) := by
    intro p hp
    rw [hL1, rsv_app, rsv_app, rs 0 p v6 hp (h6.elim (fun q => Or.inl q.1) (fun q => Or.inr q.1)), rs 1 p v7 hp (h7.elim (fun q => Or.inl q.1) (fun q => Or.inr q.1)), k7 p hp, n7 p hp, M12k 5 (by decide) (by decide) (by decide), x2, x5, (hQ p hp).2.2.2.2.2.1]
    show _ = i3 (rsv L p + ((if v6 = i3 p then nt (fd D (nt (D 46 0 o)) 2) else 0) + (if v7 = i3 p then nt (fd D (nt (D 46 0 o)) 5) else 0)))
    have y0 : i3 (rsv L p) + fd D (nt (D 46 0 o)) 2 = i3 (rsv L p + nt (fd D (nt (D 46 0 o)) 2)) := by rw [← i3_add, ← wd0.1]
    by_cases q6 : v6 = i3 p
    · rw [if_pos q6, if_pos q6, y0]
      by_cases q7 : v7 = i3 p
      · rw [if_pos q7, if_pos q7, ← Nat.add_assoc, ← i3_add _ (nt (fd D (nt (D 46 0 o)) 5)), ← wd1.1]
      · rw [if_neg q7, if_neg q7, Nat.add_zero]
    · rw [if_neg q6, if_neg q6]
      by_cases q7 : v7 = i3 p
      · rw [if_pos q7, if_pos q7, Nat.zero_add, ← i3_add, ← wd1.1]
      · rw [if_neg q7, if_neg q7]; rfl
  obtain ⟨C2, hC2⟩ : ∃ M, M = am_put (am_put (am_put M14 4 o 3 1) 4 o 5 (M14 4 o 5 + 1)) 4 o 7 (i3 c) := ⟨_, rfl⟩
  have C2k : ∀ k, ¬ k = 4 → C2 k = M14 k := fun k hk => by rw [hC2]; funext i f; rw [am_put_nk hk, am_put_nk hk, am_put_nk hk]
  have C23 : C2 4 o 3 = 1 := by rw [hC2, am_put_nf (by decide), am_put_nf (by decide), am_put_i]
  have C25 : C2 4 o 5 = C 4 o 5 + 1 := by rw [hC2, am_put_nf (by decide), am_put_i, M14_4]
  have C27 : C2 4 o 7 = i3 c := by rw [hC2, am_put_i]
  have C2f : ∀ f, ¬ f = 3 → ¬ f = 5 → ¬ f = 7 → C2 4 o f = C 4 o f := fun f z1 z2 z3 => by rw [hC2, am_put_nf z3, am_put_nf z2, am_put_nf z1, M14_4]
  have C2o : ∀ o' f, ¬ o' = o → C2 4 o' f = C 4 o' f := fun o' f hk => by rw [hC2, am_put_ni hk, am_put_ni hk, am_put_ni hk, M14_4]
  have D1k : ∀ k, ¬ k = 10 → ¬ k = 61 → ¬ k = 62 → ¬ k = 63 → ¬ k = 64 → ¬ k = 65 → D1 k = D k := g3
  have eD38 : D1 38 0 s = D 38 0 s := by rw [g3 38 (by decide) (by decide) (by decide) (by decide) (by decide) (by decide)]
  have ct01' : D1 38 0 s = 0 ∨ D1 38 0 s = 1 := by rw [eD38]; exact (hS s s6).2.2.1
  have bgk := bg_k (D := D1) (o := o) (c := c) (ct := D1 38 0 s)
  have big : Rel 1 40 40 T n (L ++ L1) C2 (bg D1 o c (D1 38 0 s)) := by
    obtain ⟨z1, z2, z3, z4, z5, z6, z7, z8⟩ := bgk
    have ds : ∀ k, ¬ k = 10 → ¬ k = 61 → ¬ k = 62 → ¬ k = 63 → ¬ k = 64 → ¬ k = 65 → ∀ o', ¬ o' = o → bg D1 o c (D1 38 0 s) k 0 o' = D k 0 o' := fun k y1 y2 y3 y4 y5 y6 o' ne => by rw [z8 o' ne k, g3 k y1 y2 y3 y4 y5 y6]
    refine Rel_start (v6 := v6) (v7 := v7) (ct := D1 38 0 s) h ho hw hc hcl hc59 h6 h7 hL1 cap nd mem memo ct01'
      (fun k y1 y2 y3 y4 y5 y6 y7 => (C2k k y2).trans (M14k k y1 y3 y4 y5 y6 y7))
      ?_ ?_ ?_ ?_ ?_ ?_ ?_ ?_ ?_ ?_ ?_ ?_ ?_ ?_ ?_ ?_ C23 C25 C27 C2f C2o ?_ ?_ ?_ ?_ ?_ z2 ?_ z4 z5 z6 z7 ?_ ?_ ?_ ?_ ?_ ?_
    · rw [C2k 1 (by decide), M14_1]; exact m5
    · rw [C2k 1 (by decide), M14_1, m6, eD38]; exact (hS s s6).2.1
    · rw [C2k 1 (by decide), M14_1]; exact m7
    · rw [C2k 1 (by decide), M14_1]; exact m1
    · rw [C2k 1 (by decide), M14_1]; exact m4
    · rw [C2k 1 (by decide), M14_1]; exact m8
    · rw [C2k 1 (by decide), M14_1]; exact m9
    · intro c' f ne; rw [C2k 1 (by decide), M14_1]; exact m12o c' f ne
    · rw [C2k 14 (by decide), (k5 c 0 (fun q => absurd q.2 (by decide))).1]; exact n3
    · rw [C2k 14 (by decide)]; exact k3
    · rw [C2k 15 (by decide), (k5 c 0 (fun q => absurd q.2 (by decide))).2, n4]; exact x2
    · rw [C2k 15 (by decide), k4]; exact x5
    · intro c' j ne; rw [C2k 14 (by decide), (k5 c' j (fun q => ne q.1)).1, (n5 c' j (fun q => ne q.1)).1, M12k 14 (by decide) (by decide) (by decide)]
    · intro c' j ne; rw [C2k 15 (by decide), (k5 c' j (fun q => ne q.1)).2, (n5 c' j (fun q => ne q.1)).2, M12k 15 (by decide) (by decide) (by decide)]
    · intro p hp; rw [C2k 5 (by decide)]; exact p2 p hp
    · intro p f hf; rw [C2k 5 (by decide), k6 p f hf, n6 p f hf, M12k 5 (by decide) (by decide) (by decide)]
    · intro i; rw [C2k 19 (by decide), C2k 20 (by decide), M14_19, M14_20, eC1]; exact ⟨rfl, rfl⟩
    · exact fun k y1 y2 y3 y4 y5 y6 y7 y8 y9 y10 y11 y12 => (z1 k y2 y3 y4 y5 y6 y7).trans (g3 k y1 y8 y9 y10 y11 y12)
    · intro f hf; rw [z1 10 (by decide) (by decide) (by decide) (by decide) (by decide) (by decide)]; exact g4 f hf
    · rw [z1 10 (by decide) (by decide) (by decide) (by decide) (by decide) (by decide)]; exact g1
    · intro b x hx
      unfold bcell
      rw [z1 61 (by decide) (by decide) (by decide) (by decide) (by decide) (by decide), z1 62 (by decide) (by decide) (by decide) (by decide) (by decide) (by decide), z1 63 (by decide) (by decide) (by decide) (by decide) (by decide) (by decide), z1 64 (by decide) (by decide) (by decide) (by decide) (by decide) (by decide), z1 65 (by decide) (by decide) (by decide) (by decide) (by decide) (by decide)]
      exact g2 b x hx
    · rw [z3, g3 50 (by decide) (by decide) (by decide) (by decide) (by decide) (by decide)]
    · exact ds 48 (by decide) (by decide) (by decide) (by decide) (by decide) (by decide)
    · exact ds 50 (by decide) (by decide) (by decide) (by decide) (by decide) (by decide)
    · exact ds 51 (by decide) (by decide) (by decide) (by decide) (by decide) (by decide)
    · exact ds 52 (by decide) (by decide) (by decide) (by decide) (by decide) (by decide)
    · exact ds 54 (by decide) (by decide) (by decide) (by decide) (by decide) (by decide)
    · exact ds 56 (by decide) (by decide) (by decide) (by decide) (by decide) (by decide)
  have svE := sv M14 (M14k 18 (by decide) (by decide) (by decide) (by decide) (by decide) (by decide)) (by rw [M14_4]) C2 ((C2k 18 (by decide)).trans (M14k 18 (by decide) (by decide) (by decide) (by decide) (by decide) (by decide)))
  have cls : ∀ M16, fX9_takeSample [.inr (9, 0), .inr (8, s), .inl (.int (i3 c)), .inl (.int vol)] C2 = am_rV M16 → fX9_tryStart [.inr (9, 0), .inl (.int (i3 o))] C = am_rI 1 M16 := by
    intro M16 k
    rw [hC2] at k svE
    exact qX9_tryStart_3 o40 rfl t4 etC sl9 nms s6 rfl sv0 en9 p0 p1 la0 la1 cl9 nmc a1 hb hc rfl st1 n1 k1 svE k
  obtain ⟨s10a, s10b⟩ := sX10_start (o := o) (s := s) (c := c) (vol := vol) D1 o40 s6 hc ct01'
  obtain ⟨bP, bS, bF, bQ, bN, bO, bH, bC, bB⟩ := big
  have eCl : C2 9 0 10 = D1 10 0 46 := by
    have := bN.2.2.2.2.2.2.2.1
    rw [this, bgk.1 10 (by decide) (by decide) (by decide) (by decide) (by decide) (by decide)]
  have eS : bg D1 o c (D1 38 0 s) 39 0 s = D1 39 0 s := by rw [bgk.1 39 (by decide) (by decide) (by decide) (by decide) (by decide) (by decide)]
  have eS' : D1 39 0 s = D 39 0 s := by rw [g3 39 (by decide) (by decide) (by decide) (by decide) (by decide) (by decide)]
  by_cases clot : am_b (D1 10 0 46) = 0
  · have rv := Rel_vol (vol := vol) ⟨bP, bS, bF, bQ, bN, bO, bH, bC, bB⟩ s6 hc (wi_ge wv) (by rw [eS, eS']; exact enough)
    rw [eS] at rv
    exact ⟨1, _, _, L ++ L1, cls _ (qX9_takeSample_0 (by rw [eCl]; exact clot) hc rfl), T3 enough _ _ _ _ _ bk hr cl10 nlc a2 hb (s10a clot), rv⟩
  · have bN' : RN T n (am_put C2 9 0 10 0) (am_put (bg D1 o c (D1 38 0 s)) 10 0 46 0) := by
      obtain ⟨y1, y2, y3, y4, y5, y6, y7, y8, y9, y10, y11, y12, y13⟩ := bN
      exact ⟨y1, y2, y3, y4, y5, y6, y7, rfl, Or.inl rfl, y10, y11, y12, y13⟩
    have lenB := bk_len bB
    have bC' : RC 1 40 40 T n (L ++ L1) (am_put C2 9 0 10 0) (am_put (bg D1 o c (D1 38 0 s)) 10 0 46 0) := bC
    have bB' : RB 1 T n (L ++ L1) (am_put C2 9 0 10 0) (am_put (bg D1 o c (D1 38 0 s)) 10 0 46 0) := bB
    obtain ⟨y1, y2, y3, y4, y5, y6, y7, y8⟩ := bB'
    have e51' : am_put (bg D1 o c (D1 38 0 s)) 10 0 46 0 51 0 o = i3 c := by rw [am_put_nk (by decide)]; exact bgk.2.2.2.1
    obtain ⟨C3, D3, u1, u2, u3⟩ := J_brk (r := 3) (o := o) (c := c) (C := am_put C2 9 0 10 0) (D := am_put (bg D1 o c (D1 38 0 s)) 10 0 46 0) bP bS bF bQ bN' bO bH bC' y1 (by omega) y2 y3 (fun x hx => (y4 x hx).2) y5 (y6 rfl) y7 y8 (fun x hx _ => (y4 x hx).1) ho hc e51'
    exact ⟨1, C3, D3, _, cls _ (qX9_takeSample_1 (by rw [eCl]; exact clot) u1), T3 enough _ _ _ _ _ bk hr cl10 nlc a2 hb (s10b clot _ u2), u3⟩
