/-! ===== curve, trend, took ===== -/
theorem Rel_pt {T n t q : Nat} {L : List Bk} {C D C' D' : am_M} {x y : Int32} (ht : t < 4) (hq : q < 5) (h : Rel 1 40 40 T n L C D) (hno : ¬ ord D n (i3 t))
    (hx : -1000000 ≤ x ∧ x ≤ 1000000) (hy : -1000000 ≤ y ∧ y ≤ 1000000) (hl : q = 0 ∨ q = nt (D 34 0 t) ∧ D 32 0 (5 * t + q - 1) < x)
    (hC : ∀ k, ¬ k = 6 → ¬ k = 0 → ¬ k = 11 → ¬ k = 12 → C' k = C k) (hD : ∀ k, ¬ k = 10 → ¬ k = 31 → ¬ k = 32 → ¬ k = 33 → ¬ k = 34 → D' k = D k) (h10 : ∀ f, ¬ f = 45 → D' 10 0 f = D 10 0 f)
    (e11 : ∀ i f, C' 11 i f = if i = t ∧ f = q then x else C 11 i f) (e12 : ∀ i f, C' 12 i f = if i = t ∧ f = q then y else C 12 i f)
    (e0 : ∀ i, C' 0 i 2 = if i = t then i3 (q + 1) else C 0 i 2) (e6 : ∀ i, C' 6 i 3 = if i = t then 0 else C 6 i 3)
    (d32 : ∀ j, D' 32 0 j = if j = 5 * t + q then x else D 32 0 j) (d33 : ∀ j, D' 33 0 j = if j = 5 * t + q then y else D 33 0 j)
    (d34 : ∀ i, D' 34 0 i = if i = t then i3 (q + 1) else D 34 0 i) (d31 : ∀ i, D' 31 0 i = if i = t then 0 else D 31 0 i) : Rel 1 40 40 T n L C' D' := by
  have hP := h.1
  refine Rel_test ht h hno ?_ (fun k _ a b c d => hC k a b c d) (fun k a _ b c d e => hD k a b c d e) h10 (fun t' f _ _ _ => by unfold fd; rw [hD 30 (by decide) (by decide) (by decide) (by decide) (by decide)]) (fun t' e => by rw [d34, if_neg e])
  obtain ⟨p1, p2, p3, p4, p5, p6, p7, p8, p9, p10⟩ := hP
  have c18 := hC 18 (by decide) (by decide) (by decide) (by decide)
  have c2 := hC 2 (by decide) (by decide) (by decide) (by decide)
  have c16 := hC 16 (by decide) (by decide) (by decide) (by decide)
  have d30 := hD 30 (by decide) (by decide) (by decide) (by decide) (by decide)
  have d35 := hD 35 (by decide) (by decide) (by decide) (by decide) (by decide)
  have d36 := hD 36 (by decide) (by decide) (by decide) (by decide) (by decide)
  have nq : nt (i3 (q + 1)) = q + 1 := nt_i (by omega)
  refine ⟨fun t' f ht' hf => ?_, fun t' f ht' hf => ?_, fun t' ht' => ?_, fun t' ht' => ?_, fun t' j ht' hj => ?_, fun t' j ht' hj => ?_, fun t' j ht' hj => ?_, fun t' ht' => ?_, fun t' j ht' hj => ?_, fun t' ht' hs => ?_⟩
  · unfold fd; rw [c18, d30]; exact p1 t' f ht' hf
  · unfold fd; rw [d30]; exact p2 t' f ht' hf
  · rw [e6, d31]
    by_cases e : t' = t
    · rw [if_pos e, if_pos e]; exact ⟨rfl, Or.inl rfl⟩
    · rw [if_neg e, if_neg e]; exact p3 t' ht'
  · rw [e0, d34]
    by_cases e : t' = t
    · rw [if_pos e, if_pos e]; exact ⟨rfl, wi_of (by omega) (by decide)⟩
    · rw [if_neg e, if_neg e]; exact p4 t' ht'
  · rw [e11, e12, d32, d33]
    by_cases e : t' = t ∧ j = q
    · rw [if_pos e, if_pos e, if_pos (by omega), if_pos (by omega)]; exact ⟨rfl, rfl⟩
    · rw [if_neg e, if_neg e, if_neg (by omega), if_neg (by omega)]; exact p5 t' j ht' hj
  · rw [d32, d33]
    by_cases e : 5 * t' + j = 5 * t + q
    · rw [if_pos e, if_pos e]; exact ⟨hx.1, hx.2, hy.1, hy.2⟩
    · rw [if_neg e, if_neg e]; exact p6 t' j ht' hj
  · rw [d34] at hj
    by_cases e : t' = t
    · rw [if_pos e, nq] at hj
      subst e
      rw [d32, d32, if_neg (by omega)]
      by_cases e2 : j + 1 = q
      · rw [if_pos (by omega)]
        rcases hl with hl | hl
        · omega
        · have := hl.2
          rw [show 5 * t' + q - 1 = 5 * t' + j by omega] at this
          exact this
      · rw [if_neg (by omega)]
        rcases hl with hl | hl
        · omega
        · exact p7 t' j ht' (by omega)
    · rw [if_neg e] at hj
      have := (p4 t' ht').2.2
      rw [d32, d32, if_neg (by omega), if_neg (by omega)]
      exact p7 t' j ht' hj
  · rw [c2, d36]; exact p8 t' ht'
  · rw [c16, d35]; exact p9 t' j ht' hj
  · rw [d31] at hs
    by_cases e : t' = t
    · rw [if_pos e] at hs; exact absurd hs (by decide)
    · rw [if_neg e] at hs
      refine cmpl_cg (p10 t' ht' hs) (fun f _ => by unfold fd; rw [d30]) ?_
      rw [d34, if_neg e]
theorem J_curve {T : Nat} {C D : am_M} (h : St T C D) (x1 x2 x3 : Int32) : JO T (fL_curve [.inr (9, 0), .inl (.int x1), .inl (.int x2), .inl (.int x3), .inr (80, 0)] C) (fX10_curve [.inr (10, 0), .inl (.int x1), .inl (.int x2), .inl (.int x3)] D) := by
  obtain ⟨n, L, h⟩ := h
  by_cases h1 : 0 ≤ x1 ∧ x1 ≤ 3
  case neg => exact JO_no h (qL_curve_0 (qX9_curve_0 h1)) (qX10_curve_0 h1) (by decide)
  by_cases h2 : -1000000 ≤ x2 ∧ x2 ≤ 1000000
  case neg => exact JO_no h (qL_curve_0 (qX9_curve_1 h1 h2)) (qX10_curve_1 h1 h2) (by decide)
  by_cases h3 : -1000000 ≤ x3 ∧ x3 ≤ 1000000
  case neg => exact JO_no h (qL_curve_0 (qX9_curve_2 h1 h2 h3)) (qX10_curve_2 h1 h2 h3) (by decide)
  obtain ⟨t, ht, et⟩ := pl (m := 3) (by decide) h1
  have hP := h.1
  have hN := h.2.2.2.2.1
  have hO := h.2.2.2.2.2.1
  have c2 := sX9_isOrdered hN hO x1
  have d2 := sX10_pending hN hO x1
  by_cases h4 : ord D n x1
  · rw [bi_t h4] at c2 d2
    exact JO_no h (qL_curve_1 (qX9_curve_5 h1 h2 h3 ht et c2 (by decide))) (qX10_curve_8 h1 h2 h3 d2 (by decide)) (by decide)
  rw [bi_f h4] at c2 d2
  have h4' : ¬ ord D n (i3 t) := by rw [← et]; exact h4
  obtain ⟨e02, w34⟩ := hP.2.2.2.1 t ht
  have e34 : D 34 0 t = i3 (nt (D 34 0 t)) := w34.1
  have p5 := w34.2
  have e02' : C 0 t 2 = i3 (nt (D 34 0 t)) := e02.trans e34
  generalize hp : nt (D 34 0 t) = p at *
  by_cases k5 : p = 5
  · subst k5
    refine JO_no h (qL_curve_1 (qX9_curve_3 h1 h2 h3 ht et c2 rfl (qX0_takes_0 ?_) rfl)) (qX10_curve_3 h1 h2 h3 d2 rfl ht et e34) (by decide)
    rw [e02']; decide
  have n5 : ¬ (5 : Int32) ≤ C 0 t 2 := by
    rw [e02']; exact hge (n := 5) rfl (by omega) (by decide)
  have n5' : ¬ D 34 0 t = 5 := by
    rw [e34]; exact fun q => k5 ((i3_inj (b := 5) (by omega) (by decide)).mp q)
  by_cases k0 : p = 0
  · subst k0
    have c3 := qX9_curve_4 h1 h2 h3 ht et c2 rfl (qX0_takes_1 (x1 := x2) n5 (by rw [e02']; decide)) (by decide) (qX0_add_1 (x1 := x2) (x2 := x3) (by rw [e02']; decide) n5 (j1 := 0) (by decide) e02')
    have d3 := qX10_curve_4 h1 h2 h3 d2 rfl ht et n5' (by rw [e34]; decide) (j3 := 5 * t + 0) (by omega) (by rw [et, e34]; show i3 5 * i3 t + i3 0 = _; rw [i3_mul, i3_add])
    rw [put_eq ⟨rfl, rfl, rfl⟩, e02', i3_one] at c3
    rw [put_eq ⟨rfl, rfl, rfl⟩, e34, i3_one] at d3
    refine JO_ok (n := n) (L := L) (Rel_pt ht (q := 0) (x := x2) (y := x3) (by decide) h h4' h2 h3 (Or.inl rfl) ?_ ?_ ?_ ?_ ?_ ?_ ?_ ?_ ?_ ?_ ?_) (qL_curve_2 c3) d3 rfl
    · intro k a b c d
      funext i f; rw [put_ne (fun q => a q.1), put_ne (fun q => b q.1), put_ne (fun q => d q.1), put_ne (fun q => c q.1)]
    · intro k a b c d e
      funext i f; rw [put_ne (fun q => b q.1), put_ne (fun q => e q.1), put_ne (fun q => d q.1), put_ne (fun q => c q.1), put_ne (fun q => a q.1)]
    · intro f hf
      show am_put D 10 0 45 0 10 0 f = _
      rw [put_ne (fun q => hf q.2.2)]
    · intro i f; simp [am_put]
    · intro i f; simp [am_put]
    · intro i; simp [am_put]
    · intro i; simp [am_put]
    · intro i; simp [am_put]
    · intro i; simp [am_put]
    · intro i; simp [am_put]
    · intro i; simp [am_put]
  have lt1 : ¬ C 0 t 2 < 1 := by
    rw [e02']; intro q
    have := (i3_lt (b := 1) (by omega) (by decide)).mp q
    omega
  have le0 : ¬ D 34 0 t ≤ 0 := by
    rw [e34]; intro q
    have := (i3_le (b := 0) (by omega) (by decide)).mp q
    omega
  have es : C 0 t 2 - 1 = i3 (p - 1) := by
    rw [e02', show (1 : Int32) = i3 1 from rfl, i3_sub (by omega)]
  have ei : 5 * x1 + D 34 0 t = i3 (5 * t + p) := by
    rw [et, e34]; show i3 5 * i3 t + i3 p = _; rw [i3_mul, i3_add]
  have ei1 : 5 * x1 + D 34 0 t - 1 = i3 (5 * t + p - 1) := by
    rw [ei, show (1 : Int32) = i3 1 from rfl, i3_sub (by omega)]
  have el : C 11 t (p - 1) = D 32 0 (5 * t + p - 1) := by
    rw [(hP.2.2.2.2.1 t (p - 1) ht (by omega)).1, show 5 * t + (p - 1) = 5 * t + p - 1 by omega]
  by_cases k1 : D 32 0 (5 * t + p - 1) = x2
  · have d3 := qX10_curve_7 h1 h2 h3 d2 rfl ht et n5' le0 (j2 := 5 * t + p - 1) (by omega) ei1 (by rw [if_pos k1]; decide)
    rw [if_pos k1] at d3
    exact JO_no h (qL_curve_1 (qX9_curve_3 h1 h2 h3 ht et c2 rfl (qX0_takes_2 n5 lt1 (j1 := p - 1) (by omega) es (by rw [el]; exact k1.symm)) rfl)) d3 (by decide)
  have tk := qX0_takes_3 n5 lt1 (j1 := p - 1) (by omega) es (x1 := x2) (by rw [el]; exact fun q => k1 q.symm)
  by_cases k2 : D 32 0 (5 * t + p - 1) ≤ x2
  · have c3 := qX9_curve_4 h1 h2 h3 ht et c2 rfl tk (by decide) (qX0_add_3 (x1 := x2) (x2 := x3) lt1 (j2 := p - 1) (by omega) es (by rw [el]; exact k2) n5 (j1 := p) (by omega) e02')
    have d3 := qX10_curve_5 h1 h2 h3 d2 rfl ht et n5' le0 (j2 := 5 * t + p - 1) (by omega) ei1 (by rw [if_neg k1]) k2 (j3 := 5 * t + p) (by omega) ei
    rw [put_eq ⟨rfl, rfl, rfl⟩, e02', i3_one] at c3
    rw [put_eq ⟨rfl, rfl, rfl⟩, e34, i3_one, if_neg k1] at d3
    have hlt : D 32 0 (5 * t + p - 1) < x2 := by
      rw [Int32.lt_iff_toInt_lt]
      rw [Int32.le_iff_toInt_le] at k2
      have : ¬ (D 32 0 (5 * t + p - 1)).toInt = x2.toInt := fun q => k1 (Int32.toInt_inj.mp q)
      omega
    refine JO_ok (n := n) (L := L) (Rel_pt ht (q := p) (x := x2) (y := x3) (by omega) h h4' h2 h3 (Or.inr ⟨hp.symm, hlt⟩) ?_ ?_ ?_ ?_ ?_ ?_ ?_ ?_ ?_ ?_ ?_) (qL_curve_2 c3) d3 rfl
    · intro k a b c d
      funext i f; rw [put_ne (fun q => a q.1), put_ne (fun q => b q.1), put_ne (fun q => d q.1), put_ne (fun q => c q.1)]
    · intro k a b c d e
      funext i f; rw [put_ne (fun q => b q.1), put_ne (fun q => e q.1), put_ne (fun q => d q.1), put_ne (fun q => c q.1), put_ne (fun q => a q.1)]
    · intro f hf
      show am_put D 10 0 45 0 10 0 f = _
      rw [put_ne (fun q => hf q.2.2)]
    · intro i f; simp [am_put]
    · intro i f; simp [am_put]
    · intro i; simp [am_put]
    · intro i; simp [am_put]
    · intro i; simp [am_put]
    · intro i; simp [am_put]
    · intro i; simp [am_put]
    · intro i; simp [am_put]
  · have z1 : am_put C 0 t 2 0 0 t 2 = i3 0 := put_eq ⟨rfl, rfl, rfl⟩
    have z2 : am_put (am_put D 10 0 45 (if D 32 0 (5 * t + p - 1) = x2 then 2 else 0 : Int32)) 34 0 t 0 34 0 t = i3 0 := put_eq ⟨rfl, rfl, rfl⟩
    have c3 := qX9_curve_4 h1 h2 h3 ht et c2 rfl tk (by decide) (qX0_add_5 (x1 := x2) (x2 := x3) lt1 (j2 := p - 1) (by omega) es (by rw [el]; exact k2) (by rw [z1]; decide) (j3 := 0) (by decide) z1)
    have d3 := qX10_curve_6 h1 h2 h3 d2 rfl ht et n5' le0 (j2 := 5 * t + p - 1) (by omega) ei1 (by rw [if_neg k1]) k2 (j4 := 5 * t + 0) (by omega) (by rw [z2, et]; show i3 5 * i3 t + i3 0 = _; rw [i3_mul, i3_add])
    rw [z1, i3_one, put_eq ⟨rfl, rfl, rfl⟩] at c3
    rw [z2, i3_one, put_eq ⟨rfl, rfl, rfl⟩, if_neg k1] at d3
    refine JO_ok (n := n) (L := L) (Rel_pt ht (q := 0) (x := x2) (y := x3) (by decide) h h4' h2 h3 (Or.inl rfl) ?_ ?_ ?_ ?_ ?_ ?_ ?_ ?_ ?_ ?_ ?_) (qL_curve_2 c3) d3 rfl
    · intro k a b c d
      funext i f; rw [put_ne (fun q => a q.1), put_ne (fun q => b q.1), put_ne (fun q => d q.1), put_ne (fun q => c q.1), put_ne (fun q => b q.1)]
    · intro k a b c d e
      funext i f; rw [put_ne (fun q => b q.1), put_ne (fun q => e q.1), put_ne (fun q => d q.1), put_ne (fun q => c q.1), put_ne (fun q => e q.1), put_ne (fun q => a q.1)]
    · intro f hf
      show am_put D 10 0 45 0 10 0 f = _
      rw [put_ne (fun q => hf q.2.2)]
    · intro i f; simp [am_put]
    · intro i f; simp [am_put]
    · intro i; simp +contextual [am_put]
    · intro i; simp [am_put]
    · intro i; simp [am_put]
    · intro i; simp [am_put]
    · intro i; simp +contextual [am_put]
    · intro i; simp [am_put]
theorem J_trend {T : Nat} {C D : am_M} (h : St T C D) (x1 x2 : Int32) : JO T (fL_trend [.inr (9, 0), .inl (.int x1), .inl (.int x2), .inr (80, 0)] C) (fX10_trend [.inr (10, 0), .inl (.int x1), .inl (.int x2)] D) := by
  obtain ⟨n, L, h⟩ := h
  by_cases h1 : 0 ≤ x1 ∧ x1 ≤ 3
  case neg => exact JO_no h (qL_trend_0 (qX9_trend_0 h1)) (qX10_trend_0 h1) (by decide)
  obtain ⟨t, ht, et⟩ := pl (m := 3) (by decide) h1
  have hP := h.1
  obtain ⟨e1, w⟩ := hP.2.2.2.2.2.2.2.1 t ht
  have e36 : D 36 0 t = i3 (nt (D 36 0 t)) := w.1
  have hb := w.2
  have hr : 0 ≤ x2 ∧ x2 ≤ C 2 t 1 - 1 ↔ ¬ x2 < 0 ∧ x2 < D 36 0 t := by
    rw [e1, e36, i3_nlt, Int32.le_iff_toInt_le, Int32.le_iff_toInt_le, Int32.lt_iff_toInt_lt, i3_toInt (nt_lt _)]
    have : (i3 (nt (D 36 0 t)) - 1).toInt = (nt (D 36 0 t) : Int) - 1 := by
      rcases Nat.eq_zero_or_pos (nt (D 36 0 t)) with q | q
      · rw [q]; decide
      · rw [show (1 : Int32) = i3 1 from rfl, i3_sub q, i3_toInt (by omega)]; omega
    rw [this]; omega
  by_cases k : 0 ≤ x2 ∧ x2 ≤ C 2 t 1 - 1
  · have ⟨a, b⟩ := hr.mp k
    have hj : nt x2 < nt (D 36 0 t) := by
      rw [e36, i3_nt k.1] at b
      exact (i3_lt (nt_lt _) (nt_lt _)).mp b
    have i1 : C 2 t 1 - 1 - x2 = i3 (nt (D 36 0 t) - 1 - nt x2) := by
      rw [e1, e36, i3_nt k.1, show (1 : Int32) = i3 1 from rfl, i3_sub (by omega), i3_sub (by omega), nt_i (nt_lt _), nt_i (nt_lt _)]
    have i2 : 10 * x1 + D 36 0 t - 1 - x2 = i3 (10 * t + (nt (D 36 0 t) - 1 - nt x2)) := by
      have e : (10 : Int32) * i3 t + i3 (nt (D 36 0 t)) = i3 (10 * t + nt (D 36 0 t)) := by
        show i3 10 * i3 t + _ = _
        rw [i3_mul, i3_add]
      rw [et, e36, nt_i (nt_lt _), e, i3_nt k.1, nt_i (nt_lt _), show (1 : Int32) = i3 1 from rfl, i3_sub (by omega), i3_sub (by omega)]
      congr 1; omega
    refine JO_ok (w := C 16 t (nt (D 36 0 t) - 1 - nt x2)) (Rel_thr h) (qL_trend_2 (qX9_trend_2 h1 ht et k (qX2_fromLatest_1 k (by omega) i1))) ?_ rfl
    rw [hP.2.2.2.2.2.2.2.2.1 t _ ht (by omega)]
    exact qX10_trend_2 h1 a ht et b (by omega) i2
  · refine JO_no h (qL_trend_1 (qX9_trend_1 h1 ht et k)) ?_ (by decide) (w := 0)
    by_cases q : x2 < 0
    · exact qX10_trend_1 h1 q
    · exact qX10_trend_3 h1 q ht et (fun q2 => k (hr.mpr ⟨q, q2⟩))
/-- a row moved down by n -/
def shf (n : Nat) : Nat → Nat → (Nat → Int32) → (Nat → Int32)
  | 0, _, g => g
  | k + 1, i, g => shf n k (i + 1) (fun j => if j = i - n then g i else g j)
theorem rel_le (d : Nat → Int32) : ∀ k, rel d k ≤ k
  | 0 => Nat.le_refl 0
  | k + 1 => by have := rel_le d k; unfold rel; split <;> omega
theorem sX3_dropFirst {x : Int32} {n s : Nat} (hx : x = i3 n) (hn : n ≤ s) (hs : s ≤ 40) : ∀ (k i m : Nat) (M : am_M), M 3 0 1 = i3 s → i + k = s → n ≤ i → 100 * (k + 1) ≤ m → ∃ M', rX3_dropFirst m 2 [.inr (3, 0), .inl (.int x), .inl (.int (i3 i))] [] M = am_rV M' ∧ M' 3 0 1 = i3 (s - n) ∧ M' 17 0 = shf n k i (M 17 0) ∧ (∀ q, ¬ q = 17 → ¬ q = 3 → M' q = M q)
  | 0, i, m, M, h3, hi, hni, hm => by
    have e : i = s := by omega
    subst e
    have e2 := qX3_dropFirst_2_0 (x1 := x) (n := m - 100) (hen h3 (by omega))
    rw [show m - 100 + 100 = m by omega] at e2
    refine ⟨_, e2, ?_, rfl, ?_⟩
    · show M 3 0 1 - x = _
      rw [h3, hx, i3_sub hn]
    · intro q a b
      funext u v
      rw [put_ne (fun e => b e.1)]
  | k + 1, i, m, M, h3, hi, hni, hm => by
    obtain ⟨M', h1, h2, h4, h5⟩ := sX3_dropFirst hx hn hs k (i + 1) (m - 100) (am_put M 17 0 (i - n) (M 17 0 i)) h3 (by omega) (by omega) (by omega)
    refine ⟨M', ?_, h2, ?_, ?_⟩
    · rw [show m = (m - 100) + 100 by omega]
      exact qX3_dropFirst_2_1 (hge h3 (by omega) (by omega)) (by omega) (j1 := i - n) (by omega) (by rw [hx, i3_sub hni]) h1
    · rw [h4]
      show shf n k (i + 1) _ = shf n k (i + 1) _
      congr 1
      funext j
      simp [am_put]
    · intro q a b
      rw [h5 q a b]
      funext u v
      rw [put_ne (fun e => a e.1)]
theorem sX10_took {x : Int32} {n s : Nat} (hx : x = i3 n) (hn : n ≤ s) (hs : s ≤ 40) : ∀ (k i m : Nat) (M : am_M), M 10 0 40 = i3 s → i + k = s → n ≤ i → 100 * (k + 1) ≤ m → ∃ M', rX10_took m 32 [.inr (10, 0), .inl (.int x), .inl (.int (i3 i))] [] M = am_rI (i3 (s - n)) M' ∧ M' 10 0 40 = i3 (s - n) ∧ M' 69 0 = shf n k i (M 69 0) ∧ (∀ q, ¬ q = 69 → ¬ q = 10 → M' q = M q) ∧ (∀ f, ¬ f = 40 → M' 10 0 f = M 10 0 f)
  | 0, i, m, M, h3, hi, hni, hm => by
    have e : M 10 0 40 - x = i3 (s - n) := by rw [h3, hx, i3_sub hn]
    refine ⟨am_put M 10 0 40 (i3 (s - n)), ?_, rfl, rfl, ?_, ?_⟩
    · have := qX10_took_32_0 (x1 := x) (n := m - 100) (hen h3 (by omega))
      rw [e, show m - 100 + 100 = m by omega, show s = i by omega] at this
      rw [show s = i by omega]
      exact this
    · intro q a b
      funext u v
      rw [put_ne (fun e => b e.1)]
    · intro f hf
      rw [put_ne (fun e => hf e.2.2)]
  | k + 1, i, m, M, h3, hi, hni, hm => by
    obtain ⟨M', h1, h2, h4, h5, h6⟩ := sX10_took hx hn hs k (i + 1) (m - 100) (am_put M 69 0 (i - n) (M 69 0 i)) h3 (by omega) (by omega) (by omega)
    refine ⟨M', ?_, h2, ?_, ?_, ?_⟩
    · rw [show m = (m - 100) + 100 by omega]
      exact qX10_took_32_1 (hge h3 (by omega) (by omega)) (by omega) (j1 := i - n) (by omega) (by rw [hx, i3_sub hni]) h1
    · rw [h4]
      show shf n k (i + 1) _ = shf n k (i + 1) _
      congr 1
      funext j
      simp [am_put]
    · intro q a b
      rw [h5 q a b]
      funext u v
      rw [put_ne (fun e => a e.1)]
    · intro f hf
      rw [h6 f hf]; rfl
theorem J_took {T : Nat} {C D : am_M} (h : St T C D) (x1 : Int32) : JO T (fL_took [.inr (9, 0), .inl (.int x1), .inr (80, 0)] C) (fX10_took [.inr (10, 0), .inl (.int x1)] D) := by
  obtain ⟨n, L, h⟩ := h
  obtain ⟨hh1, hh2, hh3⟩ := h.2.2.2.2.2.2.1
  have hb := rel_le (D 48 0) 40
  have e1 : D 10 0 40 = i3 (nt (D 10 0 40)) := hh2.1
  have e3 : C 3 0 1 = i3 (nt (D 10 0 40)) := hh1.trans e1
  have hs : nt (D 10 0 40) ≤ 40 := Nat.le_trans hh2.2 hb
  by_cases k : 0 ≤ x1 ∧ x1 ≤ C 3 0 1
  · have ex := i3_nt k.1
    have hn : nt x1 ≤ nt (D 10 0 40) := by
      have := k.2
      rw [e3, ex] at this
      exact (i3_le (nt_lt _) (nt_lt _)).mp this
    obtain ⟨C', c1, c2, c3, c4⟩ := sX3_dropFirst ex hn hs (nt (D 10 0 40) - nt x1) (nt x1) 99900 C e3 (by omega) (Nat.le_refl _) (by omega)
    obtain ⟨D', d1, d2, d3, d4, d5⟩ := sX10_took ex hn hs (nt (D 10 0 40) - nt x1) (nt x1) 99900 (am_put D 10 0 45 0) e1 (by omega) (Nat.le_refl _) (by omega)
    rw [← ex] at c1 d1
    have c5 := qX9_took_1 k (qX3_dropFirst_0 c1)
    rw [c2] at c5
    have d6 := qX10_took_1 (i3_nlt.mpr k.1) (by rw [← hh1]; exact k.2) d1
    obtain ⟨hP, hS, hF, hQ, hN, hO, hH, hC, hB⟩ := h
    refine JO_ok (n := n) (L := L) ?_ (qL_took_1 c5) d6 ?_
    · have hRH : RH C' D' := by
        refine ⟨c2.trans d2.symm, ?_, fun i hi => ?_⟩
        · rw [d2, d4 48 (by decide) (by decide)]
          exact wi_of (Nat.le_trans (Nat.sub_le _ _) hh2.2) (by have := hb; show rel (D 48 0) 40 < _; omega)
        · rw [show C' 17 0 i = (C' 17 0) i from rfl, show D' 69 0 i = (D' 69 0) i from rfl, c3, d3]
          have : ∀ (k j : Nat) (g g' : Nat → Int32), nt x1 ≤ j → j + k ≤ 40 → (∀ i, i < 40 → g i = g' i) → ∀ i, i < 40 → shf (nt x1) k j g i = shf (nt x1) k j g' i := by
            intro k
            induction k with
            | zero => intro j g g' _ _ hg i hi; exact hg i hi
            | succ k ih =>
              intro j g g' hj hk hg i hi
              refine ih (j + 1) _ _ (by omega) (by omega) (fun i hi => ?_) i hi
              show (if i = j - nt x1 then g j else g i) = (if i = j - nt x1 then g' j else g' i)
              rw [hg j (by omega), hg i hi]
          exact this _ _ _ _ (Nat.le_refl _) (by omega) hh3 i hi
      have cc : ∀ q, ¬ q = 17 → ¬ q = 3 → C' q = C q := c4
      have dd : ∀ q, ¬ q = 69 → ¬ q = 10 → D' q = D q := fun q a b => (d4 q a b).trans (by funext u v; rw [put_ne (fun e => b e.1)])
      have d10 : ∀ f, ¬ f = 40 → ¬ f = 45 → D' 10 0 f = D 10 0 f := fun f a b => (d5 f a).trans (put_ne (fun e => b e.2.2))
      refine ⟨?_, ?_, ?_, ?_, ?_, ?_, hRH, ?_, ?_⟩
      · unfold RP cmpl fd; rw [cc 18 (by decide) (by decide), cc 6 (by decide) (by decide), cc 0 (by decide) (by decide), cc 11 (by decide) (by decide), cc 12 (by decide) (by decide), cc 2 (by decide) (by decide), cc 16 (by decide) (by decide), dd 30 (by decide) (by decide), dd 31 (by decide) (by decide), dd 32 (by decide) (by decide), dd 33 (by decide) (by decide), dd 34 (by decide) (by decide), dd 35 (by decide) (by decide), dd 36 (by decide) (by decide)]; exact hP
      · unfold RS; rw [cc 8 (by decide) (by decide), dd 37 (by decide) (by decide), dd 38 (by decide) (by decide), dd 39 (by decide) (by decide)]; exact hS
      · unfold RF; rw [cc 21 (by decide) (by decide), dd 43 (by decide) (by decide)]; exact hF
      · unfold RQ; rw [cc 5 (by decide) (by decide), dd 40 (by decide) (by decide), dd 41 (by decide) (by decide), dd 42 (by decide) (by decide)]; exact hQ
      · unfold RN; rw [cc 9 (by decide) (by decide), d10 14 (by decide) (by decide), d10 41 (by decide) (by decide), d10 44 (by decide) (by decide), d10 46 (by decide) (by decide), d10 47 (by decide) (by decide), d10 43 (by decide) (by decide), d10 42 (by decide) (by decide)]; exact hN
      · unfold RO cmpl fd; rw [cc 4 (by decide) (by decide), dd 45 (by decide) (by decide), dd 46 (by decide) (by decide), dd 47 (by decide) (by decide), dd 48 (by decide) (by decide), dd 49 (by decide) (by decide), dd 50 (by decide) (by decide), dd 51 (by decide) (by decide), dd 53 (by decide) (by decide), dd 57 (by decide) (by decide), dd 58 (by decide) (by decide), dd 30 (by decide) (by decide), dd 34 (by decide) (by decide)]; exact hO
      · unfold RC RU pnd1 fd; rw [cc 1 (by decide) (by decide), cc 13 (by decide) (by decide), cc 14 (by decide) (by decide), cc 15 (by decide) (by decide), dd 59 (by decide) (by decide), dd 60 (by decide) (by decide), dd 51 (by decide) (by decide), dd 46 (by decide) (by decide), dd 52 (by decide) (by decide), dd 54 (by decide) (by decide), dd 55 (by decide) (by decide), dd 56 (by decide) (by decide), dd 30 (by decide) (by decide)]; exact hC
      · unfold RB; rw [d10 36 (by decide) (by decide), d10 37 (by decide) (by decide), d10 38 (by decide) (by decide), dd 51 (by decide) (by decide), dd 61 (by decide) (by decide), dd 62 (by decide) (by decide), dd 63 (by decide) (by decide), dd 64 (by decide) (by decide), dd 65 (by decide) (by decide), cc 19 (by decide) (by decide), cc 20 (by decide) (by decide)]; exact hB
    · rw [d5 45 (by decide)]; rfl
  · refine JO_no h (qL_took_0 (qX9_took_0 k)) ?_ (by decide) (w := 0)
    by_cases q : x1 < 0
    · exact qX10_took_0 q
    · exact qX10_took_2 q (fun q2 => k ⟨i3_nlt.mp q, by rw [hh1]; exact q2⟩)
