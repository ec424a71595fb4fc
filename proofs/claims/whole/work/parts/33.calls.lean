/-! ===== order, define, curve ===== -/
theorem J_order {T : Nat} {C D : am_M} (h : St T C D) (x1 x2 x3 : Int32) (hx3 : x3 = 0 ∨ x3 = 1) : JO T (fL_order [.inr (9, 0), .inl (.int x1), .inl (.int x2), .inl (.int x3), .inr (80, 0)] C) (fX10_order [.inr (10, 0), .inl (.int x1), .inl (.int x2), .inl (.int x3)] D) := by
  obtain ⟨n, L, h⟩ := h
  by_cases h1 : 1 ≤ x1 ∧ x1 ≤ 999999
  case neg => exact JO_no h (qL_order_0 (qX9_order_0 h1)) (qX10_order_0 h1) (by decide)
  by_cases h2 : 0 ≤ x2 ∧ x2 ≤ 3
  case neg => exact JO_no h (qL_order_0 (qX9_order_1 h1 h2)) (qX10_order_1 h1 h2) (by decide)
  obtain ⟨t, ht, et⟩ := pl (m := 3) (by decide) h2
  have hP := h.1
  have hN := h.2.2.2.2.1
  have hO := h.2.2.2.2.2.1
  have e31 := hP.2.2.1 t ht
  by_cases h3 : am_b (D 31 0 t) = 0
  · refine JO_no h (qL_order_1 (qX9_order_2 h1 h2 ht et ?_)) (qX10_order_2 h1 h2 ht et h3) (by decide)
    rw [e31.1]; exact h3
  have h3' : ¬ am_b (C 6 t 3) = 0 := by rw [e31.1]; exact h3
  have hn := hN.1
  have hn' := hN.2.1
  have h40 := hN.2.2.1
  by_cases h4 : n = 40
  · refine JO_no h (qL_order_1 (qX9_order_3 h1 h2 ht et h3' ?_)) (qX10_order_3 h1 h2 ht et h3 ?_) (by decide)
    · rw [hn, h4]; decide
    · rw [hn', h4]; rfl
  have h5 : n < 40 := by omega
  have c1 := qX9_order_4 h1 h2 ht et h3' (hge (X := 40) (n := 40) rfl h5 (by decide) |> fun q => by rw [hn]; exact q) h5 hn (qX4_place_0 (b01 hx3))
  have d1 := qX10_order_4 h1 h2 ht et h3 (by rw [hn']; exact fun q => h4 ((i3_inj (b := 40) (by omega) (by decide)).mp q)) h5 hn' (b01 hx3)
  have hv : D 10 0 14 + 1 - 1 = C 9 0 7 := by
    rw [hn, hn', i3_one, show (1 : Int32) = i3 1 from rfl, i3_sub (by omega)]; rfl
  rw [hv] at d1
  refine JO_ok (n := n + 1) (L := L) ?_ (qL_order_2 c1) d1 rfl
  obtain ⟨hP, hS, hF, hQ, hN, hO, hH, hC, hB⟩ := h
  obtain ⟨n1, n2, n3, n4, n5, n6, n7, n8, n9, n10, n11, n12, n13⟩ := hN
  obtain ⟨o1, o2, o3, o4, o5, o6, o7, o8, o9, o10⟩ := hO
  have hsl : D 31 0 t = 1 := by
    rcases e31.2 with q | q
    · rw [q] at h3; exact absurd rfl h3
    · exact q
  have d51 : ∀ o, o < n → (am_put (am_put (am_put (am_put (am_put (am_put D 10 0 45 0) 45 0 n x1) 46 0 n x2) 47 0 n x3) 51 0 n (-1)) 10 0 14 (D 10 0 14 + 1)) 51 0 o = D 51 0 o := by
    intro o ho
    show am_put (am_put (am_put (am_put (am_put D 10 0 45 0) 45 0 n x1) 46 0 n x2) 47 0 n x3) 51 0 n (-1) 51 0 o = D 51 0 o
    rw [put_ne (by omega)]; rfl
  have d51n : (am_put (am_put (am_put (am_put (am_put (am_put D 10 0 45 0) 45 0 n x1) 46 0 n x2) 47 0 n x3) 51 0 n (-1)) 10 0 14 (D 10 0 14 + 1)) 51 0 n = -1 := by
    show am_put (am_put (am_put (am_put (am_put D 10 0 45 0) 45 0 n x1) 46 0 n x2) 47 0 n x3) 51 0 n (-1) 51 0 n = -1
    rw [put_eq ⟨rfl, rfl, rfl⟩]
  have d46 : ∀ o, ¬ o = n → (am_put (am_put (am_put (am_put (am_put (am_put D 10 0 45 0) 45 0 n x1) 46 0 n x2) 47 0 n x3) 51 0 n (-1)) 10 0 14 (D 10 0 14 + 1)) 46 0 o = D 46 0 o := by
    intro o ho
    show am_put (am_put (am_put D 10 0 45 0) 45 0 n x1) 46 0 n x2 46 0 o = D 46 0 o
    rw [put_ne (by omega)]; rfl
  have d46n : (am_put (am_put (am_put (am_put (am_put (am_put D 10 0 45 0) 45 0 n x1) 46 0 n x2) 47 0 n x3) 51 0 n (-1)) 10 0 14 (D 10 0 14 + 1)) 46 0 n = x2 := by
    show am_put (am_put (am_put D 10 0 45 0) 45 0 n x1) 46 0 n x2 46 0 n = x2
    rw [put_eq ⟨rfl, rfl, rfl⟩]
  refine ⟨hP, hS, hF, hQ, ⟨?_, ?_, h5, n4, n5, n6, n7, n8, n9, n10, n11, n12, n13⟩, ⟨?_, ?_, ?_, o4, o5, o6, ?_, ?_, ?_, ?_⟩, hH, ⟨hC.1, ?_, ?_⟩, ?_⟩
  · show C 9 0 7 + 1 = i3 (n + 1)
    rw [n1, i3_one]
  · show D 10 0 14 + 1 = i3 (n + 1)
    rw [n2, i3_one]
  · intro o ho
    by_cases e : o = n
    · subst e
      have := o1 o ho
      simpa [am_put] using this.2.2.2
    · have q : (o < n + 1 → C 4 o 0 = D 45 0 o) ∧ _ := ⟨fun h => (o1 o ho).1 (by omega), (o1 o ho).2⟩
      simpa [am_put, e] using q
  · intro o ho
    by_cases e : o = n
    · subst e
      have := o2 o ho
      refine ⟨?_, ?_, this.2.2⟩
      · rw [d46n]; exact wi_le (by decide) h2.1 h2.2
      · show am_put (am_put (am_put (am_put D 10 0 45 0) 45 0 o x1) 46 0 o x2) 47 0 o x3 47 0 o = 0 ∨ am_put (am_put (am_put (am_put D 10 0 45 0) 45 0 o x1) 46 0 o x2) 47 0 o x3 47 0 o = 1
        rw [put_eq ⟨rfl, rfl, rfl⟩]; exact hx3
    · simpa [am_put, e] using o2 o ho
  · intro o ho hno
    have e : ¬ o = n := by omega
    simpa [am_put, e] using o3 o ho (by omega)
  · intro o ho
    by_cases e : o = n
    · subst e
      refine ⟨?_, ?_⟩
      · rw [d51n]
        have := (o3 o h5 (Nat.le_refl o)).2.2
        simpa [am_put] using this
      · simpa [am_put] using h1
    · have := o7 o (by omega)
      refine ⟨?_, ?_⟩
      · rw [d51 o (by omega)]; simpa [am_put, e] using this.1
      · simpa [am_put, e] using this.2
  · intro o ho hs
    by_cases e : o = n
    · rw [e]; exact d51n
    · rw [d51 o (by omega)]; exact o8 o (by omega) hs
  · intro o ho hs
    by_cases e : o = n
    · exfalso
      rw [e] at hs
      have := (o3 n h5 (Nat.le_refl n)).1
      have q : D 48 0 n = 1 := hs
      rw [this] at q
      exact absurd q (by decide)
    · rw [d51 o (by omega)]; exact o9 o (by omega) hs
  · intro o ho hs
    by_cases e : o = n
    · rw [e, d46n, et, nt_i (by omega)]
      exact hP.2.2.2.2.2.2.2.2.2 t ht hsl
    · rw [d46 o e]; exact o10 o (by omega) hs
  · intro c hc
    rcases hC.2.1 c hc with q | ⟨o, ho, q1, q2⟩
    · exact Or.inl q
    · exact Or.inr ⟨o, by omega, q1, (d51 o ho).trans q2⟩
  · intro o c ho hc q
    by_cases e : o = n
    · exfalso
      rw [e, d51n] at q
      exact i3_nm (by omega) q.symm
    · rw [d51 o (by omega)] at q
      rw [d46 o e]
      exact hC.2.2 o c (by omega) hc q
  · obtain ⟨b1, b2, b3, b4, b5, b6, b7⟩ := hB
    refine ⟨b1, b2, b3, fun x hx => ?_, b5, b6, b7⟩
    obtain ⟨a1, a2, a3, a4, a5, a6, c, hc, a7, a8, a9⟩ := b4 x hx
    exact ⟨a1, a2, a3, a4, a5, by omega, c, hc, (d51 _ a6).trans a7, a8, a9⟩
theorem st_le (v : Int32) : am_st 27 10 ≤ v ∧ v ≤ am_st 28 10 := by
  refine ⟨?_, ?_⟩
  · rw [Int32.le_iff_toInt_le]
    have := v.le_toInt
    have e : (am_st 27 10).toInt = -2147483648 := by decide
    omega
  · rw [Int32.le_iff_toInt_le]
    have := v.toInt_lt
    have e : (am_st 28 10).toInt = 2147483647 := by decide
    omega
theorem sX10_fits {g : Nat} (hg : g < 16) (v : Int32) (M : am_M) : fX10_fits [.inl (.int (i3 g)), .inl (.int v)] M = am_rI (bi (am_st 27 g ≤ v ∧ v ≤ am_st 28 g)) M := by
  have ne : ∀ {a b : Nat}, a < 16 → b < 16 → ¬ a = b → ¬ i3 a = i3 b := fun ha hb h q => h ((i3_inj (by omega) (by omega)).mp q)
  have all := st_le v
  match g, hg with
  | 0, _ => exact qX10_fits_0 rfl
  | 1, _ => exact qX10_fits_1 (by decide) rfl
  | 2, _ => exact qX10_fits_2 (by decide) (by decide) rfl
  | 3, _ => exact qX10_fits_3 (by decide) (by decide) (by decide) rfl
  | 4, _ => exact qX10_fits_4 (by decide) (by decide) (by decide) (by decide) rfl
  | 5, _ => exact qX10_fits_5 (by decide) (by decide) (by decide) (by decide) (by decide) rfl
  | 6, _ => exact qX10_fits_6 (by decide) (by decide) (by decide) (by decide) (by decide) (by decide) rfl
  | 7, _ => exact qX10_fits_7 (by decide) (by decide) (by decide) (by decide) (by decide) (by decide) (by decide) rfl
  | 8, _ => exact qX10_fits_8 (by decide) (by decide) (by decide) (by decide) (by decide) (by decide) (by decide) (by decide) rfl
  | 9, _ => exact qX10_fits_9 (by decide) (by decide) (by decide) (by decide) (by decide) (by decide) (by decide) (by decide) (by decide) rfl
  | 10, _ => rw [bi_t all]; exact qX10_fits_10 (by decide) (by decide) (by decide) (by decide) (by decide) (by decide) (by decide) (by decide) (by decide) (by decide) rfl
  | 11, _ => rw [bi_t (p := am_st 27 11 ≤ v ∧ v ≤ am_st 28 11) all]; exact qX10_fits_11 (by decide) (by decide) (by decide) (by decide) (by decide) (by decide) (by decide) (by decide) (by decide) (by decide) (by decide) rfl
  | 12, _ => exact qX10_fits_12 (by decide) (by decide) (by decide) (by decide) (by decide) (by decide) (by decide) (by decide) (by decide) (by decide) (by decide) (by decide) rfl
  | 13, _ => exact qX10_fits_13 (by decide) (by decide) (by decide) (by decide) (by decide) (by decide) (by decide) (by decide) (by decide) (by decide) (by decide) (by decide) (by decide) rfl
  | 14, _ => rw [bi_t (p := am_st 27 14 ≤ v ∧ v ≤ am_st 28 14) all]; exact qX10_fits_14 (by decide) (by decide) (by decide) (by decide) (by decide) (by decide) (by decide) (by decide) (by decide) (by decide) (by decide) (by decide) (by decide) (by decide) rfl
  | 15, _ => exact qX10_fits_15 (by decide) (by decide) (by decide) (by decide) (by decide) (by decide) (by decide) (by decide) (by decide) (by decide) (by decide) (by decide) (by decide) (by decide) (by decide) rfl
  | g + 16, h => exact absurd h (by omega)

/-- a test that no open order has may be changed: what stands elsewhere is kept -/
theorem Rel_test {lo ms jd T n t : Nat} {L : List Bk} {C D C' D' : am_M} (ht : t < 4) (h : Rel lo ms jd T n L C D) (hno : ¬ ord D n (i3 t)) (hP : RP C' D')
    (hC : ∀ k, ¬ k = 18 → ¬ k = 6 → ¬ k = 0 → ¬ k = 11 → ¬ k = 12 → C' k = C k) (hD : ∀ k, ¬ k = 10 → ¬ k = 30 → ¬ k = 31 → ¬ k = 32 → ¬ k = 33 → ¬ k = 34 → D' k = D k) (h10 : ∀ f, ¬ f = 45 → D' 10 0 f = D 10 0 f)
    (hF : ∀ t' f, ¬ t' = t → t' < 4 → f < 16 → fd D' t' f = fd D t' f) (h34 : ∀ t', ¬ t' = t → D' 34 0 t' = D 34 0 t') : Rel lo ms jd T n L C' D' := by
  obtain ⟨_, hS, hFo, hQ, hN, hO, hH, hCu, hB⟩ := h
  have tst : ∀ o, o < n → nt (D 48 0 o) ≤ 1 → ¬ nt (D 46 0 o) = t := by
    intro o ho hs q
    have h40 := hN.2.2.1
    exact hno ⟨o, ho, by rw [← q]; exact (hO.2.1 o (by omega)).1.1, hs⟩
  have t4 : ∀ o, o < n → nt (D 46 0 o) < 4 := fun o ho => by
    have h40 := hN.2.2.1
    have := (hO.2.1 o (by omega)).1.2
    omega
  refine ⟨hP, ?_, ?_, ?_, ?_, ?_, ?_, ?_, ?_⟩
  · unfold RS; rw [hC 8 (by decide) (by decide) (by decide) (by decide) (by decide), hD 37 (by decide) (by decide) (by decide) (by decide) (by decide) (by decide), hD 38 (by decide) (by decide) (by decide) (by decide) (by decide) (by decide), hD 39 (by decide) (by decide) (by decide) (by decide) (by decide) (by decide)]; exact hS
  · unfold RF; rw [hC 21 (by decide) (by decide) (by decide) (by decide) (by decide), hD 43 (by decide) (by decide) (by decide) (by decide) (by decide) (by decide)]; exact hFo
  · unfold RQ; rw [hC 5 (by decide) (by decide) (by decide) (by decide) (by decide), hD 40 (by decide) (by decide) (by decide) (by decide) (by decide) (by decide), hD 41 (by decide) (by decide) (by decide) (by decide) (by decide) (by decide), hD 42 (by decide) (by decide) (by decide) (by decide) (by decide) (by decide)]; exact hQ
  · unfold RN; rw [hC 9 (by decide) (by decide) (by decide) (by decide) (by decide), h10 14 (by decide), h10 41 (by decide), h10 44 (by decide), h10 46 (by decide), h10 47 (by decide), h10 43 (by decide), h10 42 (by decide)]; exact hN
  · unfold RO
    rw [hC 4 (by decide) (by decide) (by decide) (by decide) (by decide), hD 45 (by decide) (by decide) (by decide) (by decide) (by decide) (by decide), hD 46 (by decide) (by decide) (by decide) (by decide) (by decide) (by decide), hD 47 (by decide) (by decide) (by decide) (by decide) (by decide) (by decide), hD 48 (by decide) (by decide) (by decide) (by decide) (by decide) (by decide), hD 49 (by decide) (by decide) (by decide) (by decide) (by decide) (by decide), hD 50 (by decide) (by decide) (by decide) (by decide) (by decide) (by decide), hD 51 (by decide) (by decide) (by decide) (by decide) (by decide) (by decide), hD 53 (by decide) (by decide) (by decide) (by decide) (by decide) (by decide), hD 57 (by decide) (by decide) (by decide) (by decide) (by decide) (by decide), hD 58 (by decide) (by decide) (by decide) (by decide) (by decide) (by decide)]
    obtain ⟨o1, o2, o3, o4, o5, o6, o7, o8, o9, o10⟩ := hO
    refine ⟨o1, o2, o3, o4, o5, o6, o7, o8, o9, fun o ho hs => ?_⟩
    exact cmpl_cg (o10 o ho hs) (fun f hf => hF _ f (tst o ho hs) (t4 o ho) hf) (h34 _ (tst o ho hs))
  · unfold RH; rw [hC 3 (by decide) (by decide) (by decide) (by decide) (by decide), hC 17 (by decide) (by decide) (by decide) (by decide) (by decide), hD 48 (by decide) (by decide) (by decide) (by decide) (by decide) (by decide), hD 69 (by decide) (by decide) (by decide) (by decide) (by decide) (by decide), h10 40 (by decide)]; exact hH
  · refine ⟨?_, ?_, fun o c ho hc q => ?_⟩
    · rw [hC 1 (by decide) (by decide) (by decide) (by decide) (by decide), hD 59 (by decide) (by decide) (by decide) (by decide) (by decide) (by decide), hD 60 (by decide) (by decide) (by decide) (by decide) (by decide) (by decide)]; exact hCu.1
    · rw [hC 1 (by decide) (by decide) (by decide) (by decide) (by decide), hD 51 (by decide) (by decide) (by decide) (by decide) (by decide) (by decide)]; exact hCu.2.1
    · rw [hD 51 (by decide) (by decide) (by decide) (by decide) (by decide) (by decide)] at q
      have run : D 48 0 o = 1 := Classical.byContradiction fun r => by
        have := hO.2.2.2.2.2.2.2.1 o ho r
        rw [this] at q
        exact i3_nm (by omega) q.symm
      have hs : nt (D 48 0 o) ≤ 1 := by rw [run]; decide
      rw [hD 46 (by decide) (by decide) (by decide) (by decide) (by decide) (by decide)]
      refine RU_cg (hCu.2.2 o c ho hc q) ?_ ?_ ?_ ?_ ?_ ?_ ?_ ?_ ?_ (fun f hf => hF _ f (tst o ho hs) (t4 o ho) hf) rfl
      · intro f _; rw [hC 1 (by decide) (by decide) (by decide) (by decide) (by decide)]
      · intro j; rw [hC 13 (by decide) (by decide) (by decide) (by decide) (by decide)]
      · intro j; rw [hC 14 (by decide) (by decide) (by decide) (by decide) (by decide)]
      · intro j; rw [hC 15 (by decide) (by decide) (by decide) (by decide) (by decide)]
      · rw [hD 59 (by decide) (by decide) (by decide) (by decide) (by decide) (by decide)]
      · rw [hD 52 (by decide) (by decide) (by decide) (by decide) (by decide) (by decide)]
      · rw [hD 54 (by decide) (by decide) (by decide) (by decide) (by decide) (by decide)]
      · rw [hD 56 (by decide) (by decide) (by decide) (by decide) (by decide) (by decide)]
      · intro j _; rw [hD 55 (by decide) (by decide) (by decide) (by decide) (by decide) (by decide)]
  · unfold RB; rw [h10 36 (by decide), h10 37 (by decide), h10 38 (by decide), hD 51 (by decide) (by decide) (by decide) (by decide) (by decide) (by decide), hD 61 (by decide) (by decide) (by decide) (by decide) (by decide) (by decide), hD 62 (by decide) (by decide) (by decide) (by decide) (by decide) (by decide), hD 63 (by decide) (by decide) (by decide) (by decide) (by decide) (by decide), hD 64 (by decide) (by decide) (by decide) (by decide) (by decide) (by decide), hD 65 (by decide) (by decide) (by decide) (by decide) (by decide) (by decide), hC 19 (by decide) (by decide) (by decide) (by decide) (by decide), hC 20 (by decide) (by decide) (by decide) (by decide) (by decide)]; exact hB
theorem J_define {T : Nat} {C D : am_M} (h : St T C D) (x1 x2 x3 : Int32) : JV T (fL_define [.inr (9, 0), .inl (.int x1), .inl (.int x2), .inl (.int x3)] C) (fX10_define [.inr (10, 0), .inl (.int x1), .inl (.int x2), .inl (.int x3)] D) := by
  obtain ⟨n, L, h⟩ := h
  by_cases h1 : 0 ≤ x1 ∧ x1 ≤ 3
  case neg => exact ⟨1, C, _, qL_define_0 (qX9_define_0 h1), qX10_define_0 h1, rfl, n, L, Rel_thr h⟩
  by_cases h2 : 0 ≤ x2 ∧ x2 ≤ 15
  case neg => exact ⟨1, C, _, qL_define_0 (qX9_define_1 h1 (fun q => h2 q.1)), qX10_define_1 h1 h2, rfl, n, L, Rel_thr h⟩
  obtain ⟨t, ht, et⟩ := pl (m := 3) (by decide) h1
  obtain ⟨g, hg, eg⟩ := pl (m := 15) (by decide) h2
  have en : Int32.toNatClampNeg x2 = g := by rw [eg]; exact i3_nat (by omega)
  have d1 := sX10_fits hg x3 D
  rw [← eg] at d1
  by_cases h3 : am_st 27 g ≤ x3 ∧ x3 ≤ am_st 28 g
  case neg =>
    rw [bi_f h3] at d1
    exact ⟨1, C, _, qL_define_0 (qX9_define_1 h1 (fun q => h3 (by rw [en] at q; exact q.2))), qX10_define_2 h1 h2 d1 rfl, rfl, n, L, Rel_thr h⟩
  rw [bi_t h3] at d1
  have h3' : (0 ≤ x2 ∧ x2 ≤ 15) ∧ am_st 27 (Int32.toNatClampNeg x2) ≤ x3 ∧ x3 ≤ am_st 28 (Int32.toNatClampNeg x2) := ⟨h2, by rw [en]; exact h3⟩
  have hP := h.1
  have hN := h.2.2.2.2.1
  have hO := h.2.2.2.2.2.1
  have c2 := sX9_isOrdered hN hO x1
  have d2 := sX10_pending hN hO x1
  by_cases h4 : ord D n x1
  · rw [bi_t h4] at c2 d2
    exact ⟨2, C, _, qL_define_1 (qX9_define_3 h1 h3' c2 (by decide)), qX10_define_4 h1 h2 d1 (by decide) d2 (by decide), rfl, n, L, Rel_thr h⟩
  rw [bi_f h4] at c2 d2
  have ei : 16 * x1 + x2 = i3 (16 * t + g) := by rw [et, eg]; exact (congrArg (· + i3 g) (i3_mul 16 t)).trans (i3_add _ _)
  refine ⟨0, _, _, qL_define_2 (qX9_define_2 h1 h3' c2 rfl ht et hg eg), qX10_define_3 h1 h2 d1 (by decide) d2 rfl (j1 := 16 * t + g) (by omega) ei ht et, rfl, n, L, ?_⟩
  rw [et] at h4
  refine Rel_test ht h h4 ?_ ?_ ?_ ?_ ?_ ?_
  · obtain ⟨p1, p2, p3, p4, p5, p6, p7, p8, p9, p10⟩ := hP
    have fe : ∀ t' f, t' < 4 → f < 16 → fd (am_put (am_put (am_put D 10 0 45 0) 30 0 (16 * t + g) x3) 31 0 t 0) t' f = if t' = t ∧ f = g then x3 else fd D t' f := by
      intro t' f ht' hf
      show am_put (am_put D 10 0 45 0) 30 0 (16 * t + g) x3 30 0 (16 * t' + f) = _
      by_cases e : t' = t ∧ f = g
      · rw [if_pos e, put_eq ⟨rfl, rfl, by omega⟩]
      · rw [if_neg e, put_ne (by omega)]; rfl
    refine ⟨fun t' f ht' hf => ?_, fun t' f ht' hf => ?_, fun t' ht' => ?_, p4, p5, p6, p7, p8, p9, fun t' ht' hs => ?_⟩
    · rw [fe t' f ht' hf]
      show am_put C 18 t g x3 18 t' f = _
      by_cases e : t' = t ∧ f = g
      · rw [if_pos e, put_eq ⟨rfl, e.1, e.2⟩]
      · rw [if_neg e, put_ne (by omega)]; exact p1 t' f ht' hf
    · rw [fe t' f ht' hf]
      by_cases e : t' = t ∧ f = g
      · rw [if_pos e, e.2]; exact h3
      · rw [if_neg e]; exact p2 t' f ht' hf
    · by_cases e : t' = t
      · rw [e, put_eq ⟨rfl, rfl, rfl⟩, put_eq ⟨rfl, rfl, rfl⟩]; exact ⟨rfl, Or.inl rfl⟩
      · rw [put_ne (by omega), put_ne (by omega), put_ne (by omega)]; exact p3 t' ht'
    · by_cases e : t' = t
      · rw [e, put_eq ⟨rfl, rfl, rfl⟩] at hs; exact absurd hs (by decide)
      · rw [put_ne (by omega)] at hs
        refine cmpl_cg (p10 t' ht' hs) (fun f hf => ?_) rfl
        rw [fe t' f ht' hf, if_neg (fun q => e q.1)]
  · intro k q1 q2 _ _ _
    funext i f
    rw [put_ne (fun q => q2 q.1), put_ne (fun q => q1 q.1)]
  · intro k q1 q2 q3 _ _ _
    funext i f
    rw [put_ne (fun q => q3 q.1), put_ne (fun q => q2 q.1), put_ne (fun q => q1 q.1)]
  · intro f hf
    show am_put D 10 0 45 0 10 0 f = _
    rw [put_ne (fun q => hf q.2.2)]
  · intro t' f e ht' hf
    show am_put (am_put D 10 0 45 0) 30 0 (16 * t + g) x3 30 0 (16 * t' + f) = _
    rw [put_ne (by omega)]; rfl
  · intro t' _; rfl
