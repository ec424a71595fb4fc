/-! ===== the ways through the methods ===== -/
theorem mL_law {L : Nat} {xs : Nat → Int32} {n m pc : Nat} {ls st : List am_V} {M : am_M} {res : am_O × am_M} (h : rL_law L xs n pc ls st M = some res) (hm : n ≤ m) : rL_law L xs m pc ls st M = some res := by
  have h2 := am_run_mono_add h (m - n)
  rw [show n + (m - n) = m by omega] at h2
  exact h2
theorem qL_law_20_0 {L : Nat} {xs : Nat → Int32} (hL : L ≤ 2147483648) {M : am_M} {n : Nat} {res : am_O × am_M} (k : rL_law L xs n 23 [.inr (29, 0), .inr (9, 0), .inr (10, 0), .inr (80, 0), .inl (.int 0), am_D, am_D] [] M = some res) : rL_law L xs (n + 100) 20 [.inr (29, 0), .inr (9, 0), .inr (10, 0), .inr (80, 0), am_D, am_D, am_D] [] M = some res := by
  refine eL_law_20 ?_
  try simp only [am_put_nk, am_put_nf, am_put_i, not_false_eq_true, Nat.reduceEqDiff]
  exact k
theorem qL_law_23_0 {L : Nat} {xs : Nat → Int32} (hL : L ≤ 2147483648) {x4 : Nat} {x5 : am_V} {x6 : am_V} {M : am_M} {n : Nat} (h1 : ((Int32.ofNat L) - 5) < (i3 x4)) : rL_law L xs (n + 100) 23 [.inr (29, 0), .inr (9, 0), .inr (10, 0), .inr (80, 0), .inl (.int (i3 x4)), x5, x6] [] M = am_rI 1 M := by
  refine eL_law_23 ?_
  try simp only [am_put_nk, am_put_nf, am_put_i, not_false_eq_true, Nat.reduceEqDiff]
  refine ip h1 ?_
  all_goals rfl
theorem qL_law_23_1 {L : Nat} {xs : Nat → Int32} (hL : L ≤ 2147483648) {x4 : Nat} {x5 : am_V} {x6 : am_V} {M : am_M} {n : Nat} {res : am_O × am_M} {j1 : Nat} {j2 : Nat} {j3 : Nat} {v4 : Int32} {M5 : am_M} {M6 : am_M} (h1 : ¬ (((Int32.ofNat L) - 5) < (i3 x4))) (h2 : x4 < L) (h3 : ((xs x4) &&& 31) = 0) (h4 : j1 < L) (h5 : ((i3 x4) + 1) = i3 j1) (h6 : j2 < L) (h7 : ((i3 x4) + 2) = i3 j2) (h8 : j3 < L) (h9 : ((i3 x4) + 3) = i3 j3) (h10 : fL_define [.inr (9, 0), .inl (.int (xs j1)), .inl (.int (xs j2)), .inl (.int (xs j3))] M = am_rI v4 M5) (h11 : fX10_define [.inr (10, 0), .inl (.int (xs j1)), .inl (.int (xs j2)), .inl (.int (xs j3))] M5 = am_rV M6) (h12 : (M6 10 0 45) = v4) (k : rL_law L xs n 23 [.inr (29, 0), .inr (9, 0), .inr (10, 0), .inr (80, 0), .inl (.int ((i3 x4) + 5)), .inl (.int v4), x6] [] M6 = some res) : rL_law L xs (n + 500) 23 [.inr (29, 0), .inr (9, 0), .inr (10, 0), .inr (80, 0), .inl (.int (i3 x4)), x5, x6] [] M = some res := by
  refine eL_law_23 ?_
  try simp only [am_put_nk, am_put_nf, am_put_i, not_false_eq_true, Nat.reduceEqDiff]
  refine iq h1 ?_
  refine ip (i3_in' h2 hL) ?_
  try rw [ixm h2 hL]
  refine ip h3 ?_
  refine eL_law_132 ?_
  try simp only [am_put_nk, am_put_nf, am_put_i, not_false_eq_true, Nat.reduceEqDiff]
  refine ip (ixi h5 h4 hL) ?_
  try rw [ixn h5 h4 hL]
  refine ip (ixi h7 h6 hL) ?_
  try rw [ixn h7 h6 hL]
  refine ip (ixi h9 h8 hL) ?_
  try rw [ixn h9 h8 hL]
  refine ri h10 ?_
  refine eL_law_154 ?_
  try simp only [am_put_nk, am_put_nf, am_put_i, not_false_eq_true, Nat.reduceEqDiff]
  refine ip (ixi h5 h4 hL) ?_
  try rw [ixn h5 h4 hL]
  refine ip (ixi h7 h6 hL) ?_
  try rw [ixn h7 h6 hL]
  refine ip (ixi h9 h8 hL) ?_
  try rw [ixn h9 h8 hL]
  refine rv h11 ?_
  refine eL_law_178 ?_
  try simp only [am_put_nk, am_put_nf, am_put_i, not_false_eq_true, Nat.reduceEqDiff]
  refine ip h12 ?_
  refine eL_law_1280 ?_
  try simp only [am_put_nk, am_put_nf, am_put_i, not_false_eq_true, Nat.reduceEqDiff]
  exact k
theorem qL_law_23_3 {L : Nat} {xs : Nat → Int32} (hL : L ≤ 2147483648) {x4 : Nat} {x5 : am_V} {x6 : am_V} {M : am_M} {n : Nat} {res : am_O × am_M} {j1 : Nat} {j2 : Nat} {j3 : Nat} {v4 : Int32} {M5 : am_M} {v6 : Int32} {M7 : am_M} (h1 : ¬ (((Int32.ofNat L) - 5) < (i3 x4))) (h2 : x4 < L) (h3 : ¬ (((xs x4) &&& 31) = 0)) (h4 : ((xs x4) &&& 31) = 1) (h5 : j1 < L) (h6 : ((i3 x4) + 1) = i3 j1) (h7 : j2 < L) (h8 : ((i3 x4) + 2) = i3 j2) (h9 : j3 < L) (h10 : ((i3 x4) + 3) = i3 j3) (h11 : fL_curve [.inr (9, 0), .inl (.int (xs j1)), .inl (.int (xs j2)), .inl (.int (xs j3)), .inr (80, 0)] M = am_rI v4 M5) (h12 : fX10_curve [.inr (10, 0), .inl (.int (xs j1)), .inl (.int (xs j2)), .inl (.int (xs j3))] M5 = am_rI v6 M7) (h13 : (M7 10 0 45) = v4) (h14 : v4 = 0) (h15 : (lg_cmp (am_jn (M7 80 0 (2 * (Int32.toNatClampNeg 0))) (M7 80 0 (2 * (Int32.toNatClampNeg 0) + 1))) (Int32.toInt64 v6)) = 0) (k : rL_law L xs n 23 [.inr (29, 0), .inr (9, 0), .inr (10, 0), .inr (80, 0), .inl (.int ((i3 x4) + 5)), .inl (.int v4), .inl (.int v6)] [] M7 = some res) : rL_law L xs (n + 600) 23 [.inr (29, 0), .inr (9, 0), .inr (10, 0), .inr (80, 0), .inl (.int (i3 x4)), x5, x6] [] M = some res := by
  refine eL_law_23 ?_
  try simp only [am_put_nk, am_put_nf, am_put_i, not_false_eq_true, Nat.reduceEqDiff]
  refine iq h1 ?_
  refine ip (i3_in' h2 hL) ?_
  try rw [ixm h2 hL]
  refine iq h3 ?_
  refine ip h4 ?_
  refine eL_law_192 ?_
  try simp only [am_put_nk, am_put_nf, am_put_i, not_false_eq_true, Nat.reduceEqDiff]
  refine ip (ixi h6 h5 hL) ?_
  try rw [ixn h6 h5 hL]
  refine ip (ixi h8 h7 hL) ?_
  try rw [ixn h8 h7 hL]
  refine ip (ixi h10 h9 hL) ?_
  try rw [ixn h10 h9 hL]
  refine ri h11 ?_
  refine eL_law_215 ?_
  try simp only [am_put_nk, am_put_nf, am_put_i, not_false_eq_true, Nat.reduceEqDiff]
  refine ip (ixi h6 h5 hL) ?_
  try rw [ixn h6 h5 hL]
  refine ip (ixi h8 h7 hL) ?_
  try rw [ixn h8 h7 hL]
  refine ip (ixi h10 h9 hL) ?_
  try rw [ixn h10 h9 hL]
  refine ri h12 ?_
  refine eL_law_239 ?_
  try simp only [am_put_nk, am_put_nf, am_put_i, not_false_eq_true, Nat.reduceEqDiff]
  refine ip h13 ?_
  refine ip h14 ?_
  refine eL_law_264 ?_
  try simp only [am_put_nk, am_put_nf, am_put_i, not_false_eq_true, Nat.reduceEqDiff]
  refine ip h15 ?_
  refine eL_law_1280 ?_
  try simp only [am_put_nk, am_put_nf, am_put_i, not_false_eq_true, Nat.reduceEqDiff]
  exact k
theorem qL_law_23_5 {L : Nat} {xs : Nat → Int32} (hL : L ≤ 2147483648) {x4 : Nat} {x5 : am_V} {x6 : am_V} {M : am_M} {n : Nat} {res : am_O × am_M} {j1 : Nat} {j2 : Nat} {j3 : Nat} {v4 : Int32} {M5 : am_M} {v6 : Int32} {M7 : am_M} (h1 : ¬ (((Int32.ofNat L) - 5) < (i3 x4))) (h2 : x4 < L) (h3 : ¬ (((xs x4) &&& 31) = 0)) (h4 : ((xs x4) &&& 31) = 1) (h5 : j1 < L) (h6 : ((i3 x4) + 1) = i3 j1) (h7 : j2 < L) (h8 : ((i3 x4) + 2) = i3 j2) (h9 : j3 < L) (h10 : ((i3 x4) + 3) = i3 j3) (h11 : fL_curve [.inr (9, 0), .inl (.int (xs j1)), .inl (.int (xs j2)), .inl (.int (xs j3)), .inr (80, 0)] M = am_rI v4 M5) (h12 : fX10_curve [.inr (10, 0), .inl (.int (xs j1)), .inl (.int (xs j2)), .inl (.int (xs j3))] M5 = am_rI v6 M7) (h13 : (M7 10 0 45) = v4) (h14 : ¬ (v4 = 0)) (k : rL_law L xs n 23 [.inr (29, 0), .inr (9, 0), .inr (10, 0), .inr (80, 0), .inl (.int ((i3 x4) + 5)), .inl (.int v4), .inl (.int v6)] [] M7 = some res) : rL_law L xs (n + 500) 23 [.inr (29, 0), .inr (9, 0), .inr (10, 0), .inr (80, 0), .inl (.int (i3 x4)), x5, x6] [] M = some res := by
  refine eL_law_23 ?_
  try simp only [am_put_nk, am_put_nf, am_put_i, not_false_eq_true, Nat.reduceEqDiff]
  refine iq h1 ?_
  refine ip (i3_in' h2 hL) ?_
  try rw [ixm h2 hL]
  refine iq h3 ?_
  refine ip h4 ?_
  refine eL_law_192 ?_
  try simp only [am_put_nk, am_put_nf, am_put_i, not_false_eq_true, Nat.reduceEqDiff]
  refine ip (ixi h6 h5 hL) ?_
  try rw [ixn h6 h5 hL]
  refine ip (ixi h8 h7 hL) ?_
  try rw [ixn h8 h7 hL]
  refine ip (ixi h10 h9 hL) ?_
  try rw [ixn h10 h9 hL]
  refine ri h11 ?_
  refine eL_law_215 ?_
  try simp only [am_put_nk, am_put_nf, am_put_i, not_false_eq_true, Nat.reduceEqDiff]
  refine ip (ixi h6 h5 hL) ?_
  try rw [ixn h6 h5 hL]
  refine ip (ixi h8 h7 hL) ?_
  try rw [ixn h8 h7 hL]
  refine ip (ixi h10 h9 hL) ?_
  try rw [ixn h10 h9 hL]
  refine ri h12 ?_
  refine eL_law_239 ?_
  try simp only [am_put_nk, am_put_nf, am_put_i, not_false_eq_true, Nat.reduceEqDiff]
  refine ip h13 ?_
  refine iq h14 ?_
  refine eL_law_1280 ?_
  try simp only [am_put_nk, am_put_nf, am_put_i, not_false_eq_true, Nat.reduceEqDiff]
  exact k
theorem qL_law_23_7 {L : Nat} {xs : Nat → Int32} (hL : L ≤ 2147483648) {x4 : Nat} {x5 : am_V} {x6 : am_V} {M : am_M} {n : Nat} {res : am_O × am_M} {j1 : Nat} {v2 : Int32} {M3 : am_M} {v4 : Int32} {M5 : am_M} (h1 : ¬ (((Int32.ofNat L) - 5) < (i3 x4))) (h2 : x4 < L) (h3 : ¬ (((xs x4) &&& 31) = 0)) (h4 : ¬ (((xs x4) &&& 31) = 1)) (h5 : ((xs x4) &&& 31) = 2) (h6 : j1 < L) (h7 : ((i3 x4) + 1) = i3 j1) (h8 : fL_seal [.inr (9, 0), .inl (.int (xs j1)), .inr (80, 0)] M = am_rI v2 M3) (h9 : fX10_seal [.inr (10, 0), .inl (.int (xs j1))] M3 = am_rI v4 M5) (h10 : (M5 10 0 45) = v2) (h11 : v2 = 0) (h12 : (if v4 = 0 then (lg_cmp (am_jn (M5 80 0 (2 * (Int32.toNatClampNeg 0))) (M5 80 0 (2 * (Int32.toNatClampNeg 0) + 1))) 0) else (lg_cmp (am_jn (M5 80 0 (2 * (Int32.toNatClampNeg 0))) (M5 80 0 (2 * (Int32.toNatClampNeg 0) + 1))) 1) : Int32) = 0) (k : rL_law L xs n 23 [.inr (29, 0), .inr (9, 0), .inr (10, 0), .inr (80, 0), .inl (.int ((i3 x4) + 5)), .inl (.int v2), .inl (.int v4)] [] M5 = some res) : rL_law L xs (n + 600) 23 [.inr (29, 0), .inr (9, 0), .inr (10, 0), .inr (80, 0), .inl (.int (i3 x4)), x5, x6] [] M = some res := by
  refine eL_law_23 ?_
  try simp only [am_put_nk, am_put_nf, am_put_i, not_false_eq_true, Nat.reduceEqDiff]
  refine iq h1 ?_
  refine ip (i3_in' h2 hL) ?_
  try rw [ixm h2 hL]
  refine iq h3 ?_
  refine iq h4 ?_
  refine ip h5 ?_
  refine eL_law_272 ?_
  try simp only [am_put_nk, am_put_nf, am_put_i, not_false_eq_true, Nat.reduceEqDiff]
  refine ip (ixi h7 h6 hL) ?_
  try rw [ixn h7 h6 hL]
  refine ri h8 ?_
  refine eL_law_283 ?_
  try simp only [am_put_nk, am_put_nf, am_put_i, not_false_eq_true, Nat.reduceEqDiff]
  refine ip (ixi h7 h6 hL) ?_
  try rw [ixn h7 h6 hL]
  refine ri h9 ?_
  refine eL_law_295 ?_
  try simp only [am_put_nk, am_put_nf, am_put_i, not_false_eq_true, Nat.reduceEqDiff]
  refine ip h10 ?_
  refine ip h11 ?_
  refine dm (K := fun v => rL_law L xs _ 327 [.inr (29, 0), .inr (9, 0), .inr (10, 0), .inr (80, 0), .inl (.int (i3 x4)), .inl (.int v2), .inl (.int v4)] (v :: []) M5) ?_
  refine eL_law_327 ?_
  try simp only [am_put_nk, am_put_nf, am_put_i, not_false_eq_true, Nat.reduceEqDiff]
  refine ip h12 ?_
  refine eL_law_1280 ?_
  try simp only [am_put_nk, am_put_nf, am_put_i, not_false_eq_true, Nat.reduceEqDiff]
  exact k
theorem qL_law_23_9 {L : Nat} {xs : Nat → Int32} (hL : L ≤ 2147483648) {x4 : Nat} {x5 : am_V} {x6 : am_V} {M : am_M} {n : Nat} {res : am_O × am_M} {j1 : Nat} {v2 : Int32} {M3 : am_M} {v4 : Int32} {M5 : am_M} (h1 : ¬ (((Int32.ofNat L) - 5) < (i3 x4))) (h2 : x4 < L) (h3 : ¬ (((xs x4) &&& 31) = 0)) (h4 : ¬ (((xs x4) &&& 31) = 1)) (h5 : ((xs x4) &&& 31) = 2) (h6 : j1 < L) (h7 : ((i3 x4) + 1) = i3 j1) (h8 : fL_seal [.inr (9, 0), .inl (.int (xs j1)), .inr (80, 0)] M = am_rI v2 M3) (h9 : fX10_seal [.inr (10, 0), .inl (.int (xs j1))] M3 = am_rI v4 M5) (h10 : (M5 10 0 45) = v2) (h11 : ¬ (v2 = 0)) (k : rL_law L xs n 23 [.inr (29, 0), .inr (9, 0), .inr (10, 0), .inr (80, 0), .inl (.int ((i3 x4) + 5)), .inl (.int v2), .inl (.int v4)] [] M5 = some res) : rL_law L xs (n + 500) 23 [.inr (29, 0), .inr (9, 0), .inr (10, 0), .inr (80, 0), .inl (.int (i3 x4)), x5, x6] [] M = some res := by
  refine eL_law_23 ?_
  try simp only [am_put_nk, am_put_nf, am_put_i, not_false_eq_true, Nat.reduceEqDiff]
  refine iq h1 ?_
  refine ip (i3_in' h2 hL) ?_
  try rw [ixm h2 hL]
  refine iq h3 ?_
  refine iq h4 ?_
  refine ip h5 ?_
  refine eL_law_272 ?_
  try simp only [am_put_nk, am_put_nf, am_put_i, not_false_eq_true, Nat.reduceEqDiff]
  refine ip (ixi h7 h6 hL) ?_
  try rw [ixn h7 h6 hL]
  refine ri h8 ?_
  refine eL_law_283 ?_
  try simp only [am_put_nk, am_put_nf, am_put_i, not_false_eq_true, Nat.reduceEqDiff]
  refine ip (ixi h7 h6 hL) ?_
  try rw [ixn h7 h6 hL]
  refine ri h9 ?_
  refine eL_law_295 ?_
  try simp only [am_put_nk, am_put_nf, am_put_i, not_false_eq_true, Nat.reduceEqDiff]
  refine ip h10 ?_
  refine iq h11 ?_
  refine eL_law_1280 ?_
  try simp only [am_put_nk, am_put_nf, am_put_i, not_false_eq_true, Nat.reduceEqDiff]
  exact k
theorem qL_law_23_11 {L : Nat} {xs : Nat → Int32} (hL : L ≤ 2147483648) {x4 : Nat} {x5 : am_V} {x6 : am_V} {M : am_M} {n : Nat} {res : am_O × am_M} {j1 : Nat} {j2 : Nat} {j3 : Nat} {j4 : Nat} {v5 : Int32} {M6 : am_M} {M7 : am_M} (h1 : ¬ (((Int32.ofNat L) - 5) < (i3 x4))) (h2 : x4 < L) (h3 : ¬ (((xs x4) &&& 31) = 0)) (h4 : ¬ (((xs x4) &&& 31) = 1)) (h5 : ¬ (((xs x4) &&& 31) = 2)) (h6 : ((xs x4) &&& 31) = 3) (h7 : j1 < L) (h8 : ((i3 x4) + 1) = i3 j1) (h9 : j2 < L) (h10 : ((i3 x4) + 2) = i3 j2) (h11 : j3 < L) (h12 : ((i3 x4) + 3) = i3 j3) (h13 : j4 < L) (h14 : ((i3 x4) + 4) = i3 j4) (h15 : fL_rack [.inr (9, 0), .inl (.int (xs j1)), .inl (.int (xs j2)), .inl (.int (xs j3)), .inl (.int (xs j4))] M = am_rI v5 M6) (h16 : fX10_rack [.inr (10, 0), .inl (.int (xs j1)), .inl (.int (xs j2)), .inl (.int (xs j3)), .inl (.int (xs j4))] M6 = am_rV M7) (h17 : (M7 10 0 45) = v5) (k : rL_law L xs n 23 [.inr (29, 0), .inr (9, 0), .inr (10, 0), .inr (80, 0), .inl (.int ((i3 x4) + 5)), .inl (.int v5), x6] [] M7 = some res) : rL_law L xs (n + 500) 23 [.inr (29, 0), .inr (9, 0), .inr (10, 0), .inr (80, 0), .inl (.int (i3 x4)), x5, x6] [] M = some res := by
  refine eL_law_23 ?_
  try simp only [am_put_nk, am_put_nf, am_put_i, not_false_eq_true, Nat.reduceEqDiff]
  refine iq h1 ?_
  refine ip (i3_in' h2 hL) ?_
  try rw [ixm h2 hL]
  refine iq h3 ?_
  refine iq h4 ?_
  refine iq h5 ?_
  refine ip h6 ?_
  refine eL_law_335 ?_
  try simp only [am_put_nk, am_put_nf, am_put_i, not_false_eq_true, Nat.reduceEqDiff]
  refine ip (ixi h8 h7 hL) ?_
  try rw [ixn h8 h7 hL]
  refine ip (ixi h10 h9 hL) ?_
  try rw [ixn h10 h9 hL]
  refine ip (ixi h12 h11 hL) ?_
  try rw [ixn h12 h11 hL]
  refine ip (ixi h14 h13 hL) ?_
  try rw [ixn h14 h13 hL]
  refine ri h15 ?_
  refine eL_law_363 ?_
  try simp only [am_put_nk, am_put_nf, am_put_i, not_false_eq_true, Nat.reduceEqDiff]
  refine ip (ixi h8 h7 hL) ?_
  try rw [ixn h8 h7 hL]
  refine ip (ixi h10 h9 hL) ?_
  try rw [ixn h10 h9 hL]
  refine ip (ixi h12 h11 hL) ?_
  try rw [ixn h12 h11 hL]
  refine ip (ixi h14 h13 hL) ?_
  try rw [ixn h14 h13 hL]
  refine rv h16 ?_
  refine eL_law_393 ?_
  try simp only [am_put_nk, am_put_nf, am_put_i, not_false_eq_true, Nat.reduceEqDiff]
  refine ip h17 ?_
  refine eL_law_1280 ?_
  try simp only [am_put_nk, am_put_nf, am_put_i, not_false_eq_true, Nat.reduceEqDiff]
  exact k
theorem qL_law_23_13 {L : Nat} {xs : Nat → Int32} (hL : L ≤ 2147483648) {x4 : Nat} {x5 : am_V} {x6 : am_V} {M : am_M} {n : Nat} {res : am_O × am_M} {j1 : Nat} {v2 : Int32} {M3 : am_M} {v4 : Int32} {M5 : am_M} (h1 : ¬ (((Int32.ofNat L) - 5) < (i3 x4))) (h2 : x4 < L) (h3 : ¬ (((xs x4) &&& 31) = 0)) (h4 : ¬ (((xs x4) &&& 31) = 1)) (h5 : ¬ (((xs x4) &&& 31) = 2)) (h6 : ¬ (((xs x4) &&& 31) = 3)) (h7 : ((xs x4) &&& 31) = 4) (h8 : j1 < L) (h9 : ((i3 x4) + 1) = i3 j1) (h10 : fL_removeRack [.inr (9, 0), .inl (.int (xs j1)), .inr (80, 0)] M = am_rI v2 M3) (h11 : fX10_removeRack [.inr (10, 0), .inl (.int (xs j1))] M3 = am_rI v4 M5) (h12 : (M5 10 0 45) = v2) (h13 : v2 = 0) (h14 : (lg_cmp (am_jn (M5 80 0 (2 * (Int32.toNatClampNeg 0))) (M5 80 0 (2 * (Int32.toNatClampNeg 0) + 1))) (Int32.toInt64 v4)) = 0) (k : rL_law L xs n 23 [.inr (29, 0), .inr (9, 0), .inr (10, 0), .inr (80, 0), .inl (.int ((i3 x4) + 5)), .inl (.int v2), .inl (.int v4)] [] M5 = some res) : rL_law L xs (n + 600) 23 [.inr (29, 0), .inr (9, 0), .inr (10, 0), .inr (80, 0), .inl (.int (i3 x4)), x5, x6] [] M = some res := by
  refine eL_law_23 ?_
  try simp only [am_put_nk, am_put_nf, am_put_i, not_false_eq_true, Nat.reduceEqDiff]
  refine iq h1 ?_
  refine ip (i3_in' h2 hL) ?_
  try rw [ixm h2 hL]
  refine iq h3 ?_
  refine iq h4 ?_
  refine iq h5 ?_
  refine iq h6 ?_
  refine ip h7 ?_
  refine eL_law_407 ?_
  try simp only [am_put_nk, am_put_nf, am_put_i, not_false_eq_true, Nat.reduceEqDiff]
  refine ip (ixi h9 h8 hL) ?_
  try rw [ixn h9 h8 hL]
  refine ri h10 ?_
  refine eL_law_418 ?_
  try simp only [am_put_nk, am_put_nf, am_put_i, not_false_eq_true, Nat.reduceEqDiff]
  refine ip (ixi h9 h8 hL) ?_
  try rw [ixn h9 h8 hL]
  refine ri h11 ?_
  refine eL_law_430 ?_
  try simp only [am_put_nk, am_put_nf, am_put_i, not_false_eq_true, Nat.reduceEqDiff]
  refine ip h12 ?_
  refine ip h13 ?_
  refine eL_law_455 ?_
  try simp only [am_put_nk, am_put_nf, am_put_i, not_false_eq_true, Nat.reduceEqDiff]
  refine ip h14 ?_
  refine eL_law_1280 ?_
  try simp only [am_put_nk, am_put_nf, am_put_i, not_false_eq_true, Nat.reduceEqDiff]
  exact k
theorem qL_law_23_15 {L : Nat} {xs : Nat → Int32} (hL : L ≤ 2147483648) {x4 : Nat} {x5 : am_V} {x6 : am_V} {M : am_M} {n : Nat} {res : am_O × am_M} {j1 : Nat} {v2 : Int32} {M3 : am_M} {v4 : Int32} {M5 : am_M} (h1 : ¬ (((Int32.ofNat L) - 5) < (i3 x4))) (h2 : x4 < L) (h3 : ¬ (((xs x4) &&& 31) = 0)) (h4 : ¬ (((xs x4) &&& 31) = 1)) (h5 : ¬ (((xs x4) &&& 31) = 2)) (h6 : ¬ (((xs x4) &&& 31) = 3)) (h7 : ((xs x4) &&& 31) = 4) (h8 : j1 < L) (h9 : ((i3 x4) + 1) = i3 j1) (h10 : fL_removeRack [.inr (9, 0), .inl (.int (xs j1)), .inr (80, 0)] M = am_rI v2 M3) (h11 : fX10_removeRack [.inr (10, 0), .inl (.int (xs j1))] M3 = am_rI v4 M5) (h12 : (M5 10 0 45) = v2) (h13 : ¬ (v2 = 0)) (k : rL_law L xs n 23 [.inr (29, 0), .inr (9, 0), .inr (10, 0), .inr (80, 0), .inl (.int ((i3 x4) + 5)), .inl (.int v2), .inl (.int v4)] [] M5 = some res) : rL_law L xs (n + 500) 23 [.inr (29, 0), .inr (9, 0), .inr (10, 0), .inr (80, 0), .inl (.int (i3 x4)), x5, x6] [] M = some res := by
  refine eL_law_23 ?_
  try simp only [am_put_nk, am_put_nf, am_put_i, not_false_eq_true, Nat.reduceEqDiff]
  refine iq h1 ?_
  refine ip (i3_in' h2 hL) ?_
  try rw [ixm h2 hL]
  refine iq h3 ?_
  refine iq h4 ?_
  refine iq h5 ?_
  refine iq h6 ?_
  refine ip h7 ?_
  refine eL_law_407 ?_
  try simp only [am_put_nk, am_put_nf, am_put_i, not_false_eq_true, Nat.reduceEqDiff]
  refine ip (ixi h9 h8 hL) ?_
  try rw [ixn h9 h8 hL]
  refine ri h10 ?_
  refine eL_law_418 ?_
  try simp only [am_put_nk, am_put_nf, am_put_i, not_false_eq_true, Nat.reduceEqDiff]
  refine ip (ixi h9 h8 hL) ?_
  try rw [ixn h9 h8 hL]
  refine ri h11 ?_
  refine eL_law_430 ?_
  try simp only [am_put_nk, am_put_nf, am_put_i, not_false_eq_true, Nat.reduceEqDiff]
  refine ip h12 ?_
  refine iq h13 ?_
  refine eL_law_1280 ?_
  try simp only [am_put_nk, am_put_nf, am_put_i, not_false_eq_true, Nat.reduceEqDiff]
  exact k
theorem qL_law_23_17 {L : Nat} {xs : Nat → Int32} (hL : L ≤ 2147483648) {x4 : Nat} {x5 : am_V} {x6 : am_V} {M : am_M} {n : Nat} {res : am_O × am_M} {j1 : Nat} {j2 : Nat} {j3 : Nat} {j4 : Nat} {v5 : Int32} {M6 : am_M} {M7 : am_M} (h1 : ¬ (((Int32.ofNat L) - 5) < (i3 x4))) (h2 : x4 < L) (h3 : ¬ (((xs x4) &&& 31) = 0)) (h4 : ¬ (((xs x4) &&& 31) = 1)) (h5 : ¬ (((xs x4) &&& 31) = 2)) (h6 : ¬ (((xs x4) &&& 31) = 3)) (h7 : ¬ (((xs x4) &&& 31) = 4)) (h8 : ((xs x4) &&& 31) = 5) (h9 : j1 < L) (h10 : ((i3 x4) + 1) = i3 j1) (h11 : j2 < L) (h12 : ((i3 x4) + 2) = i3 j2) (h13 : j3 < L) (h14 : ((i3 x4) + 3) = i3 j3) (h15 : j4 < L) (h16 : ((i3 x4) + 4) = i3 j4) (h17 : fL_reagent [.inr (9, 0), .inl (.int (xs j1)), .inl (.int (xs j2)), .inl (.int (xs j3)), .inl (.int (xs j4))] M = am_rI v5 M6) (h18 : fX10_reagent [.inr (10, 0), .inl (.int (xs j1)), .inl (.int (xs j2)), .inl (.int (xs j3)), .inl (.int (xs j4))] M6 = am_rV M7) (h19 : (M7 10 0 45) = v5) (k : rL_law L xs n 23 [.inr (29, 0), .inr (9, 0), .inr (10, 0), .inr (80, 0), .inl (.int ((i3 x4) + 5)), .inl (.int v5), x6] [] M7 = some res) : rL_law L xs (n + 500) 23 [.inr (29, 0), .inr (9, 0), .inr (10, 0), .inr (80, 0), .inl (.int (i3 x4)), x5, x6] [] M = some res := by
  refine eL_law_23 ?_
  try simp only [am_put_nk, am_put_nf, am_put_i, not_false_eq_true, Nat.reduceEqDiff]
  refine iq h1 ?_
  refine ip (i3_in' h2 hL) ?_
  try rw [ixm h2 hL]
  refine iq h3 ?_
  refine iq h4 ?_
  refine iq h5 ?_
  refine iq h6 ?_
  refine iq h7 ?_
  refine ip h8 ?_
  refine eL_law_463 ?_
  try simp only [am_put_nk, am_put_nf, am_put_i, not_false_eq_true, Nat.reduceEqDiff]
  refine ip (ixi h10 h9 hL) ?_
  try rw [ixn h10 h9 hL]
  refine ip (ixi h12 h11 hL) ?_
  try rw [ixn h12 h11 hL]
  refine ip (ixi h14 h13 hL) ?_
  try rw [ixn h14 h13 hL]
  refine ip (ixi h16 h15 hL) ?_
  try rw [ixn h16 h15 hL]
  refine ri h17 ?_
  refine eL_law_491 ?_
  try simp only [am_put_nk, am_put_nf, am_put_i, not_false_eq_true, Nat.reduceEqDiff]
  refine ip (ixi h10 h9 hL) ?_
  try rw [ixn h10 h9 hL]
  refine ip (ixi h12 h11 hL) ?_
  try rw [ixn h12 h11 hL]
  refine ip (ixi h14 h13 hL) ?_
  try rw [ixn h14 h13 hL]
  refine ip (ixi h16 h15 hL) ?_
  try rw [ixn h16 h15 hL]
  refine rv h18 ?_
  refine eL_law_521 ?_
  try simp only [am_put_nk, am_put_nf, am_put_i, not_false_eq_true, Nat.reduceEqDiff]
  refine ip h19 ?_
  refine eL_law_1280 ?_
  try simp only [am_put_nk, am_put_nf, am_put_i, not_false_eq_true, Nat.reduceEqDiff]
  exact k
theorem qL_law_23_19 {L : Nat} {xs : Nat → Int32} (hL : L ≤ 2147483648) {x4 : Nat} {x5 : am_V} {x6 : am_V} {M : am_M} {n : Nat} {res : am_O × am_M} {j1 : Nat} {j2 : Nat} {v3 : Int32} {M4 : am_M} {v5 : Int32} {M6 : am_M} (h1 : ¬ (((Int32.ofNat L) - 5) < (i3 x4))) (h2 : x4 < L) (h3 : ¬ (((xs x4) &&& 31) = 0)) (h4 : ¬ (((xs x4) &&& 31) = 1)) (h5 : ¬ (((xs x4) &&& 31) = 2)) (h6 : ¬ (((xs x4) &&& 31) = 3)) (h7 : ¬ (((xs x4) &&& 31) = 4)) (h8 : ¬ (((xs x4) &&& 31) = 5)) (h9 : ((xs x4) &&& 31) = 6) (h10 : j1 < L) (h11 : ((i3 x4) + 1) = i3 j1) (h12 : j2 < L) (h13 : ((i3 x4) + 2) = i3 j2) (h14 : fL_forbid [.inr (9, 0), .inl (.int (xs j1)), .inl (.int (xs j2)), .inr (80, 0)] M = am_rI v3 M4) (h15 : fX10_forbid [.inr (10, 0), .inl (.int (xs j1)), .inl (.int (xs j2))] M4 = am_rI v5 M6) (h16 : (M6 10 0 45) = v3) (h17 : v3 = 0) (h18 : (if v5 = 0 then (lg_cmp (am_jn (M6 80 0 (2 * (Int32.toNatClampNeg 0))) (M6 80 0 (2 * (Int32.toNatClampNeg 0) + 1))) 0) else (lg_cmp (am_jn (M6 80 0 (2 * (Int32.toNatClampNeg 0))) (M6 80 0 (2 * (Int32.toNatClampNeg 0) + 1))) 1) : Int32) = 0) (k : rL_law L xs n 23 [.inr (29, 0), .inr (9, 0), .inr (10, 0), .inr (80, 0), .inl (.int ((i3 x4) + 5)), .inl (.int v3), .inl (.int v5)] [] M6 = some res) : rL_law L xs (n + 600) 23 [.inr (29, 0), .inr (9, 0), .inr (10, 0), .inr (80, 0), .inl (.int (i3 x4)), x5, x6] [] M = some res := by
  refine eL_law_23 ?_
  try simp only [am_put_nk, am_put_nf, am_put_i, not_false_eq_true, Nat.reduceEqDiff]
  refine iq h1 ?_
  refine ip (i3_in' h2 hL) ?_
  try rw [ixm h2 hL]
  refine iq h3 ?_
  refine iq h4 ?_
  refine iq h5 ?_
  refine iq h6 ?_
  refine iq h7 ?_
  refine iq h8 ?_
  refine ip h9 ?_
  refine eL_law_535 ?_
  try simp only [am_put_nk, am_put_nf, am_put_i, not_false_eq_true, Nat.reduceEqDiff]
  refine ip (ixi h11 h10 hL) ?_
  try rw [ixn h11 h10 hL]
  refine ip (ixi h13 h12 hL) ?_
  try rw [ixn h13 h12 hL]
  refine ri h14 ?_
  refine eL_law_552 ?_
  try simp only [am_put_nk, am_put_nf, am_put_i, not_false_eq_true, Nat.reduceEqDiff]
  refine ip (ixi h11 h10 hL) ?_
  try rw [ixn h11 h10 hL]
  refine ip (ixi h13 h12 hL) ?_
  try rw [ixn h13 h12 hL]
  refine ri h15 ?_
  refine eL_law_570 ?_
  try simp only [am_put_nk, am_put_nf, am_put_i, not_false_eq_true, Nat.reduceEqDiff]
  refine ip h16 ?_
  refine ip h17 ?_
  refine dm (K := fun v => rL_law L xs _ 602 [.inr (29, 0), .inr (9, 0), .inr (10, 0), .inr (80, 0), .inl (.int (i3 x4)), .inl (.int v3), .inl (.int v5)] (v :: []) M6) ?_
  refine eL_law_602 ?_
  try simp only [am_put_nk, am_put_nf, am_put_i, not_false_eq_true, Nat.reduceEqDiff]
  refine ip h18 ?_
  refine eL_law_1280 ?_
  try simp only [am_put_nk, am_put_nf, am_put_i, not_false_eq_true, Nat.reduceEqDiff]
  exact k
theorem qL_law_23_21 {L : Nat} {xs : Nat → Int32} (hL : L ≤ 2147483648) {x4 : Nat} {x5 : am_V} {x6 : am_V} {M : am_M} {n : Nat} {res : am_O × am_M} {j1 : Nat} {j2 : Nat} {v3 : Int32} {M4 : am_M} {v5 : Int32} {M6 : am_M} (h1 : ¬ (((Int32.ofNat L) - 5) < (i3 x4))) (h2 : x4 < L) (h3 : ¬ (((xs x4) &&& 31) = 0)) (h4 : ¬ (((xs x4) &&& 31) = 1)) (h5 : ¬ (((xs x4) &&& 31) = 2)) (h6 : ¬ (((xs x4) &&& 31) = 3)) (h7 : ¬ (((xs x4) &&& 31) = 4)) (h8 : ¬ (((xs x4) &&& 31) = 5)) (h9 : ((xs x4) &&& 31) = 6) (h10 : j1 < L) (h11 : ((i3 x4) + 1) = i3 j1) (h12 : j2 < L) (h13 : ((i3 x4) + 2) = i3 j2) (h14 : fL_forbid [.inr (9, 0), .inl (.int (xs j1)), .inl (.int (xs j2)), .inr (80, 0)] M = am_rI v3 M4) (h15 : fX10_forbid [.inr (10, 0), .inl (.int (xs j1)), .inl (.int (xs j2))] M4 = am_rI v5 M6) (h16 : (M6 10 0 45) = v3) (h17 : ¬ (v3 = 0)) (k : rL_law L xs n 23 [.inr (29, 0), .inr (9, 0), .inr (10, 0), .inr (80, 0), .inl (.int ((i3 x4) + 5)), .inl (.int v3), .inl (.int v5)] [] M6 = some res) : rL_law L xs (n + 500) 23 [.inr (29, 0), .inr (9, 0), .inr (10, 0), .inr (80, 0), .inl (.int (i3 x4)), x5, x6] [] M = some res := by
  refine eL_law_23 ?_
  try simp only [am_put_nk, am_put_nf, am_put_i, not_false_eq_true, Nat.reduceEqDiff]
  refine iq h1 ?_
  refine ip (i3_in' h2 hL) ?_
  try rw [ixm h2 hL]
  refine iq h3 ?_
  refine iq h4 ?_
  refine iq h5 ?_
  refine iq h6 ?_
  refine iq h7 ?_
  refine iq h8 ?_
  refine ip h9 ?_
  refine eL_law_535 ?_
  try simp only [am_put_nk, am_put_nf, am_put_i, not_false_eq_true, Nat.reduceEqDiff]
  refine ip (ixi h11 h10 hL) ?_
  try rw [ixn h11 h10 hL]
  refine ip (ixi h13 h12 hL) ?_
  try rw [ixn h13 h12 hL]
  refine ri h14 ?_
  refine eL_law_552 ?_
  try simp only [am_put_nk, am_put_nf, am_put_i, not_false_eq_true, Nat.reduceEqDiff]
  refine ip (ixi h11 h10 hL) ?_
  try rw [ixn h11 h10 hL]
  refine ip (ixi h13 h12 hL) ?_
  try rw [ixn h13 h12 hL]
  refine ri h15 ?_
  refine eL_law_570 ?_
  try simp only [am_put_nk, am_put_nf, am_put_i, not_false_eq_true, Nat.reduceEqDiff]
  refine ip h16 ?_
  refine iq h17 ?_
  refine eL_law_1280 ?_
  try simp only [am_put_nk, am_put_nf, am_put_i, not_false_eq_true, Nat.reduceEqDiff]
  exact k
theorem qL_law_23_23 {L : Nat} {xs : Nat → Int32} (hL : L ≤ 2147483648) {x4 : Nat} {x5 : am_V} {x6 : am_V} {M : am_M} {n : Nat} {res : am_O × am_M} {j1 : Nat} {j2 : Nat} {j3 : Nat} {v4 : Int32} {M5 : am_M} {v6 : Int32} {M7 : am_M} (h1 : ¬ (((Int32.ofNat L) - 5) < (i3 x4))) (h2 : x4 < L) (h3 : ¬ (((xs x4) &&& 31) = 0)) (h4 : ¬ (((xs x4) &&& 31) = 1)) (h5 : ¬ (((xs x4) &&& 31) = 2)) (h6 : ¬ (((xs x4) &&& 31) = 3)) (h7 : ¬ (((xs x4) &&& 31) = 4)) (h8 : ¬ (((xs x4) &&& 31) = 5)) (h9 : ¬ (((xs x4) &&& 31) = 6)) (h10 : ((xs x4) &&& 31) = 7) (h11 : j1 < L) (h12 : ((i3 x4) + 1) = i3 j1) (h13 : j2 < L) (h14 : ((i3 x4) + 2) = i3 j2) (h15 : j3 < L) (h16 : ((i3 x4) + 3) = i3 j3) (h17 : (xs j3) = 0) (h18 : fL_order [.inr (9, 0), .inl (.int (xs j1)), .inl (.int (xs j2)), .inl (.int 0), .inr (80, 0)] M = am_rI v4 M5) (h19 : fX10_order [.inr (10, 0), .inl (.int (xs j1)), .inl (.int (xs j2)), .inl (.int 0)] M5 = am_rI v6 M7) (h20 : (M7 10 0 45) = v4) (h21 : v4 = 0) (h22 : (lg_cmp (am_jn (M7 80 0 (2 * (Int32.toNatClampNeg 0))) (M7 80 0 (2 * (Int32.toNatClampNeg 0) + 1))) (Int32.toInt64 v6)) = 0) (k : rL_law L xs n 23 [.inr (29, 0), .inr (9, 0), .inr (10, 0), .inr (80, 0), .inl (.int ((i3 x4) + 5)), .inl (.int v4), .inl (.int v6)] [] M7 = some res) : rL_law L xs (n + 600) 23 [.inr (29, 0), .inr (9, 0), .inr (10, 0), .inr (80, 0), .inl (.int (i3 x4)), x5, x6] [] M = some res := by
  refine eL_law_23 ?_
  try simp only [am_put_nk, am_put_nf, am_put_i, not_false_eq_true, Nat.reduceEqDiff]
  refine iq h1 ?_
  refine ip (i3_in' h2 hL) ?_
  try rw [ixm h2 hL]
  refine iq h3 ?_
  refine iq h4 ?_
  refine iq h5 ?_
  refine iq h6 ?_
  refine iq h7 ?_
  refine iq h8 ?_
  refine iq h9 ?_
  refine ip h10 ?_
  refine eL_law_610 ?_
  try simp only [am_put_nk, am_put_nf, am_put_i, not_false_eq_true, Nat.reduceEqDiff]
  refine ip (ixi h12 h11 hL) ?_
  try rw [ixn h12 h11 hL]
  refine ip (ixi h14 h13 hL) ?_
  try rw [ixn h14 h13 hL]
  refine ip (ixi h16 h15 hL) ?_
  try rw [ixn h16 h15 hL]
  refine ip h17 ?_
  refine ri h18 ?_
  refine eL_law_641 ?_
  try simp only [am_put_nk, am_put_nf, am_put_i, not_false_eq_true, Nat.reduceEqDiff]
  refine ip (ixi h12 h11 hL) ?_
  try rw [ixn h12 h11 hL]
  refine ip (ixi h14 h13 hL) ?_
  try rw [ixn h14 h13 hL]
  refine ip (ixi h16 h15 hL) ?_
  try rw [ixn h16 h15 hL]
  refine ip h17 ?_
  refine ri h19 ?_
  refine eL_law_673 ?_
  try simp only [am_put_nk, am_put_nf, am_put_i, not_false_eq_true, Nat.reduceEqDiff]
  refine ip h20 ?_
  refine ip h21 ?_
  refine eL_law_698 ?_
  try simp only [am_put_nk, am_put_nf, am_put_i, not_false_eq_true, Nat.reduceEqDiff]
  refine ip h22 ?_
  refine eL_law_1280 ?_
  try simp only [am_put_nk, am_put_nf, am_put_i, not_false_eq_true, Nat.reduceEqDiff]
  exact k
theorem qL_law_23_25 {L : Nat} {xs : Nat → Int32} (hL : L ≤ 2147483648) {x4 : Nat} {x5 : am_V} {x6 : am_V} {M : am_M} {n : Nat} {res : am_O × am_M} {j1 : Nat} {j2 : Nat} {j3 : Nat} {v4 : Int32} {M5 : am_M} {v6 : Int32} {M7 : am_M} (h1 : ¬ (((Int32.ofNat L) - 5) < (i3 x4))) (h2 : x4 < L) (h3 : ¬ (((xs x4) &&& 31) = 0)) (h4 : ¬ (((xs x4) &&& 31) = 1)) (h5 : ¬ (((xs x4) &&& 31) = 2)) (h6 : ¬ (((xs x4) &&& 31) = 3)) (h7 : ¬ (((xs x4) &&& 31) = 4)) (h8 : ¬ (((xs x4) &&& 31) = 5)) (h9 : ¬ (((xs x4) &&& 31) = 6)) (h10 : ((xs x4) &&& 31) = 7) (h11 : j1 < L) (h12 : ((i3 x4) + 1) = i3 j1) (h13 : j2 < L) (h14 : ((i3 x4) + 2) = i3 j2) (h15 : j3 < L) (h16 : ((i3 x4) + 3) = i3 j3) (h17 : (xs j3) = 0) (h18 : fL_order [.inr (9, 0), .inl (.int (xs j1)), .inl (.int (xs j2)), .inl (.int 0), .inr (80, 0)] M = am_rI v4 M5) (h19 : fX10_order [.inr (10, 0), .inl (.int (xs j1)), .inl (.int (xs j2)), .inl (.int 0)] M5 = am_rI v6 M7) (h20 : (M7 10 0 45) = v4) (h21 : ¬ (v4 = 0)) (k : rL_law L xs n 23 [.inr (29, 0), .inr (9, 0), .inr (10, 0), .inr (80, 0), .inl (.int ((i3 x4) + 5)), .inl (.int v4), .inl (.int v6)] [] M7 = some res) : rL_law L xs (n + 500) 23 [.inr (29, 0), .inr (9, 0), .inr (10, 0), .inr (80, 0), .inl (.int (i3 x4)), x5, x6] [] M = some res := by
  refine eL_law_23 ?_
  try simp only [am_put_nk, am_put_nf, am_put_i, not_false_eq_true, Nat.reduceEqDiff]
  refine iq h1 ?_
  refine ip (i3_in' h2 hL) ?_
  try rw [ixm h2 hL]
  refine iq h3 ?_
  refine iq h4 ?_
  refine iq h5 ?_
  refine iq h6 ?_
  refine iq h7 ?_
  refine iq h8 ?_
  refine iq h9 ?_
  refine ip h10 ?_
  refine eL_law_610 ?_
  try simp only [am_put_nk, am_put_nf, am_put_i, not_false_eq_true, Nat.reduceEqDiff]
  refine ip (ixi h12 h11 hL) ?_
  try rw [ixn h12 h11 hL]
  refine ip (ixi h14 h13 hL) ?_
  try rw [ixn h14 h13 hL]
  refine ip (ixi h16 h15 hL) ?_
  try rw [ixn h16 h15 hL]
  refine ip h17 ?_
  refine ri h18 ?_
  refine eL_law_641 ?_
  try simp only [am_put_nk, am_put_nf, am_put_i, not_false_eq_true, Nat.reduceEqDiff]
  refine ip (ixi h12 h11 hL) ?_
  try rw [ixn h12 h11 hL]
  refine ip (ixi h14 h13 hL) ?_
  try rw [ixn h14 h13 hL]
  refine ip (ixi h16 h15 hL) ?_
  try rw [ixn h16 h15 hL]
  refine ip h17 ?_
  refine ri h19 ?_
  refine eL_law_673 ?_
  try simp only [am_put_nk, am_put_nf, am_put_i, not_false_eq_true, Nat.reduceEqDiff]
  refine ip h20 ?_
  refine iq h21 ?_
  refine eL_law_1280 ?_
  try simp only [am_put_nk, am_put_nf, am_put_i, not_false_eq_true, Nat.reduceEqDiff]
  exact k
theorem qL_law_23_27 {L : Nat} {xs : Nat → Int32} (hL : L ≤ 2147483648) {x4 : Nat} {x5 : am_V} {x6 : am_V} {M : am_M} {n : Nat} {res : am_O × am_M} {j1 : Nat} {j2 : Nat} {j3 : Nat} {v4 : Int32} {M5 : am_M} {v6 : Int32} {M7 : am_M} (h1 : ¬ (((Int32.ofNat L) - 5) < (i3 x4))) (h2 : x4 < L) (h3 : ¬ (((xs x4) &&& 31) = 0)) (h4 : ¬ (((xs x4) &&& 31) = 1)) (h5 : ¬ (((xs x4) &&& 31) = 2)) (h6 : ¬ (((xs x4) &&& 31) = 3)) (h7 : ¬ (((xs x4) &&& 31) = 4)) (h8 : ¬ (((xs x4) &&& 31) = 5)) (h9 : ¬ (((xs x4) &&& 31) = 6)) (h10 : ((xs x4) &&& 31) = 7) (h11 : j1 < L) (h12 : ((i3 x4) + 1) = i3 j1) (h13 : j2 < L) (h14 : ((i3 x4) + 2) = i3 j2) (h15 : j3 < L) (h16 : ((i3 x4) + 3) = i3 j3) (h17 : ¬ ((xs j3) = 0)) (h18 : fL_order [.inr (9, 0), .inl (.int (xs j1)), .inl (.int (xs j2)), .inl (.int 1), .inr (80, 0)] M = am_rI v4 M5) (h19 : fX10_order [.inr (10, 0), .inl (.int (xs j1)), .inl (.int (xs j2)), .inl (.int 1)] M5 = am_rI v6 M7) (h20 : (M7 10 0 45) = v4) (h21 : v4 = 0) (h22 : (lg_cmp (am_jn (M7 80 0 (2 * (Int32.toNatClampNeg 0))) (M7 80 0 (2 * (Int32.toNatClampNeg 0) + 1))) (Int32.toInt64 v6)) = 0) (k : rL_law L xs n 23 [.inr (29, 0), .inr (9, 0), .inr (10, 0), .inr (80, 0), .inl (.int ((i3 x4) + 5)), .inl (.int v4), .inl (.int v6)] [] M7 = some res) : rL_law L xs (n + 600) 23 [.inr (29, 0), .inr (9, 0), .inr (10, 0), .inr (80, 0), .inl (.int (i3 x4)), x5, x6] [] M = some res := by
  refine eL_law_23 ?_
  try simp only [am_put_nk, am_put_nf, am_put_i, not_false_eq_true, Nat.reduceEqDiff]
  refine iq h1 ?_
  refine ip (i3_in' h2 hL) ?_
  try rw [ixm h2 hL]
  refine iq h3 ?_
  refine iq h4 ?_
  refine iq h5 ?_
  refine iq h6 ?_
  refine iq h7 ?_
  refine iq h8 ?_
  refine iq h9 ?_
  refine ip h10 ?_
  refine eL_law_610 ?_
  try simp only [am_put_nk, am_put_nf, am_put_i, not_false_eq_true, Nat.reduceEqDiff]
  refine ip (ixi h12 h11 hL) ?_
  try rw [ixn h12 h11 hL]
  refine ip (ixi h14 h13 hL) ?_
  try rw [ixn h14 h13 hL]
  refine ip (ixi h16 h15 hL) ?_
  try rw [ixn h16 h15 hL]
  refine iq h17 ?_
  refine ri h18 ?_
  refine eL_law_641 ?_
  try simp only [am_put_nk, am_put_nf, am_put_i, not_false_eq_true, Nat.reduceEqDiff]
  refine ip (ixi h12 h11 hL) ?_
  try rw [ixn h12 h11 hL]
  refine ip (ixi h14 h13 hL) ?_
  try rw [ixn h14 h13 hL]
  refine ip (ixi h16 h15 hL) ?_
  try rw [ixn h16 h15 hL]
  refine iq h17 ?_
  refine ri h19 ?_
  refine eL_law_673 ?_
  try simp only [am_put_nk, am_put_nf, am_put_i, not_false_eq_true, Nat.reduceEqDiff]
  refine ip h20 ?_
  refine ip h21 ?_
  refine eL_law_698 ?_
  try simp only [am_put_nk, am_put_nf, am_put_i, not_false_eq_true, Nat.reduceEqDiff]
  refine ip h22 ?_
  refine eL_law_1280 ?_
  try simp only [am_put_nk, am_put_nf, am_put_i, not_false_eq_true, Nat.reduceEqDiff]
  exact k
theorem qL_law_23_29 {L : Nat} {xs : Nat → Int32} (hL : L ≤ 2147483648) {x4 : Nat} {x5 : am_V} {x6 : am_V} {M : am_M} {n : Nat} {res : am_O × am_M} {j1 : Nat} {j2 : Nat} {j3 : Nat} {v4 : Int32} {M5 : am_M} {v6 : Int32} {M7 : am_M} (h1 : ¬ (((Int32.ofNat L) - 5) < (i3 x4))) (h2 : x4 < L) (h3 : ¬ (((xs x4) &&& 31) = 0)) (h4 : ¬ (((xs x4) &&& 31) = 1)) (h5 : ¬ (((xs x4) &&& 31) = 2)) (h6 : ¬ (((xs x4) &&& 31) = 3)) (h7 : ¬ (((xs x4) &&& 31) = 4)) (h8 : ¬ (((xs x4) &&& 31) = 5)) (h9 : ¬ (((xs x4) &&& 31) = 6)) (h10 : ((xs x4) &&& 31) = 7) (h11 : j1 < L) (h12 : ((i3 x4) + 1) = i3 j1) (h13 : j2 < L) (h14 : ((i3 x4) + 2) = i3 j2) (h15 : j3 < L) (h16 : ((i3 x4) + 3) = i3 j3) (h17 : ¬ ((xs j3) = 0)) (h18 : fL_order [.inr (9, 0), .inl (.int (xs j1)), .inl (.int (xs j2)), .inl (.int 1), .inr (80, 0)] M = am_rI v4 M5) (h19 : fX10_order [.inr (10, 0), .inl (.int (xs j1)), .inl (.int (xs j2)), .inl (.int 1)] M5 = am_rI v6 M7) (h20 : (M7 10 0 45) = v4) (h21 : ¬ (v4 = 0)) (k : rL_law L xs n 23 [.inr (29, 0), .inr (9, 0), .inr (10, 0), .inr (80, 0), .inl (.int ((i3 x4) + 5)), .inl (.int v4), .inl (.int v6)] [] M7 = some res) : rL_law L xs (n + 500) 23 [.inr (29, 0), .inr (9, 0), .inr (10, 0), .inr (80, 0), .inl (.int (i3 x4)), x5, x6] [] M = some res := by
  refine eL_law_23 ?_
  try simp only [am_put_nk, am_put_nf, am_put_i, not_false_eq_true, Nat.reduceEqDiff]
  refine iq h1 ?_
  refine ip (i3_in' h2 hL) ?_
  try rw [ixm h2 hL]
  refine iq h3 ?_
  refine iq h4 ?_
  refine iq h5 ?_
  refine iq h6 ?_
  refine iq h7 ?_
  refine iq h8 ?_
  refine iq h9 ?_
  refine ip h10 ?_
  refine eL_law_610 ?_
  try simp only [am_put_nk, am_put_nf, am_put_i, not_false_eq_true, Nat.reduceEqDiff]
  refine ip (ixi h12 h11 hL) ?_
  try rw [ixn h12 h11 hL]
  refine ip (ixi h14 h13 hL) ?_
  try rw [ixn h14 h13 hL]
  refine ip (ixi h16 h15 hL) ?_
  try rw [ixn h16 h15 hL]
  refine iq h17 ?_
  refine ri h18 ?_
  refine eL_law_641 ?_
  try simp only [am_put_nk, am_put_nf, am_put_i, not_false_eq_true, Nat.reduceEqDiff]
  refine ip (ixi h12 h11 hL) ?_
  try rw [ixn h12 h11 hL]
  refine ip (ixi h14 h13 hL) ?_
  try rw [ixn h14 h13 hL]
  refine ip (ixi h16 h15 hL) ?_
  try rw [ixn h16 h15 hL]
  refine iq h17 ?_
  refine ri h19 ?_
  refine eL_law_673 ?_
  try simp only [am_put_nk, am_put_nf, am_put_i, not_false_eq_true, Nat.reduceEqDiff]
  refine ip h20 ?_
  refine iq h21 ?_
  refine eL_law_1280 ?_
  try simp only [am_put_nk, am_put_nf, am_put_i, not_false_eq_true, Nat.reduceEqDiff]
  exact k
theorem qL_law_23_31 {L : Nat} {xs : Nat → Int32} (hL : L ≤ 2147483648) {x4 : Nat} {x5 : am_V} {x6 : am_V} {M : am_M} {n : Nat} {res : am_O × am_M} {j1 : Nat} {v2 : Int32} {M3 : am_M} {M4 : am_M} (h1 : ¬ (((Int32.ofNat L) - 5) < (i3 x4))) (h2 : x4 < L) (h3 : ¬ (((xs x4) &&& 31) = 0)) (h4 : ¬ (((xs x4) &&& 31) = 1)) (h5 : ¬ (((xs x4) &&& 31) = 2)) (h6 : ¬ (((xs x4) &&& 31) = 3)) (h7 : ¬ (((xs x4) &&& 31) = 4)) (h8 : ¬ (((xs x4) &&& 31) = 5)) (h9 : ¬ (((xs x4) &&& 31) = 6)) (h10 : ¬ (((xs x4) &&& 31) = 7)) (h11 : ((xs x4) &&& 31) = 8) (h12 : j1 < L) (h13 : ((i3 x4) + 1) = i3 j1) (h14 : fL_clock [.inr (9, 0), .inl (.int (xs j1))] M = am_rI v2 M3) (h15 : fX10_clock [.inr (10, 0), .inl (.int (xs j1))] M3 = am_rV M4) (h16 : (M4 10 0 45) = v2) (k : rL_law L xs n 23 [.inr (29, 0), .inr (9, 0), .inr (10, 0), .inr (80, 0), .inl (.int ((i3 x4) + 5)), .inl (.int v2), x6] [] M4 = some res) : rL_law L xs (n + 500) 23 [.inr (29, 0), .inr (9, 0), .inr (10, 0), .inr (80, 0), .inl (.int (i3 x4)), x5, x6] [] M = some res := by
  refine eL_law_23 ?_
  try simp only [am_put_nk, am_put_nf, am_put_i, not_false_eq_true, Nat.reduceEqDiff]
  refine iq h1 ?_
  refine ip (i3_in' h2 hL) ?_
  try rw [ixm h2 hL]
  refine iq h3 ?_
  refine iq h4 ?_
  refine iq h5 ?_
  refine iq h6 ?_
  refine iq h7 ?_
  refine iq h8 ?_
  refine iq h9 ?_
  refine iq h10 ?_
  refine ip h11 ?_
  refine eL_law_706 ?_
  try simp only [am_put_nk, am_put_nf, am_put_i, not_false_eq_true, Nat.reduceEqDiff]
  refine ip (ixi h13 h12 hL) ?_
  try rw [ixn h13 h12 hL]
  refine ri h14 ?_
  refine eL_law_716 ?_
  try simp only [am_put_nk, am_put_nf, am_put_i, not_false_eq_true, Nat.reduceEqDiff]
  refine ip (ixi h13 h12 hL) ?_
  try rw [ixn h13 h12 hL]
  refine rv h15 ?_
  refine eL_law_728 ?_
  try simp only [am_put_nk, am_put_nf, am_put_i, not_false_eq_true, Nat.reduceEqDiff]
  refine ip h16 ?_
  refine eL_law_1280 ?_
  try simp only [am_put_nk, am_put_nf, am_put_i, not_false_eq_true, Nat.reduceEqDiff]
  exact k
theorem qL_law_23_33 {L : Nat} {xs : Nat → Int32} (hL : L ≤ 2147483648) {x4 : Nat} {x5 : am_V} {x6 : am_V} {M : am_M} {n : Nat} {res : am_O × am_M} {j1 : Nat} {v2 : Int32} {M3 : am_M} {M4 : am_M} (h1 : ¬ (((Int32.ofNat L) - 5) < (i3 x4))) (h2 : x4 < L) (h3 : ¬ (((xs x4) &&& 31) = 0)) (h4 : ¬ (((xs x4) &&& 31) = 1)) (h5 : ¬ (((xs x4) &&& 31) = 2)) (h6 : ¬ (((xs x4) &&& 31) = 3)) (h7 : ¬ (((xs x4) &&& 31) = 4)) (h8 : ¬ (((xs x4) &&& 31) = 5)) (h9 : ¬ (((xs x4) &&& 31) = 6)) (h10 : ¬ (((xs x4) &&& 31) = 7)) (h11 : ¬ (((xs x4) &&& 31) = 8)) (h12 : ((xs x4) &&& 31) = 9) (h13 : j1 < L) (h14 : ((i3 x4) + 1) = i3 j1) (h15 : fL_light [.inr (9, 0), .inl (.int (xs j1))] M = am_rI v2 M3) (h16 : fX10_light [.inr (10, 0), .inl (.int (xs j1))] M3 = am_rV M4) (h17 : (M4 10 0 45) = v2) (k : rL_law L xs n 23 [.inr (29, 0), .inr (9, 0), .inr (10, 0), .inr (80, 0), .inl (.int ((i3 x4) + 5)), .inl (.int v2), x6] [] M4 = some res) : rL_law L xs (n + 500) 23 [.inr (29, 0), .inr (9, 0), .inr (10, 0), .inr (80, 0), .inl (.int (i3 x4)), x5, x6] [] M = some res := by
  refine eL_law_23 ?_
  try simp only [am_put_nk, am_put_nf, am_put_i, not_false_eq_true, Nat.reduceEqDiff]
  refine iq h1 ?_
  refine ip (i3_in' h2 hL) ?_
  try rw [ixm h2 hL]
  refine iq h3 ?_
  refine iq h4 ?_
  refine iq h5 ?_
  refine iq h6 ?_
  refine iq h7 ?_
  refine iq h8 ?_
  refine iq h9 ?_
  refine iq h10 ?_
  refine iq h11 ?_
  refine ip h12 ?_
  refine eL_law_742 ?_
  try simp only [am_put_nk, am_put_nf, am_put_i, not_false_eq_true, Nat.reduceEqDiff]
  refine ip (ixi h14 h13 hL) ?_
  try rw [ixn h14 h13 hL]
  refine ri h15 ?_
  refine eL_law_752 ?_
  try simp only [am_put_nk, am_put_nf, am_put_i, not_false_eq_true, Nat.reduceEqDiff]
  refine ip (ixi h14 h13 hL) ?_
  try rw [ixn h14 h13 hL]
  refine rv h16 ?_
  refine eL_law_764 ?_
  try simp only [am_put_nk, am_put_nf, am_put_i, not_false_eq_true, Nat.reduceEqDiff]
  refine ip h17 ?_
  refine eL_law_1280 ?_
  try simp only [am_put_nk, am_put_nf, am_put_i, not_false_eq_true, Nat.reduceEqDiff]
  exact k
theorem qL_law_23_35 {L : Nat} {xs : Nat → Int32} (hL : L ≤ 2147483648) {x4 : Nat} {x5 : am_V} {x6 : am_V} {M : am_M} {n : Nat} {res : am_O × am_M} {j1 : Nat} {v2 : Int32} {M3 : am_M} {M4 : am_M} (h1 : ¬ (((Int32.ofNat L) - 5) < (i3 x4))) (h2 : x4 < L) (h3 : ¬ (((xs x4) &&& 31) = 0)) (h4 : ¬ (((xs x4) &&& 31) = 1)) (h5 : ¬ (((xs x4) &&& 31) = 2)) (h6 : ¬ (((xs x4) &&& 31) = 3)) (h7 : ¬ (((xs x4) &&& 31) = 4)) (h8 : ¬ (((xs x4) &&& 31) = 5)) (h9 : ¬ (((xs x4) &&& 31) = 6)) (h10 : ¬ (((xs x4) &&& 31) = 7)) (h11 : ¬ (((xs x4) &&& 31) = 8)) (h12 : ¬ (((xs x4) &&& 31) = 9)) (h13 : ((xs x4) &&& 31) = 10) (h14 : j1 < L) (h15 : ((i3 x4) + 1) = i3 j1) (h16 : fL_spoil [.inr (9, 0), .inl (.int (xs j1))] M = am_rI v2 M3) (h17 : fX10_spoil [.inr (10, 0), .inl (.int (xs j1))] M3 = am_rV M4) (h18 : (M4 10 0 45) = v2) (k : rL_law L xs n 23 [.inr (29, 0), .inr (9, 0), .inr (10, 0), .inr (80, 0), .inl (.int ((i3 x4) + 5)), .inl (.int v2), x6] [] M4 = some res) : rL_law L xs (n + 500) 23 [.inr (29, 0), .inr (9, 0), .inr (10, 0), .inr (80, 0), .inl (.int (i3 x4)), x5, x6] [] M = some res := by
  refine eL_law_23 ?_
  try simp only [am_put_nk, am_put_nf, am_put_i, not_false_eq_true, Nat.reduceEqDiff]
  refine iq h1 ?_
  refine ip (i3_in' h2 hL) ?_
  try rw [ixm h2 hL]
  refine iq h3 ?_
  refine iq h4 ?_
  refine iq h5 ?_
  refine iq h6 ?_
  refine iq h7 ?_
  refine iq h8 ?_
  refine iq h9 ?_
  refine iq h10 ?_
  refine iq h11 ?_
  refine iq h12 ?_
  refine ip h13 ?_
  refine eL_law_778 ?_
  try simp only [am_put_nk, am_put_nf, am_put_i, not_false_eq_true, Nat.reduceEqDiff]
  refine ip (ixi h15 h14 hL) ?_
  try rw [ixn h15 h14 hL]
  refine ri h16 ?_
  refine eL_law_788 ?_
  try simp only [am_put_nk, am_put_nf, am_put_i, not_false_eq_true, Nat.reduceEqDiff]
  refine ip (ixi h15 h14 hL) ?_
  try rw [ixn h15 h14 hL]
  refine rv h17 ?_
  refine eL_law_800 ?_
  try simp only [am_put_nk, am_put_nf, am_put_i, not_false_eq_true, Nat.reduceEqDiff]
  refine ip h18 ?_
  refine eL_law_1280 ?_
  try simp only [am_put_nk, am_put_nf, am_put_i, not_false_eq_true, Nat.reduceEqDiff]
  exact k
theorem qL_law_23_37 {L : Nat} {xs : Nat → Int32} (hL : L ≤ 2147483648) {x4 : Nat} {x5 : am_V} {x6 : am_V} {M : am_M} {n : Nat} {res : am_O × am_M} {v1 : Int32} {M2 : am_M} {v3 : Int32} {M4 : am_M} (h1 : ¬ (((Int32.ofNat L) - 5) < (i3 x4))) (h2 : x4 < L) (h3 : ¬ (((xs x4) &&& 31) = 0)) (h4 : ¬ (((xs x4) &&& 31) = 1)) (h5 : ¬ (((xs x4) &&& 31) = 2)) (h6 : ¬ (((xs x4) &&& 31) = 3)) (h7 : ¬ (((xs x4) &&& 31) = 4)) (h8 : ¬ (((xs x4) &&& 31) = 5)) (h9 : ¬ (((xs x4) &&& 31) = 6)) (h10 : ¬ (((xs x4) &&& 31) = 7)) (h11 : ¬ (((xs x4) &&& 31) = 8)) (h12 : ¬ (((xs x4) &&& 31) = 9)) (h13 : ¬ (((xs x4) &&& 31) = 10)) (h14 : ((xs x4) &&& 31) = 11) (h15 : fX9_step [.inr (9, 0)] M = am_rI v1 M2) (h16 : fX10_step [.inr (10, 0)] M2 = am_rI v3 M4) (h17 : v1 = v3) (k : rL_law L xs n 23 [.inr (29, 0), .inr (9, 0), .inr (10, 0), .inr (80, 0), .inl (.int ((i3 x4) + 5)), x5, x6] [] M4 = some res) : rL_law L xs (n + 500) 23 [.inr (29, 0), .inr (9, 0), .inr (10, 0), .inr (80, 0), .inl (.int (i3 x4)), x5, x6] [] M = some res := by
  refine eL_law_23 ?_
  try simp only [am_put_nk, am_put_nf, am_put_i, not_false_eq_true, Nat.reduceEqDiff]
  refine iq h1 ?_
  refine ip (i3_in' h2 hL) ?_
  try rw [ixm h2 hL]
  refine iq h3 ?_
  refine iq h4 ?_
  refine iq h5 ?_
  refine iq h6 ?_
  refine iq h7 ?_
  refine iq h8 ?_
  refine iq h9 ?_
  refine iq h10 ?_
  refine iq h11 ?_
  refine iq h12 ?_
  refine iq h13 ?_
  refine ip h14 ?_
  refine eL_law_814 ?_
  try simp only [am_put_nk, am_put_nf, am_put_i, not_false_eq_true, Nat.reduceEqDiff]
  refine ri h15 ?_
  refine eL_law_818 ?_
  try simp only [am_put_nk, am_put_nf, am_put_i, not_false_eq_true, Nat.reduceEqDiff]
  refine ri h16 ?_
  refine eL_law_822 ?_
  try simp only [am_put_nk, am_put_nf, am_put_i, not_false_eq_true, Nat.reduceEqDiff]
  refine ip h17 ?_
  refine eL_law_1280 ?_
  try simp only [am_put_nk, am_put_nf, am_put_i, not_false_eq_true, Nat.reduceEqDiff]
  exact k
theorem qL_law_23_39 {L : Nat} {xs : Nat → Int32} (hL : L ≤ 2147483648) {x4 : Nat} {x5 : am_V} {x6 : am_V} {M : am_M} {n : Nat} {res : am_O × am_M} (h1 : ¬ (((Int32.ofNat L) - 5) < (i3 x4))) (h2 : x4 < L) (h3 : ¬ (((xs x4) &&& 31) = 0)) (h4 : ¬ (((xs x4) &&& 31) = 1)) (h5 : ¬ (((xs x4) &&& 31) = 2)) (h6 : ¬ (((xs x4) &&& 31) = 3)) (h7 : ¬ (((xs x4) &&& 31) = 4)) (h8 : ¬ (((xs x4) &&& 31) = 5)) (h9 : ¬ (((xs x4) &&& 31) = 6)) (h10 : ¬ (((xs x4) &&& 31) = 7)) (h11 : ¬ (((xs x4) &&& 31) = 8)) (h12 : ¬ (((xs x4) &&& 31) = 9)) (h13 : ¬ (((xs x4) &&& 31) = 10)) (h14 : ¬ (((xs x4) &&& 31) = 11)) (h15 : ((xs x4) &&& 31) = 12) (h16 : (M 9 0 12) = (M 10 0 43)) (k : rL_law L xs n 23 [.inr (29, 0), .inr (9, 0), .inr (10, 0), .inr (80, 0), .inl (.int ((i3 x4) + 5)), x5, x6] [] (am_put M 10 0 45 0) = some res) : rL_law L xs (n + 300) 23 [.inr (29, 0), .inr (9, 0), .inr (10, 0), .inr (80, 0), .inl (.int (i3 x4)), x5, x6] [] M = some res := by
  refine eL_law_23 ?_
  try simp only [am_put_nk, am_put_nf, am_put_i, not_false_eq_true, Nat.reduceEqDiff]
  refine iq h1 ?_
  refine ip (i3_in' h2 hL) ?_
  try rw [ixm h2 hL]
  refine iq h3 ?_
  refine iq h4 ?_
  refine iq h5 ?_
  refine iq h6 ?_
  refine iq h7 ?_
  refine iq h8 ?_
  refine iq h9 ?_
  refine iq h10 ?_
  refine iq h11 ?_
  refine iq h12 ?_
  refine iq h13 ?_
  refine iq h14 ?_
  refine ip h15 ?_
  refine eL_law_827 ?_
  try simp only [am_put_nk, am_put_nf, am_put_i, not_false_eq_true, Nat.reduceEqDiff]
  refine ip h16 ?_
  refine eL_law_1280 ?_
  try simp only [am_put_nk, am_put_nf, am_put_i, not_false_eq_true, Nat.reduceEqDiff]
  exact k
theorem qL_law_23_41 {L : Nat} {xs : Nat → Int32} (hL : L ≤ 2147483648) {x4 : Nat} {x5 : am_V} {x6 : am_V} {M : am_M} {n : Nat} {res : am_O × am_M} {j1 : Nat} {j2 : Nat} {v3 : Int32} {M4 : am_M} {v5 : Int32} {M6 : am_M} (h1 : ¬ (((Int32.ofNat L) - 5) < (i3 x4))) (h2 : x4 < L) (h3 : ¬ (((xs x4) &&& 31) = 0)) (h4 : ¬ (((xs x4) &&& 31) = 1)) (h5 : ¬ (((xs x4) &&& 31) = 2)) (h6 : ¬ (((xs x4) &&& 31) = 3)) (h7 : ¬ (((xs x4) &&& 31) = 4)) (h8 : ¬ (((xs x4) &&& 31) = 5)) (h9 : ¬ (((xs x4) &&& 31) = 6)) (h10 : ¬ (((xs x4) &&& 31) = 7)) (h11 : ¬ (((xs x4) &&& 31) = 8)) (h12 : ¬ (((xs x4) &&& 31) = 9)) (h13 : ¬ (((xs x4) &&& 31) = 10)) (h14 : ¬ (((xs x4) &&& 31) = 11)) (h15 : ¬ (((xs x4) &&& 31) = 12)) (h16 : ((xs x4) &&& 31) = 13) (h17 : j1 < L) (h18 : ((i3 x4) + 1) = i3 j1) (h19 : j2 < L) (h20 : ((i3 x4) + 2) = i3 j2) (h21 : fL_state [.inr (9, 0), .inl (.int (xs j1)), .inl (.int (xs j2)), .inr (80, 0)] M = am_rI v3 M4) (h22 : fX10_state [.inr (10, 0), .inl (.int (xs j1)), .inl (.int (xs j2))] M4 = am_rI v5 M6) (h23 : (M6 10 0 45) = v3) (h24 : v3 = 0) (h25 : (lg_cmp (am_jn (M6 80 0 (2 * (Int32.toNatClampNeg 0))) (M6 80 0 (2 * (Int32.toNatClampNeg 0) + 1))) (Int32.toInt64 v5)) = 0) (k : rL_law L xs n 23 [.inr (29, 0), .inr (9, 0), .inr (10, 0), .inr (80, 0), .inl (.int ((i3 x4) + 5)), .inl (.int v3), .inl (.int v5)] [] M6 = some res) : rL_law L xs (n + 600) 23 [.inr (29, 0), .inr (9, 0), .inr (10, 0), .inr (80, 0), .inl (.int (i3 x4)), x5, x6] [] M = some res := by
  refine eL_law_23 ?_
  try simp only [am_put_nk, am_put_nf, am_put_i, not_false_eq_true, Nat.reduceEqDiff]
  refine iq h1 ?_
  refine ip (i3_in' h2 hL) ?_
  try rw [ixm h2 hL]
  refine iq h3 ?_
  refine iq h4 ?_
  refine iq h5 ?_
  refine iq h6 ?_
  refine iq h7 ?_
  refine iq h8 ?_
  refine iq h9 ?_
  refine iq h10 ?_
  refine iq h11 ?_
  refine iq h12 ?_
  refine iq h13 ?_
  refine iq h14 ?_
  refine iq h15 ?_
  refine ip h16 ?_
  refine eL_law_840 ?_
  try simp only [am_put_nk, am_put_nf, am_put_i, not_false_eq_true, Nat.reduceEqDiff]
  refine ip (ixi h18 h17 hL) ?_
  try rw [ixn h18 h17 hL]
  refine ip (ixi h20 h19 hL) ?_
  try rw [ixn h20 h19 hL]
  refine ri h21 ?_
  refine eL_law_857 ?_
  try simp only [am_put_nk, am_put_nf, am_put_i, not_false_eq_true, Nat.reduceEqDiff]
  refine ip (ixi h18 h17 hL) ?_
  try rw [ixn h18 h17 hL]
  refine ip (ixi h20 h19 hL) ?_
  try rw [ixn h20 h19 hL]
  refine ri h22 ?_
  refine eL_law_875 ?_
  try simp only [am_put_nk, am_put_nf, am_put_i, not_false_eq_true, Nat.reduceEqDiff]
  refine ip h23 ?_
  refine ip h24 ?_
  refine eL_law_900 ?_
  try simp only [am_put_nk, am_put_nf, am_put_i, not_false_eq_true, Nat.reduceEqDiff]
  refine ip h25 ?_
  refine eL_law_1280 ?_
  try simp only [am_put_nk, am_put_nf, am_put_i, not_false_eq_true, Nat.reduceEqDiff]
  exact k
theorem qL_law_23_43 {L : Nat} {xs : Nat → Int32} (hL : L ≤ 2147483648) {x4 : Nat} {x5 : am_V} {x6 : am_V} {M : am_M} {n : Nat} {res : am_O × am_M} {j1 : Nat} {j2 : Nat} {v3 : Int32} {M4 : am_M} {v5 : Int32} {M6 : am_M} (h1 : ¬ (((Int32.ofNat L) - 5) < (i3 x4))) (h2 : x4 < L) (h3 : ¬ (((xs x4) &&& 31) = 0)) (h4 : ¬ (((xs x4) &&& 31) = 1)) (h5 : ¬ (((xs x4) &&& 31) = 2)) (h6 : ¬ (((xs x4) &&& 31) = 3)) (h7 : ¬ (((xs x4) &&& 31) = 4)) (h8 : ¬ (((xs x4) &&& 31) = 5)) (h9 : ¬ (((xs x4) &&& 31) = 6)) (h10 : ¬ (((xs x4) &&& 31) = 7)) (h11 : ¬ (((xs x4) &&& 31) = 8)) (h12 : ¬ (((xs x4) &&& 31) = 9)) (h13 : ¬ (((xs x4) &&& 31) = 10)) (h14 : ¬ (((xs x4) &&& 31) = 11)) (h15 : ¬ (((xs x4) &&& 31) = 12)) (h16 : ((xs x4) &&& 31) = 13) (h17 : j1 < L) (h18 : ((i3 x4) + 1) = i3 j1) (h19 : j2 < L) (h20 : ((i3 x4) + 2) = i3 j2) (h21 : fL_state [.inr (9, 0), .inl (.int (xs j1)), .inl (.int (xs j2)), .inr (80, 0)] M = am_rI v3 M4) (h22 : fX10_state [.inr (10, 0), .inl (.int (xs j1)), .inl (.int (xs j2))] M4 = am_rI v5 M6) (h23 : (M6 10 0 45) = v3) (h24 : ¬ (v3 = 0)) (k : rL_law L xs n 23 [.inr (29, 0), .inr (9, 0), .inr (10, 0), .inr (80, 0), .inl (.int ((i3 x4) + 5)), .inl (.int v3), .inl (.int v5)] [] M6 = some res) : rL_law L xs (n + 500) 23 [.inr (29, 0), .inr (9, 0), .inr (10, 0), .inr (80, 0), .inl (.int (i3 x4)), x5, x6] [] M = some res := by
  refine eL_law_23 ?_
  try simp only [am_put_nk, am_put_nf, am_put_i, not_false_eq_true, Nat.reduceEqDiff]
  refine iq h1 ?_
  refine ip (i3_in' h2 hL) ?_
  try rw [ixm h2 hL]
  refine iq h3 ?_
  refine iq h4 ?_
  refine iq h5 ?_
  refine iq h6 ?_
  refine iq h7 ?_
  refine iq h8 ?_
  refine iq h9 ?_
  refine iq h10 ?_
  refine iq h11 ?_
  refine iq h12 ?_
  refine iq h13 ?_
  refine iq h14 ?_
  refine iq h15 ?_
  refine ip h16 ?_
  refine eL_law_840 ?_
  try simp only [am_put_nk, am_put_nf, am_put_i, not_false_eq_true, Nat.reduceEqDiff]
  refine ip (ixi h18 h17 hL) ?_
  try rw [ixn h18 h17 hL]
  refine ip (ixi h20 h19 hL) ?_
  try rw [ixn h20 h19 hL]
  refine ri h21 ?_
  refine eL_law_857 ?_
  try simp only [am_put_nk, am_put_nf, am_put_i, not_false_eq_true, Nat.reduceEqDiff]
  refine ip (ixi h18 h17 hL) ?_
  try rw [ixn h18 h17 hL]
  refine ip (ixi h20 h19 hL) ?_
  try rw [ixn h20 h19 hL]
  refine ri h22 ?_
  refine eL_law_875 ?_
  try simp only [am_put_nk, am_put_nf, am_put_i, not_false_eq_true, Nat.reduceEqDiff]
  refine ip h23 ?_
  refine iq h24 ?_
  refine eL_law_1280 ?_
  try simp only [am_put_nk, am_put_nf, am_put_i, not_false_eq_true, Nat.reduceEqDiff]
  exact k
theorem qL_law_23_45 {L : Nat} {xs : Nat → Int32} (hL : L ≤ 2147483648) {x4 : Nat} {x5 : am_V} {x6 : am_V} {M : am_M} {n : Nat} {res : am_O × am_M} {j1 : Nat} {j2 : Nat} {v3 : Int32} {M4 : am_M} {v5 : Int32} {M6 : am_M} (h1 : ¬ (((Int32.ofNat L) - 5) < (i3 x4))) (h2 : x4 < L) (h3 : ¬ (((xs x4) &&& 31) = 0)) (h4 : ¬ (((xs x4) &&& 31) = 1)) (h5 : ¬ (((xs x4) &&& 31) = 2)) (h6 : ¬ (((xs x4) &&& 31) = 3)) (h7 : ¬ (((xs x4) &&& 31) = 4)) (h8 : ¬ (((xs x4) &&& 31) = 5)) (h9 : ¬ (((xs x4) &&& 31) = 6)) (h10 : ¬ (((xs x4) &&& 31) = 7)) (h11 : ¬ (((xs x4) &&& 31) = 8)) (h12 : ¬ (((xs x4) &&& 31) = 9)) (h13 : ¬ (((xs x4) &&& 31) = 10)) (h14 : ¬ (((xs x4) &&& 31) = 11)) (h15 : ¬ (((xs x4) &&& 31) = 12)) (h16 : ¬ (((xs x4) &&& 31) = 13)) (h17 : ((xs x4) &&& 31) = 14) (h18 : j1 < L) (h19 : ((i3 x4) + 1) = i3 j1) (h20 : j2 < L) (h21 : ((i3 x4) + 2) = i3 j2) (h22 : fL_cuvette [.inr (9, 0), .inl (.int (xs j1)), .inl (.int (xs j2)), .inr (80, 0)] M = am_rI v3 M4) (h23 : fX10_cuvette [.inr (10, 0), .inl (.int (xs j1)), .inl (.int (xs j2))] M4 = am_rI v5 M6) (h24 : (M6 10 0 45) = v3) (h25 : v3 = 0) (h26 : (lg_cmp (am_jn (M6 80 0 (2 * (Int32.toNatClampNeg 0))) (M6 80 0 (2 * (Int32.toNatClampNeg 0) + 1))) (Int32.toInt64 v5)) = 0) (k : rL_law L xs n 23 [.inr (29, 0), .inr (9, 0), .inr (10, 0), .inr (80, 0), .inl (.int ((i3 x4) + 5)), .inl (.int v3), .inl (.int v5)] [] M6 = some res) : rL_law L xs (n + 600) 23 [.inr (29, 0), .inr (9, 0), .inr (10, 0), .inr (80, 0), .inl (.int (i3 x4)), x5, x6] [] M = some res := by
  refine eL_law_23 ?_
  try simp only [am_put_nk, am_put_nf, am_put_i, not_false_eq_true, Nat.reduceEqDiff]
  refine iq h1 ?_
  refine ip (i3_in' h2 hL) ?_
  try rw [ixm h2 hL]
  refine iq h3 ?_
  refine iq h4 ?_
  refine iq h5 ?_
  refine iq h6 ?_
  refine iq h7 ?_
  refine iq h8 ?_
  refine iq h9 ?_
  refine iq h10 ?_
  refine iq h11 ?_
  refine iq h12 ?_
  refine iq h13 ?_
  refine iq h14 ?_
  refine iq h15 ?_
  refine iq h16 ?_
  refine ip h17 ?_
  refine eL_law_908 ?_
  try simp only [am_put_nk, am_put_nf, am_put_i, not_false_eq_true, Nat.reduceEqDiff]
  refine ip (ixi h19 h18 hL) ?_
  try rw [ixn h19 h18 hL]
  refine ip (ixi h21 h20 hL) ?_
  try rw [ixn h21 h20 hL]
  refine ri h22 ?_
  refine eL_law_925 ?_
  try simp only [am_put_nk, am_put_nf, am_put_i, not_false_eq_true, Nat.reduceEqDiff]
  refine ip (ixi h19 h18 hL) ?_
  try rw [ixn h19 h18 hL]
  refine ip (ixi h21 h20 hL) ?_
  try rw [ixn h21 h20 hL]
  refine ri h23 ?_
  refine eL_law_943 ?_
  try simp only [am_put_nk, am_put_nf, am_put_i, not_false_eq_true, Nat.reduceEqDiff]
  refine ip h24 ?_
  refine ip h25 ?_
  refine eL_law_968 ?_
  try simp only [am_put_nk, am_put_nf, am_put_i, not_false_eq_true, Nat.reduceEqDiff]
  refine ip h26 ?_
  refine eL_law_1280 ?_
  try simp only [am_put_nk, am_put_nf, am_put_i, not_false_eq_true, Nat.reduceEqDiff]
  exact k
theorem qL_law_23_47 {L : Nat} {xs : Nat → Int32} (hL : L ≤ 2147483648) {x4 : Nat} {x5 : am_V} {x6 : am_V} {M : am_M} {n : Nat} {res : am_O × am_M} {j1 : Nat} {j2 : Nat} {v3 : Int32} {M4 : am_M} {v5 : Int32} {M6 : am_M} (h1 : ¬ (((Int32.ofNat L) - 5) < (i3 x4))) (h2 : x4 < L) (h3 : ¬ (((xs x4) &&& 31) = 0)) (h4 : ¬ (((xs x4) &&& 31) = 1)) (h5 : ¬ (((xs x4) &&& 31) = 2)) (h6 : ¬ (((xs x4) &&& 31) = 3)) (h7 : ¬ (((xs x4) &&& 31) = 4)) (h8 : ¬ (((xs x4) &&& 31) = 5)) (h9 : ¬ (((xs x4) &&& 31) = 6)) (h10 : ¬ (((xs x4) &&& 31) = 7)) (h11 : ¬ (((xs x4) &&& 31) = 8)) (h12 : ¬ (((xs x4) &&& 31) = 9)) (h13 : ¬ (((xs x4) &&& 31) = 10)) (h14 : ¬ (((xs x4) &&& 31) = 11)) (h15 : ¬ (((xs x4) &&& 31) = 12)) (h16 : ¬ (((xs x4) &&& 31) = 13)) (h17 : ((xs x4) &&& 31) = 14) (h18 : j1 < L) (h19 : ((i3 x4) + 1) = i3 j1) (h20 : j2 < L) (h21 : ((i3 x4) + 2) = i3 j2) (h22 : fL_cuvette [.inr (9, 0), .inl (.int (xs j1)), .inl (.int (xs j2)), .inr (80, 0)] M = am_rI v3 M4) (h23 : fX10_cuvette [.inr (10, 0), .inl (.int (xs j1)), .inl (.int (xs j2))] M4 = am_rI v5 M6) (h24 : (M6 10 0 45) = v3) (h25 : ¬ (v3 = 0)) (k : rL_law L xs n 23 [.inr (29, 0), .inr (9, 0), .inr (10, 0), .inr (80, 0), .inl (.int ((i3 x4) + 5)), .inl (.int v3), .inl (.int v5)] [] M6 = some res) : rL_law L xs (n + 500) 23 [.inr (29, 0), .inr (9, 0), .inr (10, 0), .inr (80, 0), .inl (.int (i3 x4)), x5, x6] [] M = some res := by
  refine eL_law_23 ?_
  try simp only [am_put_nk, am_put_nf, am_put_i, not_false_eq_true, Nat.reduceEqDiff]
  refine iq h1 ?_
  refine ip (i3_in' h2 hL) ?_
  try rw [ixm h2 hL]
  refine iq h3 ?_
  refine iq h4 ?_
  refine iq h5 ?_
  refine iq h6 ?_
  refine iq h7 ?_
  refine iq h8 ?_
  refine iq h9 ?_
  refine iq h10 ?_
  refine iq h11 ?_
  refine iq h12 ?_
  refine iq h13 ?_
  refine iq h14 ?_
  refine iq h15 ?_
  refine iq h16 ?_
  refine ip h17 ?_
  refine eL_law_908 ?_
  try simp only [am_put_nk, am_put_nf, am_put_i, not_false_eq_true, Nat.reduceEqDiff]
  refine ip (ixi h19 h18 hL) ?_
  try rw [ixn h19 h18 hL]
  refine ip (ixi h21 h20 hL) ?_
  try rw [ixn h21 h20 hL]
  refine ri h22 ?_
  refine eL_law_925 ?_
  try simp only [am_put_nk, am_put_nf, am_put_i, not_false_eq_true, Nat.reduceEqDiff]
  refine ip (ixi h19 h18 hL) ?_
  try rw [ixn h19 h18 hL]
  refine ip (ixi h21 h20 hL) ?_
  try rw [ixn h21 h20 hL]
  refine ri h23 ?_
  refine eL_law_943 ?_
  try simp only [am_put_nk, am_put_nf, am_put_i, not_false_eq_true, Nat.reduceEqDiff]
  refine ip h24 ?_
  refine iq h25 ?_
  refine eL_law_1280 ?_
  try simp only [am_put_nk, am_put_nf, am_put_i, not_false_eq_true, Nat.reduceEqDiff]
  exact k
theorem qL_law_23_49 {L : Nat} {xs : Nat → Int32} (hL : L ≤ 2147483648) {x4 : Nat} {x5 : am_V} {x6 : am_V} {M : am_M} {n : Nat} {res : am_O × am_M} {j1 : Nat} {j2 : Nat} {v3 : Int32} {M4 : am_M} {v5 : Int32} {M6 : am_M} (h1 : ¬ (((Int32.ofNat L) - 5) < (i3 x4))) (h2 : x4 < L) (h3 : ¬ (((xs x4) &&& 31) = 0)) (h4 : ¬ (((xs x4) &&& 31) = 1)) (h5 : ¬ (((xs x4) &&& 31) = 2)) (h6 : ¬ (((xs x4) &&& 31) = 3)) (h7 : ¬ (((xs x4) &&& 31) = 4)) (h8 : ¬ (((xs x4) &&& 31) = 5)) (h9 : ¬ (((xs x4) &&& 31) = 6)) (h10 : ¬ (((xs x4) &&& 31) = 7)) (h11 : ¬ (((xs x4) &&& 31) = 8)) (h12 : ¬ (((xs x4) &&& 31) = 9)) (h13 : ¬ (((xs x4) &&& 31) = 10)) (h14 : ¬ (((xs x4) &&& 31) = 11)) (h15 : ¬ (((xs x4) &&& 31) = 12)) (h16 : ¬ (((xs x4) &&& 31) = 13)) (h17 : ¬ (((xs x4) &&& 31) = 14)) (h18 : ((xs x4) &&& 31) = 15) (h19 : j1 < L) (h20 : ((i3 x4) + 1) = i3 j1) (h21 : j2 < L) (h22 : ((i3 x4) + 2) = i3 j2) (h23 : fL_volume [.inr (9, 0), .inl (.int (xs j1)), .inl (.int (xs j2)), .inr (80, 0)] M = am_rI v3 M4) (h24 : fX10_volume [.inr (10, 0), .inl (.int (xs j1)), .inl (.int (xs j2))] M4 = am_rI v5 M6) (h25 : (M6 10 0 45) = v3) (h26 : v3 = 0) (h27 : (lg_cmp (am_jn (M6 80 0 (2 * (Int32.toNatClampNeg 0))) (M6 80 0 (2 * (Int32.toNatClampNeg 0) + 1))) (Int32.toInt64 v5)) = 0) (k : rL_law L xs n 23 [.inr (29, 0), .inr (9, 0), .inr (10, 0), .inr (80, 0), .inl (.int ((i3 x4) + 5)), .inl (.int v3), .inl (.int v5)] [] M6 = some res) : rL_law L xs (n + 600) 23 [.inr (29, 0), .inr (9, 0), .inr (10, 0), .inr (80, 0), .inl (.int (i3 x4)), x5, x6] [] M = some res := by
  refine eL_law_23 ?_
  try simp only [am_put_nk, am_put_nf, am_put_i, not_false_eq_true, Nat.reduceEqDiff]
  refine iq h1 ?_
  refine ip (i3_in' h2 hL) ?_
  try rw [ixm h2 hL]
  refine iq h3 ?_
  refine iq h4 ?_
  refine iq h5 ?_
  refine iq h6 ?_
  refine iq h7 ?_
  refine iq h8 ?_
  refine iq h9 ?_
  refine iq h10 ?_
  refine iq h11 ?_
  refine iq h12 ?_
  refine iq h13 ?_
  refine iq h14 ?_
  refine iq h15 ?_
  refine iq h16 ?_
  refine iq h17 ?_
  refine ip h18 ?_
  refine eL_law_976 ?_
  try simp only [am_put_nk, am_put_nf, am_put_i, not_false_eq_true, Nat.reduceEqDiff]
  refine ip (ixi h20 h19 hL) ?_
  try rw [ixn h20 h19 hL]
  refine ip (ixi h22 h21 hL) ?_
  try rw [ixn h22 h21 hL]
  refine ri h23 ?_
  refine eL_law_993 ?_
  try simp only [am_put_nk, am_put_nf, am_put_i, not_false_eq_true, Nat.reduceEqDiff]
  refine ip (ixi h20 h19 hL) ?_
  try rw [ixn h20 h19 hL]
  refine ip (ixi h22 h21 hL) ?_
  try rw [ixn h22 h21 hL]
  refine ri h24 ?_
  refine eL_law_1011 ?_
  try simp only [am_put_nk, am_put_nf, am_put_i, not_false_eq_true, Nat.reduceEqDiff]
  refine ip h25 ?_
  refine ip h26 ?_
  refine eL_law_1036 ?_
  try simp only [am_put_nk, am_put_nf, am_put_i, not_false_eq_true, Nat.reduceEqDiff]
  refine ip h27 ?_
  refine eL_law_1280 ?_
  try simp only [am_put_nk, am_put_nf, am_put_i, not_false_eq_true, Nat.reduceEqDiff]
  exact k
theorem qL_law_23_51 {L : Nat} {xs : Nat → Int32} (hL : L ≤ 2147483648) {x4 : Nat} {x5 : am_V} {x6 : am_V} {M : am_M} {n : Nat} {res : am_O × am_M} {j1 : Nat} {j2 : Nat} {v3 : Int32} {M4 : am_M} {v5 : Int32} {M6 : am_M} (h1 : ¬ (((Int32.ofNat L) - 5) < (i3 x4))) (h2 : x4 < L) (h3 : ¬ (((xs x4) &&& 31) = 0)) (h4 : ¬ (((xs x4) &&& 31) = 1)) (h5 : ¬ (((xs x4) &&& 31) = 2)) (h6 : ¬ (((xs x4) &&& 31) = 3)) (h7 : ¬ (((xs x4) &&& 31) = 4)) (h8 : ¬ (((xs x4) &&& 31) = 5)) (h9 : ¬ (((xs x4) &&& 31) = 6)) (h10 : ¬ (((xs x4) &&& 31) = 7)) (h11 : ¬ (((xs x4) &&& 31) = 8)) (h12 : ¬ (((xs x4) &&& 31) = 9)) (h13 : ¬ (((xs x4) &&& 31) = 10)) (h14 : ¬ (((xs x4) &&& 31) = 11)) (h15 : ¬ (((xs x4) &&& 31) = 12)) (h16 : ¬ (((xs x4) &&& 31) = 13)) (h17 : ¬ (((xs x4) &&& 31) = 14)) (h18 : ((xs x4) &&& 31) = 15) (h19 : j1 < L) (h20 : ((i3 x4) + 1) = i3 j1) (h21 : j2 < L) (h22 : ((i3 x4) + 2) = i3 j2) (h23 : fL_volume [.inr (9, 0), .inl (.int (xs j1)), .inl (.int (xs j2)), .inr (80, 0)] M = am_rI v3 M4) (h24 : fX10_volume [.inr (10, 0), .inl (.int (xs j1)), .inl (.int (xs j2))] M4 = am_rI v5 M6) (h25 : (M6 10 0 45) = v3) (h26 : ¬ (v3 = 0)) (k : rL_law L xs n 23 [.inr (29, 0), .inr (9, 0), .inr (10, 0), .inr (80, 0), .inl (.int ((i3 x4) + 5)), .inl (.int v3), .inl (.int v5)] [] M6 = some res) : rL_law L xs (n + 500) 23 [.inr (29, 0), .inr (9, 0), .inr (10, 0), .inr (80, 0), .inl (.int (i3 x4)), x5, x6] [] M = some res := by
  refine eL_law_23 ?_
  try simp only [am_put_nk, am_put_nf, am_put_i, not_false_eq_true, Nat.reduceEqDiff]
  refine iq h1 ?_
  refine ip (i3_in' h2 hL) ?_
  try rw [ixm h2 hL]
  refine iq h3 ?_
  refine iq h4 ?_
  refine iq h5 ?_
  refine iq h6 ?_
  refine iq h7 ?_
  refine iq h8 ?_
  refine iq h9 ?_
  refine iq h10 ?_
  refine iq h11 ?_
  refine iq h12 ?_
  refine iq h13 ?_
  refine iq h14 ?_
  refine iq h15 ?_
  refine iq h16 ?_
  refine iq h17 ?_
  refine ip h18 ?_
  refine eL_law_976 ?_
  try simp only [am_put_nk, am_put_nf, am_put_i, not_false_eq_true, Nat.reduceEqDiff]
  refine ip (ixi h20 h19 hL) ?_
  try rw [ixn h20 h19 hL]
  refine ip (ixi h22 h21 hL) ?_
  try rw [ixn h22 h21 hL]
  refine ri h23 ?_
  refine eL_law_993 ?_
  try simp only [am_put_nk, am_put_nf, am_put_i, not_false_eq_true, Nat.reduceEqDiff]
  refine ip (ixi h20 h19 hL) ?_
  try rw [ixn h20 h19 hL]
  refine ip (ixi h22 h21 hL) ?_
  try rw [ixn h22 h21 hL]
  refine ri h24 ?_
  refine eL_law_1011 ?_
  try simp only [am_put_nk, am_put_nf, am_put_i, not_false_eq_true, Nat.reduceEqDiff]
  refine ip h25 ?_
  refine iq h26 ?_
  refine eL_law_1280 ?_
  try simp only [am_put_nk, am_put_nf, am_put_i, not_false_eq_true, Nat.reduceEqDiff]
  exact k
theorem qL_law_23_53 {L : Nat} {xs : Nat → Int32} (hL : L ≤ 2147483648) {x4 : Nat} {x5 : am_V} {x6 : am_V} {M : am_M} {n : Nat} {res : am_O × am_M} {j1 : Nat} {j2 : Nat} {v3 : Int32} {M4 : am_M} {v5 : Int32} {M6 : am_M} (h1 : ¬ (((Int32.ofNat L) - 5) < (i3 x4))) (h2 : x4 < L) (h3 : ¬ (((xs x4) &&& 31) = 0)) (h4 : ¬ (((xs x4) &&& 31) = 1)) (h5 : ¬ (((xs x4) &&& 31) = 2)) (h6 : ¬ (((xs x4) &&& 31) = 3)) (h7 : ¬ (((xs x4) &&& 31) = 4)) (h8 : ¬ (((xs x4) &&& 31) = 5)) (h9 : ¬ (((xs x4) &&& 31) = 6)) (h10 : ¬ (((xs x4) &&& 31) = 7)) (h11 : ¬ (((xs x4) &&& 31) = 8)) (h12 : ¬ (((xs x4) &&& 31) = 9)) (h13 : ¬ (((xs x4) &&& 31) = 10)) (h14 : ¬ (((xs x4) &&& 31) = 11)) (h15 : ¬ (((xs x4) &&& 31) = 12)) (h16 : ¬ (((xs x4) &&& 31) = 13)) (h17 : ¬ (((xs x4) &&& 31) = 14)) (h18 : ¬ (((xs x4) &&& 31) = 15)) (h19 : ((xs x4) &&& 31) = 16) (h20 : j1 < L) (h21 : ((i3 x4) + 1) = i3 j1) (h22 : j2 < L) (h23 : ((i3 x4) + 2) = i3 j2) (h24 : fL_trend [.inr (9, 0), .inl (.int (xs j1)), .inl (.int (xs j2)), .inr (80, 0)] M = am_rI v3 M4) (h25 : fX10_trend [.inr (10, 0), .inl (.int (xs j1)), .inl (.int (xs j2))] M4 = am_rI v5 M6) (h26 : (M6 10 0 45) = v3) (h27 : v3 = 0) (h28 : (lg_cmp (am_jn (M6 80 0 (2 * (Int32.toNatClampNeg 0))) (M6 80 0 (2 * (Int32.toNatClampNeg 0) + 1))) (Int32.toInt64 v5)) = 0) (k : rL_law L xs n 23 [.inr (29, 0), .inr (9, 0), .inr (10, 0), .inr (80, 0), .inl (.int ((i3 x4) + 5)), .inl (.int v3), .inl (.int v5)] [] M6 = some res) : rL_law L xs (n + 600) 23 [.inr (29, 0), .inr (9, 0), .inr (10, 0), .inr (80, 0), .inl (.int (i3 x4)), x5, x6] [] M = some res := by
  refine eL_law_23 ?_
  try simp only [am_put_nk, am_put_nf, am_put_i, not_false_eq_true, Nat.reduceEqDiff]
  refine iq h1 ?_
  refine ip (i3_in' h2 hL) ?_
  try rw [ixm h2 hL]
  refine iq h3 ?_
  refine iq h4 ?_
  refine iq h5 ?_
  refine iq h6 ?_
  refine iq h7 ?_
  refine iq h8 ?_
  refine iq h9 ?_
  refine iq h10 ?_
  refine iq h11 ?_
  refine iq h12 ?_
  refine iq h13 ?_
  refine iq h14 ?_
  refine iq h15 ?_
  refine iq h16 ?_
  refine iq h17 ?_
  refine iq h18 ?_
  refine ip h19 ?_
  refine eL_law_1044 ?_
  try simp only [am_put_nk, am_put_nf, am_put_i, not_false_eq_true, Nat.reduceEqDiff]
  refine ip (ixi h21 h20 hL) ?_
  try rw [ixn h21 h20 hL]
  refine ip (ixi h23 h22 hL) ?_
  try rw [ixn h23 h22 hL]
  refine ri h24 ?_
  refine eL_law_1061 ?_
  try simp only [am_put_nk, am_put_nf, am_put_i, not_false_eq_true, Nat.reduceEqDiff]
  refine ip (ixi h21 h20 hL) ?_
  try rw [ixn h21 h20 hL]
  refine ip (ixi h23 h22 hL) ?_
  try rw [ixn h23 h22 hL]
  refine ri h25 ?_
  refine eL_law_1079 ?_
  try simp only [am_put_nk, am_put_nf, am_put_i, not_false_eq_true, Nat.reduceEqDiff]
  refine ip h26 ?_
  refine ip h27 ?_
  refine eL_law_1104 ?_
  try simp only [am_put_nk, am_put_nf, am_put_i, not_false_eq_true, Nat.reduceEqDiff]
  refine ip h28 ?_
  refine eL_law_1280 ?_
  try simp only [am_put_nk, am_put_nf, am_put_i, not_false_eq_true, Nat.reduceEqDiff]
  exact k
theorem qL_law_23_55 {L : Nat} {xs : Nat → Int32} (hL : L ≤ 2147483648) {x4 : Nat} {x5 : am_V} {x6 : am_V} {M : am_M} {n : Nat} {res : am_O × am_M} {j1 : Nat} {j2 : Nat} {v3 : Int32} {M4 : am_M} {v5 : Int32} {M6 : am_M} (h1 : ¬ (((Int32.ofNat L) - 5) < (i3 x4))) (h2 : x4 < L) (h3 : ¬ (((xs x4) &&& 31) = 0)) (h4 : ¬ (((xs x4) &&& 31) = 1)) (h5 : ¬ (((xs x4) &&& 31) = 2)) (h6 : ¬ (((xs x4) &&& 31) = 3)) (h7 : ¬ (((xs x4) &&& 31) = 4)) (h8 : ¬ (((xs x4) &&& 31) = 5)) (h9 : ¬ (((xs x4) &&& 31) = 6)) (h10 : ¬ (((xs x4) &&& 31) = 7)) (h11 : ¬ (((xs x4) &&& 31) = 8)) (h12 : ¬ (((xs x4) &&& 31) = 9)) (h13 : ¬ (((xs x4) &&& 31) = 10)) (h14 : ¬ (((xs x4) &&& 31) = 11)) (h15 : ¬ (((xs x4) &&& 31) = 12)) (h16 : ¬ (((xs x4) &&& 31) = 13)) (h17 : ¬ (((xs x4) &&& 31) = 14)) (h18 : ¬ (((xs x4) &&& 31) = 15)) (h19 : ((xs x4) &&& 31) = 16) (h20 : j1 < L) (h21 : ((i3 x4) + 1) = i3 j1) (h22 : j2 < L) (h23 : ((i3 x4) + 2) = i3 j2) (h24 : fL_trend [.inr (9, 0), .inl (.int (xs j1)), .inl (.int (xs j2)), .inr (80, 0)] M = am_rI v3 M4) (h25 : fX10_trend [.inr (10, 0), .inl (.int (xs j1)), .inl (.int (xs j2))] M4 = am_rI v5 M6) (h26 : (M6 10 0 45) = v3) (h27 : ¬ (v3 = 0)) (k : rL_law L xs n 23 [.inr (29, 0), .inr (9, 0), .inr (10, 0), .inr (80, 0), .inl (.int ((i3 x4) + 5)), .inl (.int v3), .inl (.int v5)] [] M6 = some res) : rL_law L xs (n + 500) 23 [.inr (29, 0), .inr (9, 0), .inr (10, 0), .inr (80, 0), .inl (.int (i3 x4)), x5, x6] [] M = some res := by
  refine eL_law_23 ?_
  try simp only [am_put_nk, am_put_nf, am_put_i, not_false_eq_true, Nat.reduceEqDiff]
  refine iq h1 ?_
  refine ip (i3_in' h2 hL) ?_
  try rw [ixm h2 hL]
  refine iq h3 ?_
  refine iq h4 ?_
  refine iq h5 ?_
  refine iq h6 ?_
  refine iq h7 ?_
  refine iq h8 ?_
  refine iq h9 ?_
  refine iq h10 ?_
  refine iq h11 ?_
  refine iq h12 ?_
  refine iq h13 ?_
  refine iq h14 ?_
  refine iq h15 ?_
  refine iq h16 ?_
  refine iq h17 ?_
  refine iq h18 ?_
  refine ip h19 ?_
  refine eL_law_1044 ?_
  try simp only [am_put_nk, am_put_nf, am_put_i, not_false_eq_true, Nat.reduceEqDiff]
  refine ip (ixi h21 h20 hL) ?_
  try rw [ixn h21 h20 hL]
  refine ip (ixi h23 h22 hL) ?_
  try rw [ixn h23 h22 hL]
  refine ri h24 ?_
  refine eL_law_1061 ?_
  try simp only [am_put_nk, am_put_nf, am_put_i, not_false_eq_true, Nat.reduceEqDiff]
  refine ip (ixi h21 h20 hL) ?_
  try rw [ixn h21 h20 hL]
  refine ip (ixi h23 h22 hL) ?_
  try rw [ixn h23 h22 hL]
  refine ri h25 ?_
  refine eL_law_1079 ?_
  try simp only [am_put_nk, am_put_nf, am_put_i, not_false_eq_true, Nat.reduceEqDiff]
  refine ip h26 ?_
  refine iq h27 ?_
  refine eL_law_1280 ?_
  try simp only [am_put_nk, am_put_nf, am_put_i, not_false_eq_true, Nat.reduceEqDiff]
  exact k
theorem qL_law_23_57 {L : Nat} {xs : Nat → Int32} (hL : L ≤ 2147483648) {x4 : Nat} {x5 : am_V} {x6 : am_V} {M : am_M} {n : Nat} {res : am_O × am_M} {j1 : Nat} {v2 : Int32} {M3 : am_M} {v4 : Int32} {M5 : am_M} (h1 : ¬ (((Int32.ofNat L) - 5) < (i3 x4))) (h2 : x4 < L) (h3 : ¬ (((xs x4) &&& 31) = 0)) (h4 : ¬ (((xs x4) &&& 31) = 1)) (h5 : ¬ (((xs x4) &&& 31) = 2)) (h6 : ¬ (((xs x4) &&& 31) = 3)) (h7 : ¬ (((xs x4) &&& 31) = 4)) (h8 : ¬ (((xs x4) &&& 31) = 5)) (h9 : ¬ (((xs x4) &&& 31) = 6)) (h10 : ¬ (((xs x4) &&& 31) = 7)) (h11 : ¬ (((xs x4) &&& 31) = 8)) (h12 : ¬ (((xs x4) &&& 31) = 9)) (h13 : ¬ (((xs x4) &&& 31) = 10)) (h14 : ¬ (((xs x4) &&& 31) = 11)) (h15 : ¬ (((xs x4) &&& 31) = 12)) (h16 : ¬ (((xs x4) &&& 31) = 13)) (h17 : ¬ (((xs x4) &&& 31) = 14)) (h18 : ¬ (((xs x4) &&& 31) = 15)) (h19 : ¬ (((xs x4) &&& 31) = 16)) (h20 : ((xs x4) &&& 31) = 17) (h21 : j1 < L) (h22 : ((i3 x4) + 1) = i3 j1) (h23 : fL_rules [.inr (9, 0), .inl (.int (xs j1)), .inr (80, 0)] M = am_rI v2 M3) (h24 : fX10_rules [.inr (10, 0), .inl (.int (xs j1))] M3 = am_rI v4 M5) (h25 : (M5 10 0 45) = v2) (h26 : v2 = 0) (h27 : (lg_cmp (am_jn (M5 80 0 (2 * (Int32.toNatClampNeg 0))) (M5 80 0 (2 * (Int32.toNatClampNeg 0) + 1))) (Int32.toInt64 v4)) = 0) (k : rL_law L xs n 23 [.inr (29, 0), .inr (9, 0), .inr (10, 0), .inr (80, 0), .inl (.int ((i3 x4) + 5)), .inl (.int v2), .inl (.int v4)] [] M5 = some res) : rL_law L xs (n + 600) 23 [.inr (29, 0), .inr (9, 0), .inr (10, 0), .inr (80, 0), .inl (.int (i3 x4)), x5, x6] [] M = some res := by
  refine eL_law_23 ?_
  try simp only [am_put_nk, am_put_nf, am_put_i, not_false_eq_true, Nat.reduceEqDiff]
  refine iq h1 ?_
  refine ip (i3_in' h2 hL) ?_
  try rw [ixm h2 hL]
  refine iq h3 ?_
  refine iq h4 ?_
  refine iq h5 ?_
  refine iq h6 ?_
  refine iq h7 ?_
  refine iq h8 ?_
  refine iq h9 ?_
  refine iq h10 ?_
  refine iq h11 ?_
  refine iq h12 ?_
  refine iq h13 ?_
  refine iq h14 ?_
  refine iq h15 ?_
  refine iq h16 ?_
  refine iq h17 ?_
  refine iq h18 ?_
  refine iq h19 ?_
  refine ip h20 ?_
  refine eL_law_1112 ?_
  try simp only [am_put_nk, am_put_nf, am_put_i, not_false_eq_true, Nat.reduceEqDiff]
  refine ip (ixi h22 h21 hL) ?_
  try rw [ixn h22 h21 hL]
  refine ri h23 ?_
  refine eL_law_1123 ?_
  try simp only [am_put_nk, am_put_nf, am_put_i, not_false_eq_true, Nat.reduceEqDiff]
  refine ip (ixi h22 h21 hL) ?_
  try rw [ixn h22 h21 hL]
  refine ri h24 ?_
  refine eL_law_1135 ?_
  try simp only [am_put_nk, am_put_nf, am_put_i, not_false_eq_true, Nat.reduceEqDiff]
  refine ip h25 ?_
  refine ip h26 ?_
  refine eL_law_1160 ?_
  try simp only [am_put_nk, am_put_nf, am_put_i, not_false_eq_true, Nat.reduceEqDiff]
  refine ip h27 ?_
  refine eL_law_1280 ?_
  try simp only [am_put_nk, am_put_nf, am_put_i, not_false_eq_true, Nat.reduceEqDiff]
  exact k
theorem qL_law_23_59 {L : Nat} {xs : Nat → Int32} (hL : L ≤ 2147483648) {x4 : Nat} {x5 : am_V} {x6 : am_V} {M : am_M} {n : Nat} {res : am_O × am_M} {j1 : Nat} {v2 : Int32} {M3 : am_M} {v4 : Int32} {M5 : am_M} (h1 : ¬ (((Int32.ofNat L) - 5) < (i3 x4))) (h2 : x4 < L) (h3 : ¬ (((xs x4) &&& 31) = 0)) (h4 : ¬ (((xs x4) &&& 31) = 1)) (h5 : ¬ (((xs x4) &&& 31) = 2)) (h6 : ¬ (((xs x4) &&& 31) = 3)) (h7 : ¬ (((xs x4) &&& 31) = 4)) (h8 : ¬ (((xs x4) &&& 31) = 5)) (h9 : ¬ (((xs x4) &&& 31) = 6)) (h10 : ¬ (((xs x4) &&& 31) = 7)) (h11 : ¬ (((xs x4) &&& 31) = 8)) (h12 : ¬ (((xs x4) &&& 31) = 9)) (h13 : ¬ (((xs x4) &&& 31) = 10)) (h14 : ¬ (((xs x4) &&& 31) = 11)) (h15 : ¬ (((xs x4) &&& 31) = 12)) (h16 : ¬ (((xs x4) &&& 31) = 13)) (h17 : ¬ (((xs x4) &&& 31) = 14)) (h18 : ¬ (((xs x4) &&& 31) = 15)) (h19 : ¬ (((xs x4) &&& 31) = 16)) (h20 : ((xs x4) &&& 31) = 17) (h21 : j1 < L) (h22 : ((i3 x4) + 1) = i3 j1) (h23 : fL_rules [.inr (9, 0), .inl (.int (xs j1)), .inr (80, 0)] M = am_rI v2 M3) (h24 : fX10_rules [.inr (10, 0), .inl (.int (xs j1))] M3 = am_rI v4 M5) (h25 : (M5 10 0 45) = v2) (h26 : ¬ (v2 = 0)) (k : rL_law L xs n 23 [.inr (29, 0), .inr (9, 0), .inr (10, 0), .inr (80, 0), .inl (.int ((i3 x4) + 5)), .inl (.int v2), .inl (.int v4)] [] M5 = some res) : rL_law L xs (n + 500) 23 [.inr (29, 0), .inr (9, 0), .inr (10, 0), .inr (80, 0), .inl (.int (i3 x4)), x5, x6] [] M = some res := by
  refine eL_law_23 ?_
  try simp only [am_put_nk, am_put_nf, am_put_i, not_false_eq_true, Nat.reduceEqDiff]
  refine iq h1 ?_
  refine ip (i3_in' h2 hL) ?_
  try rw [ixm h2 hL]
  refine iq h3 ?_
  refine iq h4 ?_
  refine iq h5 ?_
  refine iq h6 ?_
  refine iq h7 ?_
  refine iq h8 ?_
  refine iq h9 ?_
  refine iq h10 ?_
  refine iq h11 ?_
  refine iq h12 ?_
  refine iq h13 ?_
  refine iq h14 ?_
  refine iq h15 ?_
  refine iq h16 ?_
  refine iq h17 ?_
  refine iq h18 ?_
  refine iq h19 ?_
  refine ip h20 ?_
  refine eL_law_1112 ?_
  try simp only [am_put_nk, am_put_nf, am_put_i, not_false_eq_true, Nat.reduceEqDiff]
  refine ip (ixi h22 h21 hL) ?_
  try rw [ixn h22 h21 hL]
  refine ri h23 ?_
  refine eL_law_1123 ?_
  try simp only [am_put_nk, am_put_nf, am_put_i, not_false_eq_true, Nat.reduceEqDiff]
  refine ip (ixi h22 h21 hL) ?_
  try rw [ixn h22 h21 hL]
  refine ri h24 ?_
  refine eL_law_1135 ?_
  try simp only [am_put_nk, am_put_nf, am_put_i, not_false_eq_true, Nat.reduceEqDiff]
  refine ip h25 ?_
  refine iq h26 ?_
  refine eL_law_1280 ?_
  try simp only [am_put_nk, am_put_nf, am_put_i, not_false_eq_true, Nat.reduceEqDiff]
  exact k
theorem qL_law_23_61 {L : Nat} {xs : Nat → Int32} (hL : L ≤ 2147483648) {x4 : Nat} {x5 : am_V} {x6 : am_V} {M : am_M} {n : Nat} {res : am_O × am_M} {j1 : Nat} {v2 : Int32} {M3 : am_M} {v4 : Int32} {M5 : am_M} (h1 : ¬ (((Int32.ofNat L) - 5) < (i3 x4))) (h2 : x4 < L) (h3 : ¬ (((xs x4) &&& 31) = 0)) (h4 : ¬ (((xs x4) &&& 31) = 1)) (h5 : ¬ (((xs x4) &&& 31) = 2)) (h6 : ¬ (((xs x4) &&& 31) = 3)) (h7 : ¬ (((xs x4) &&& 31) = 4)) (h8 : ¬ (((xs x4) &&& 31) = 5)) (h9 : ¬ (((xs x4) &&& 31) = 6)) (h10 : ¬ (((xs x4) &&& 31) = 7)) (h11 : ¬ (((xs x4) &&& 31) = 8)) (h12 : ¬ (((xs x4) &&& 31) = 9)) (h13 : ¬ (((xs x4) &&& 31) = 10)) (h14 : ¬ (((xs x4) &&& 31) = 11)) (h15 : ¬ (((xs x4) &&& 31) = 12)) (h16 : ¬ (((xs x4) &&& 31) = 13)) (h17 : ¬ (((xs x4) &&& 31) = 14)) (h18 : ¬ (((xs x4) &&& 31) = 15)) (h19 : ¬ (((xs x4) &&& 31) = 16)) (h20 : ¬ (((xs x4) &&& 31) = 17)) (h21 : ((xs x4) &&& 31) = 18) (h22 : j1 < L) (h23 : ((i3 x4) + 1) = i3 j1) (h24 : fL_host [.inr (9, 0), .inl (.int (xs j1)), .inr (80, 0)] M = am_rI v2 M3) (h25 : fX10_host [.inr (10, 0), .inl (.int (xs j1))] M3 = am_rI v4 M5) (h26 : (M5 10 0 45) = v2) (h27 : v2 = 0) (h28 : (lg_cmp (am_jn (M5 80 0 (2 * (Int32.toNatClampNeg 0))) (M5 80 0 (2 * (Int32.toNatClampNeg 0) + 1))) (Int32.toInt64 v4)) = 0) (k : rL_law L xs n 23 [.inr (29, 0), .inr (9, 0), .inr (10, 0), .inr (80, 0), .inl (.int ((i3 x4) + 5)), .inl (.int v2), .inl (.int v4)] [] M5 = some res) : rL_law L xs (n + 600) 23 [.inr (29, 0), .inr (9, 0), .inr (10, 0), .inr (80, 0), .inl (.int (i3 x4)), x5, x6] [] M = some res := by
  refine eL_law_23 ?_
  try simp only [am_put_nk, am_put_nf, am_put_i, not_false_eq_true, Nat.reduceEqDiff]
  refine iq h1 ?_
  refine ip (i3_in' h2 hL) ?_
  try rw [ixm h2 hL]
  refine iq h3 ?_
  refine iq h4 ?_
  refine iq h5 ?_
  refine iq h6 ?_
  refine iq h7 ?_
  refine iq h8 ?_
  refine iq h9 ?_
  refine iq h10 ?_
  refine iq h11 ?_
  refine iq h12 ?_
  refine iq h13 ?_
  refine iq h14 ?_
  refine iq h15 ?_
  refine iq h16 ?_
  refine iq h17 ?_
  refine iq h18 ?_
  refine iq h19 ?_
  refine iq h20 ?_
  refine ip h21 ?_
  refine eL_law_1168 ?_
  try simp only [am_put_nk, am_put_nf, am_put_i, not_false_eq_true, Nat.reduceEqDiff]
  refine ip (ixi h23 h22 hL) ?_
  try rw [ixn h23 h22 hL]
  refine ri h24 ?_
  refine eL_law_1179 ?_
  try simp only [am_put_nk, am_put_nf, am_put_i, not_false_eq_true, Nat.reduceEqDiff]
  refine ip (ixi h23 h22 hL) ?_
  try rw [ixn h23 h22 hL]
  refine ri h25 ?_
  refine eL_law_1191 ?_
  try simp only [am_put_nk, am_put_nf, am_put_i, not_false_eq_true, Nat.reduceEqDiff]
  refine ip h26 ?_
  refine ip h27 ?_
  refine eL_law_1216 ?_
  try simp only [am_put_nk, am_put_nf, am_put_i, not_false_eq_true, Nat.reduceEqDiff]
  refine ip h28 ?_
  refine eL_law_1280 ?_
  try simp only [am_put_nk, am_put_nf, am_put_i, not_false_eq_true, Nat.reduceEqDiff]
  exact k
theorem qL_law_23_63 {L : Nat} {xs : Nat → Int32} (hL : L ≤ 2147483648) {x4 : Nat} {x5 : am_V} {x6 : am_V} {M : am_M} {n : Nat} {res : am_O × am_M} {j1 : Nat} {v2 : Int32} {M3 : am_M} {v4 : Int32} {M5 : am_M} (h1 : ¬ (((Int32.ofNat L) - 5) < (i3 x4))) (h2 : x4 < L) (h3 : ¬ (((xs x4) &&& 31) = 0)) (h4 : ¬ (((xs x4) &&& 31) = 1)) (h5 : ¬ (((xs x4) &&& 31) = 2)) (h6 : ¬ (((xs x4) &&& 31) = 3)) (h7 : ¬ (((xs x4) &&& 31) = 4)) (h8 : ¬ (((xs x4) &&& 31) = 5)) (h9 : ¬ (((xs x4) &&& 31) = 6)) (h10 : ¬ (((xs x4) &&& 31) = 7)) (h11 : ¬ (((xs x4) &&& 31) = 8)) (h12 : ¬ (((xs x4) &&& 31) = 9)) (h13 : ¬ (((xs x4) &&& 31) = 10)) (h14 : ¬ (((xs x4) &&& 31) = 11)) (h15 : ¬ (((xs x4) &&& 31) = 12)) (h16 : ¬ (((xs x4) &&& 31) = 13)) (h17 : ¬ (((xs x4) &&& 31) = 14)) (h18 : ¬ (((xs x4) &&& 31) = 15)) (h19 : ¬ (((xs x4) &&& 31) = 16)) (h20 : ¬ (((xs x4) &&& 31) = 17)) (h21 : ((xs x4) &&& 31) = 18) (h22 : j1 < L) (h23 : ((i3 x4) + 1) = i3 j1) (h24 : fL_host [.inr (9, 0), .inl (.int (xs j1)), .inr (80, 0)] M = am_rI v2 M3) (h25 : fX10_host [.inr (10, 0), .inl (.int (xs j1))] M3 = am_rI v4 M5) (h26 : (M5 10 0 45) = v2) (h27 : ¬ (v2 = 0)) (k : rL_law L xs n 23 [.inr (29, 0), .inr (9, 0), .inr (10, 0), .inr (80, 0), .inl (.int ((i3 x4) + 5)), .inl (.int v2), .inl (.int v4)] [] M5 = some res) : rL_law L xs (n + 500) 23 [.inr (29, 0), .inr (9, 0), .inr (10, 0), .inr (80, 0), .inl (.int (i3 x4)), x5, x6] [] M = some res := by
  refine eL_law_23 ?_
  try simp only [am_put_nk, am_put_nf, am_put_i, not_false_eq_true, Nat.reduceEqDiff]
  refine iq h1 ?_
  refine ip (i3_in' h2 hL) ?_
  try rw [ixm h2 hL]
  refine iq h3 ?_
  refine iq h4 ?_
  refine iq h5 ?_
  refine iq h6 ?_
  refine iq h7 ?_
  refine iq h8 ?_
  refine iq h9 ?_
  refine iq h10 ?_
  refine iq h11 ?_
  refine iq h12 ?_
  refine iq h13 ?_
  refine iq h14 ?_
  refine iq h15 ?_
  refine iq h16 ?_
  refine iq h17 ?_
  refine iq h18 ?_
  refine iq h19 ?_
  refine iq h20 ?_
  refine ip h21 ?_
  refine eL_law_1168 ?_
  try simp only [am_put_nk, am_put_nf, am_put_i, not_false_eq_true, Nat.reduceEqDiff]
  refine ip (ixi h23 h22 hL) ?_
  try rw [ixn h23 h22 hL]
  refine ri h24 ?_
  refine eL_law_1179 ?_
  try simp only [am_put_nk, am_put_nf, am_put_i, not_false_eq_true, Nat.reduceEqDiff]
  refine ip (ixi h23 h22 hL) ?_
  try rw [ixn h23 h22 hL]
  refine ri h25 ?_
  refine eL_law_1191 ?_
  try simp only [am_put_nk, am_put_nf, am_put_i, not_false_eq_true, Nat.reduceEqDiff]
  refine ip h26 ?_
  refine iq h27 ?_
  refine eL_law_1280 ?_
  try simp only [am_put_nk, am_put_nf, am_put_i, not_false_eq_true, Nat.reduceEqDiff]
  exact k
theorem qL_law_23_65 {L : Nat} {xs : Nat → Int32} (hL : L ≤ 2147483648) {x4 : Nat} {x5 : am_V} {x6 : am_V} {M : am_M} {n : Nat} {res : am_O × am_M} {j1 : Nat} {v2 : Int32} {M3 : am_M} {v4 : Int32} {M5 : am_M} (h1 : ¬ (((Int32.ofNat L) - 5) < (i3 x4))) (h2 : x4 < L) (h3 : ¬ (((xs x4) &&& 31) = 0)) (h4 : ¬ (((xs x4) &&& 31) = 1)) (h5 : ¬ (((xs x4) &&& 31) = 2)) (h6 : ¬ (((xs x4) &&& 31) = 3)) (h7 : ¬ (((xs x4) &&& 31) = 4)) (h8 : ¬ (((xs x4) &&& 31) = 5)) (h9 : ¬ (((xs x4) &&& 31) = 6)) (h10 : ¬ (((xs x4) &&& 31) = 7)) (h11 : ¬ (((xs x4) &&& 31) = 8)) (h12 : ¬ (((xs x4) &&& 31) = 9)) (h13 : ¬ (((xs x4) &&& 31) = 10)) (h14 : ¬ (((xs x4) &&& 31) = 11)) (h15 : ¬ (((xs x4) &&& 31) = 12)) (h16 : ¬ (((xs x4) &&& 31) = 13)) (h17 : ¬ (((xs x4) &&& 31) = 14)) (h18 : ¬ (((xs x4) &&& 31) = 15)) (h19 : ¬ (((xs x4) &&& 31) = 16)) (h20 : ¬ (((xs x4) &&& 31) = 17)) (h21 : ¬ (((xs x4) &&& 31) = 18)) (h22 : ((xs x4) &&& 31) = 19) (h23 : j1 < L) (h24 : ((i3 x4) + 1) = i3 j1) (h25 : fL_took [.inr (9, 0), .inl (.int (xs j1)), .inr (80, 0)] M = am_rI v2 M3) (h26 : fX10_took [.inr (10, 0), .inl (.int (xs j1))] M3 = am_rI v4 M5) (h27 : (M5 10 0 45) = v2) (h28 : v2 = 0) (h29 : (lg_cmp (am_jn (M5 80 0 (2 * (Int32.toNatClampNeg 0))) (M5 80 0 (2 * (Int32.toNatClampNeg 0) + 1))) (Int32.toInt64 v4)) = 0) (k : rL_law L xs n 23 [.inr (29, 0), .inr (9, 0), .inr (10, 0), .inr (80, 0), .inl (.int ((i3 x4) + 5)), .inl (.int v2), .inl (.int v4)] [] M5 = some res) : rL_law L xs (n + 600) 23 [.inr (29, 0), .inr (9, 0), .inr (10, 0), .inr (80, 0), .inl (.int (i3 x4)), x5, x6] [] M = some res := by
  refine eL_law_23 ?_
  try simp only [am_put_nk, am_put_nf, am_put_i, not_false_eq_true, Nat.reduceEqDiff]
  refine iq h1 ?_
  refine ip (i3_in' h2 hL) ?_
  try rw [ixm h2 hL]
  refine iq h3 ?_
  refine iq h4 ?_
  refine iq h5 ?_
  refine iq h6 ?_
  refine iq h7 ?_
  refine iq h8 ?_
  refine iq h9 ?_
  refine iq h10 ?_
  refine iq h11 ?_
  refine iq h12 ?_
  refine iq h13 ?_
  refine iq h14 ?_
  refine iq h15 ?_
  refine iq h16 ?_
  refine iq h17 ?_
  refine iq h18 ?_
  refine iq h19 ?_
  refine iq h20 ?_
  refine iq h21 ?_
  refine ip h22 ?_
  refine eL_law_1224 ?_
  try simp only [am_put_nk, am_put_nf, am_put_i, not_false_eq_true, Nat.reduceEqDiff]
  refine ip (ixi h24 h23 hL) ?_
  try rw [ixn h24 h23 hL]
  refine ri h25 ?_
  refine eL_law_1235 ?_
  try simp only [am_put_nk, am_put_nf, am_put_i, not_false_eq_true, Nat.reduceEqDiff]
  refine ip (ixi h24 h23 hL) ?_
  try rw [ixn h24 h23 hL]
  refine ri h26 ?_
  refine eL_law_1247 ?_
  try simp only [am_put_nk, am_put_nf, am_put_i, not_false_eq_true, Nat.reduceEqDiff]
  refine ip h27 ?_
  refine ip h28 ?_
  refine eL_law_1272 ?_
  try simp only [am_put_nk, am_put_nf, am_put_i, not_false_eq_true, Nat.reduceEqDiff]
  refine ip h29 ?_
  refine eL_law_1280 ?_
  try simp only [am_put_nk, am_put_nf, am_put_i, not_false_eq_true, Nat.reduceEqDiff]
  exact k
theorem qL_law_23_67 {L : Nat} {xs : Nat → Int32} (hL : L ≤ 2147483648) {x4 : Nat} {x5 : am_V} {x6 : am_V} {M : am_M} {n : Nat} {res : am_O × am_M} {j1 : Nat} {v2 : Int32} {M3 : am_M} {v4 : Int32} {M5 : am_M} (h1 : ¬ (((Int32.ofNat L) - 5) < (i3 x4))) (h2 : x4 < L) (h3 : ¬ (((xs x4) &&& 31) = 0)) (h4 : ¬ (((xs x4) &&& 31) = 1)) (h5 : ¬ (((xs x4) &&& 31) = 2)) (h6 : ¬ (((xs x4) &&& 31) = 3)) (h7 : ¬ (((xs x4) &&& 31) = 4)) (h8 : ¬ (((xs x4) &&& 31) = 5)) (h9 : ¬ (((xs x4) &&& 31) = 6)) (h10 : ¬ (((xs x4) &&& 31) = 7)) (h11 : ¬ (((xs x4) &&& 31) = 8)) (h12 : ¬ (((xs x4) &&& 31) = 9)) (h13 : ¬ (((xs x4) &&& 31) = 10)) (h14 : ¬ (((xs x4) &&& 31) = 11)) (h15 : ¬ (((xs x4) &&& 31) = 12)) (h16 : ¬ (((xs x4) &&& 31) = 13)) (h17 : ¬ (((xs x4) &&& 31) = 14)) (h18 : ¬ (((xs x4) &&& 31) = 15)) (h19 : ¬ (((xs x4) &&& 31) = 16)) (h20 : ¬ (((xs x4) &&& 31) = 17)) (h21 : ¬ (((xs x4) &&& 31) = 18)) (h22 : ((xs x4) &&& 31) = 19) (h23 : j1 < L) (h24 : ((i3 x4) + 1) = i3 j1) (h25 : fL_took [.inr (9, 0), .inl (.int (xs j1)), .inr (80, 0)] M = am_rI v2 M3) (h26 : fX10_took [.inr (10, 0), .inl (.int (xs j1))] M3 = am_rI v4 M5) (h27 : (M5 10 0 45) = v2) (h28 : ¬ (v2 = 0)) (k : rL_law L xs n 23 [.inr (29, 0), .inr (9, 0), .inr (10, 0), .inr (80, 0), .inl (.int ((i3 x4) + 5)), .inl (.int v2), .inl (.int v4)] [] M5 = some res) : rL_law L xs (n + 500) 23 [.inr (29, 0), .inr (9, 0), .inr (10, 0), .inr (80, 0), .inl (.int (i3 x4)), x5, x6] [] M = some res := by
  refine eL_law_23 ?_
  try simp only [am_put_nk, am_put_nf, am_put_i, not_false_eq_true, Nat.reduceEqDiff]
  refine iq h1 ?_
  refine ip (i3_in' h2 hL) ?_
  try rw [ixm h2 hL]
  refine iq h3 ?_
  refine iq h4 ?_
  refine iq h5 ?_
  refine iq h6 ?_
  refine iq h7 ?_
  refine iq h8 ?_
  refine iq h9 ?_
  refine iq h10 ?_
  refine iq h11 ?_
  refine iq h12 ?_
  refine iq h13 ?_
  refine iq h14 ?_
  refine iq h15 ?_
  refine iq h16 ?_
  refine iq h17 ?_
  refine iq h18 ?_
  refine iq h19 ?_
  refine iq h20 ?_
  refine iq h21 ?_
  refine ip h22 ?_
  refine eL_law_1224 ?_
  try simp only [am_put_nk, am_put_nf, am_put_i, not_false_eq_true, Nat.reduceEqDiff]
  refine ip (ixi h24 h23 hL) ?_
  try rw [ixn h24 h23 hL]
  refine ri h25 ?_
  refine eL_law_1235 ?_
  try simp only [am_put_nk, am_put_nf, am_put_i, not_false_eq_true, Nat.reduceEqDiff]
  refine ip (ixi h24 h23 hL) ?_
  try rw [ixn h24 h23 hL]
  refine ri h26 ?_
  refine eL_law_1247 ?_
  try simp only [am_put_nk, am_put_nf, am_put_i, not_false_eq_true, Nat.reduceEqDiff]
  refine ip h27 ?_
  refine iq h28 ?_
  refine eL_law_1280 ?_
  try simp only [am_put_nk, am_put_nf, am_put_i, not_false_eq_true, Nat.reduceEqDiff]
  exact k
theorem qL_law_23_69 {L : Nat} {xs : Nat → Int32} (hL : L ≤ 2147483648) {x4 : Nat} {x5 : am_V} {x6 : am_V} {M : am_M} {n : Nat} {res : am_O × am_M} (h1 : ¬ (((Int32.ofNat L) - 5) < (i3 x4))) (h2 : x4 < L) (h3 : ¬ (((xs x4) &&& 31) = 0)) (h4 : ¬ (((xs x4) &&& 31) = 1)) (h5 : ¬ (((xs x4) &&& 31) = 2)) (h6 : ¬ (((xs x4) &&& 31) = 3)) (h7 : ¬ (((xs x4) &&& 31) = 4)) (h8 : ¬ (((xs x4) &&& 31) = 5)) (h9 : ¬ (((xs x4) &&& 31) = 6)) (h10 : ¬ (((xs x4) &&& 31) = 7)) (h11 : ¬ (((xs x4) &&& 31) = 8)) (h12 : ¬ (((xs x4) &&& 31) = 9)) (h13 : ¬ (((xs x4) &&& 31) = 10)) (h14 : ¬ (((xs x4) &&& 31) = 11)) (h15 : ¬ (((xs x4) &&& 31) = 12)) (h16 : ¬ (((xs x4) &&& 31) = 13)) (h17 : ¬ (((xs x4) &&& 31) = 14)) (h18 : ¬ (((xs x4) &&& 31) = 15)) (h19 : ¬ (((xs x4) &&& 31) = 16)) (h20 : ¬ (((xs x4) &&& 31) = 17)) (h21 : ¬ (((xs x4) &&& 31) = 18)) (h22 : ¬ (((xs x4) &&& 31) = 19)) (k : rL_law L xs n 23 [.inr (29, 0), .inr (9, 0), .inr (10, 0), .inr (80, 0), .inl (.int ((i3 x4) + 5)), x5, x6] [] M = some res) : rL_law L xs (n + 200) 23 [.inr (29, 0), .inr (9, 0), .inr (10, 0), .inr (80, 0), .inl (.int (i3 x4)), x5, x6] [] M = some res := by
  refine eL_law_23 ?_
  try simp only [am_put_nk, am_put_nf, am_put_i, not_false_eq_true, Nat.reduceEqDiff]
  refine iq h1 ?_
  refine ip (i3_in' h2 hL) ?_
  try rw [ixm h2 hL]
  refine iq h3 ?_
  refine iq h4 ?_
  refine iq h5 ?_
  refine iq h6 ?_
  refine iq h7 ?_
  refine iq h8 ?_
  refine iq h9 ?_
  refine iq h10 ?_
  refine iq h11 ?_
  refine iq h12 ?_
  refine iq h13 ?_
  refine iq h14 ?_
  refine iq h15 ?_
  refine iq h16 ?_
  refine iq h17 ?_
  refine iq h18 ?_
  refine iq h19 ?_
  refine iq h20 ?_
  refine iq h21 ?_
  refine iq h22 ?_
  refine eL_law_1280 ?_
  try simp only [am_put_nk, am_put_nf, am_put_i, not_false_eq_true, Nat.reduceEqDiff]
  exact k
