/-! ===== the ways through the methods ===== -/
theorem qX9_absorbanceOf_0 {x0 : Int32} {M : am_M} {res : am_O × am_M} (k : rX9_absorbanceOf 99900 4 [.inl (.int x0), .inl (.int 0), .inl (.int 1), am_D, am_D, am_D] [] M = some res) : fX9_absorbanceOf [.inl (.int x0)] M = some res := by
  rw [eX9_absorbanceOf]
  refine eX9_absorbanceOf_0 ?_
  exact k
theorem mX9_absorbanceOf {n m pc : Nat} {ls st : List am_V} {M : am_M} {res : am_O × am_M} (h : rX9_absorbanceOf n pc ls st M = some res) (hm : n ≤ m) : rX9_absorbanceOf m pc ls st M = some res := by
  have h2 := am_run_mono_add h (m - n)
  rw [show n + (m - n) = m by omega] at h2
  exact h2
theorem qX9_absorbanceOf_4_0 {x0 : Int32} {x1 : Int32} {x2 : Nat} {M : am_M} {n : Nat} {res : am_O × am_M} (h1 : 16 ≤ (i3 x2)) (k : rX9_absorbanceOf n 38 [.inl (.int x0), .inl (.int x1), .inl (.long ((Int32.toInt64 x0) <<< (((15 - x1) : Int32).toInt64 &&& 63))), am_D, .inl (.int 0), .inl (.int 0)] [] M = some res) : rX9_absorbanceOf (n + 100) 4 [.inl (.int x0), .inl (.int x1), .inl (.int (i3 x2)), am_D, am_D, am_D] [] M = some res := by
  refine eX9_absorbanceOf_4 ?_
  refine ip h1 ?_
  exact k
theorem qX9_absorbanceOf_4_1 {x0 : Int32} {x1 : Int32} {x2 : Nat} {M : am_M} {n : Nat} {res : am_O × am_M} (h1 : ¬ (16 ≤ (i3 x2))) (h2 : (x0 >>> ((i3 x2) &&& 31)) = 0) (k : rX9_absorbanceOf n 4 [.inl (.int x0), .inl (.int x1), .inl (.int (i3 (x2 + 1))), am_D, am_D, am_D] [] M = some res) : rX9_absorbanceOf (n + 100) 4 [.inl (.int x0), .inl (.int x1), .inl (.int (i3 x2)), am_D, am_D, am_D] [] M = some res := by
  refine eX9_absorbanceOf_4 ?_
  refine iq h1 ?_
  refine ip h2 ?_
  rw [i3_one]
  exact k
theorem qX9_absorbanceOf_4_2 {x0 : Int32} {x1 : Int32} {x2 : Nat} {M : am_M} {n : Nat} {res : am_O × am_M} (h1 : ¬ (16 ≤ (i3 x2))) (h2 : ¬ ((x0 >>> ((i3 x2) &&& 31)) = 0)) (k : rX9_absorbanceOf n 4 [.inl (.int x0), .inl (.int (i3 x2)), .inl (.int (i3 (x2 + 1))), am_D, am_D, am_D] [] M = some res) : rX9_absorbanceOf (n + 100) 4 [.inl (.int x0), .inl (.int x1), .inl (.int (i3 x2)), am_D, am_D, am_D] [] M = some res := by
  refine eX9_absorbanceOf_4 ?_
  refine iq h1 ?_
  refine iq h2 ?_
  rw [i3_one]
  exact k
theorem qX9_absorbanceOf_38_0 {x0 : Int32} {x1 : Int32} {x2 : Int64} {x4 : Int32} {x5 : Nat} {M : am_M} {n : Nat} (h1 : 10 ≤ (i3 x5)) : rX9_absorbanceOf (n + 100) 38 [.inl (.int x0), .inl (.int x1), .inl (.long x2), am_D, .inl (.int x4), .inl (.int (i3 x5))] [] M = am_rI (16384 - ((1024 * x1) + x4)) M := by
  refine eX9_absorbanceOf_38 ?_
  refine ip h1 ?_
  all_goals rfl
theorem qX9_absorbanceOf_38_1 {x0 : Int32} {x1 : Int32} {x2 : Int64} {x4 : Int32} {x5 : Nat} {M : am_M} {n : Nat} {res : am_O × am_M} (h1 : ¬ (10 ≤ (i3 x5))) (h2 : (lg_cmp ((x2 * x2) / 32768) 65536) < 0) (k : rX9_absorbanceOf n 38 [.inl (.int x0), .inl (.int x1), .inl (.long ((x2 * x2) / 32768)), am_D, .inl (.int (x4 * 2)), .inl (.int (i3 (x5 + 1)))] [] M = some res) : rX9_absorbanceOf (n + 100) 38 [.inl (.int x0), .inl (.int x1), .inl (.long x2), am_D, .inl (.int x4), .inl (.int (i3 x5))] [] M = some res := by
  refine eX9_absorbanceOf_38 ?_
  refine iq h1 ?_
  refine ip h2 ?_
  rw [i3_one]
  exact k
theorem qX9_absorbanceOf_38_2 {x0 : Int32} {x1 : Int32} {x2 : Int64} {x4 : Int32} {x5 : Nat} {M : am_M} {n : Nat} {res : am_O × am_M} (h1 : ¬ (10 ≤ (i3 x5))) (h2 : ¬ ((lg_cmp ((x2 * x2) / 32768) 65536) < 0)) (k : rX9_absorbanceOf n 38 [.inl (.int x0), .inl (.int x1), .inl (.long (((x2 * x2) / 32768) / 2)), am_D, .inl (.int ((x4 * 2) + 1)), .inl (.int (i3 (x5 + 1)))] [] M = some res) : rX9_absorbanceOf (n + 100) 38 [.inl (.int x0), .inl (.int x1), .inl (.long x2), am_D, .inl (.int x4), .inl (.int (i3 x5))] [] M = some res := by
  refine eX9_absorbanceOf_38 ?_
  refine iq h1 ?_
  refine iq h2 ?_
  rw [i3_one]
  exact k
theorem qX10_absorbance_0 {x0 : Int32} {M : am_M} {res : am_O × am_M} (k : rX10_absorbance 99900 3 [.inl (.int x0), .inl (.int 15), am_D, am_D, am_D, am_D] [] M = some res) : fX10_absorbance [.inl (.int x0)] M = some res := by
  rw [eX10_absorbance]
  refine eX10_absorbance_0 ?_
  exact k
theorem mX10_absorbance {n m pc : Nat} {ls st : List am_V} {M : am_M} {res : am_O × am_M} (h : rX10_absorbance n pc ls st M = some res) (hm : n ≤ m) : rX10_absorbance m pc ls st M = some res := by
  have h2 := am_run_mono_add h (m - n)
  rw [show n + (m - n) = m by omega] at h2
  exact h2
theorem qX10_absorbance_3_0 {x0 : Int32} {x1 : Nat} {M : am_M} {n : Nat} {res : am_O × am_M} (h1 : (x0 >>> ((i3 x1) &&& 31)) = 0) (k : rX10_absorbance n 3 [.inl (.int x0), .inl (.int ((i3 x1) + (-1))), am_D, am_D, am_D, am_D] [] M = some res) : rX10_absorbance (n + 100) 3 [.inl (.int x0), .inl (.int (i3 x1)), am_D, am_D, am_D, am_D] [] M = some res := by
  refine eX10_absorbance_3 ?_
  refine ip h1 ?_
  exact k
theorem qX10_absorbance_3_1 {x0 : Int32} {x1 : Nat} {M : am_M} {n : Nat} {res : am_O × am_M} (h1 : ¬ ((x0 >>> ((i3 x1) &&& 31)) = 0)) (k : rX10_absorbance n 29 [.inl (.int x0), .inl (.int (i3 x1)), .inl (.long ((Int32.toInt64 x0) <<< (((15 - (i3 x1)) : Int32).toInt64 &&& 63))), am_D, .inl (.int 0), .inl (.int 0)] [] M = some res) : rX10_absorbance (n + 100) 3 [.inl (.int x0), .inl (.int (i3 x1)), am_D, am_D, am_D, am_D] [] M = some res := by
  refine eX10_absorbance_3 ?_
  refine iq h1 ?_
  exact k
theorem qX10_absorbance_29_0 {x0 : Int32} {x1 : Int32} {x2 : Int64} {x4 : Int32} {x5 : Nat} {M : am_M} {n : Nat} (h1 : 10 ≤ (i3 x5)) : rX10_absorbance (n + 100) 29 [.inl (.int x0), .inl (.int x1), .inl (.long x2), am_D, .inl (.int x4), .inl (.int (i3 x5))] [] M = am_rI (16384 - ((1024 * x1) + x4)) M := by
  refine eX10_absorbance_29 ?_
  refine ip h1 ?_
  all_goals rfl
theorem qX10_absorbance_29_1 {x0 : Int32} {x1 : Int32} {x2 : Int64} {x4 : Int32} {x5 : Nat} {M : am_M} {n : Nat} {res : am_O × am_M} (h1 : ¬ (10 ≤ (i3 x5))) (h2 : (lg_cmp ((x2 * x2) / 32768) 65536) < 0) (k : rX10_absorbance n 29 [.inl (.int x0), .inl (.int x1), .inl (.long ((x2 * x2) / 32768)), am_D, .inl (.int (2 * x4)), .inl (.int (i3 (x5 + 1)))] [] M = some res) : rX10_absorbance (n + 100) 29 [.inl (.int x0), .inl (.int x1), .inl (.long x2), am_D, .inl (.int x4), .inl (.int (i3 x5))] [] M = some res := by
  refine eX10_absorbance_29 ?_
  refine iq h1 ?_
  refine ip h2 ?_
  rw [i3_one]
  exact k
theorem qX10_absorbance_29_2 {x0 : Int32} {x1 : Int32} {x2 : Int64} {x4 : Int32} {x5 : Nat} {M : am_M} {n : Nat} {res : am_O × am_M} (h1 : ¬ (10 ≤ (i3 x5))) (h2 : ¬ ((lg_cmp ((x2 * x2) / 32768) 65536) < 0)) (k : rX10_absorbance n 29 [.inl (.int x0), .inl (.int x1), .inl (.long (((x2 * x2) / 32768) / 2)), am_D, .inl (.int ((2 * x4) + 1)), .inl (.int (i3 (x5 + 1)))] [] M = some res) : rX10_absorbance (n + 100) 29 [.inl (.int x0), .inl (.int x1), .inl (.long x2), am_D, .inl (.int x4), .inl (.int (i3 x5))] [] M = some res := by
  refine eX10_absorbance_29 ?_
  refine iq h1 ?_
  refine iq h2 ?_
  rw [i3_one]
  exact k
theorem qX9_takeReadings_0 {M : am_M} {res : am_O × am_M} {v1 : Int32} (h1 : fX9_absorbanceOf [.inl (.int (M 9 0 9))] M = am_rI v1 M) (k : rX9_takeReadings 99800 10 [.inr (9, 0), .inl (.int v1), .inl (.int 0), am_D] [] M = some res) : fX9_takeReadings [.inr (9, 0)] M = some res := by
  rw [eX9_takeReadings]
  refine eX9_takeReadings_0 ?_
  refine ri h1 ?_
  refine eX9_takeReadings_7 ?_
  exact k
theorem mX9_takeReadings {n m pc : Nat} {ls st : List am_V} {M : am_M} {res : am_O × am_M} (h : rX9_takeReadings n pc ls st M = some res) (hm : n ≤ m) : rX9_takeReadings m pc ls st M = some res := by
  have h2 := am_run_mono_add h (m - n)
  rw [show n + (m - n) = m by omega] at h2
  exact h2
theorem qX9_takeReadings_10_0 {x1 : Int32} {x2 : Nat} {x3 : am_V} {M : am_M} {n : Nat} (h1 : (M 9 0 7) ≤ (i3 x2)) : rX9_takeReadings (n + 100) 10 [.inr (9, 0), .inl (.int x1), .inl (.int (i3 x2)), x3] [] M = am_rV M := by
  refine eX9_takeReadings_10 ?_
  refine ip h1 ?_
  all_goals rfl
theorem qX9_takeReadings_10_1 {x1 : Int32} {x2 : Nat} {x3 : am_V} {M : am_M} {n : Nat} {res : am_O × am_M} {v1 : Nat} {j1 : Nat} (h1 : ¬ ((M 9 0 7) ≤ (i3 x2))) (h2 : x2 < 40) (h3 : fX9_cuvetteOf [.inr (9, 0), .inr (4, x2)] M = some (.inl (some (.inr (1, v1))), M)) (h3b : v1 < 10) (h5 : j1 < 4) (h6 : (M 4 x2 1) = i3 j1) (h7 : ¬ ((M 18 j1 7) ≤ (M 1 v1 7) ∧ (M 1 v1 7) ≤ (M 18 j1 8))) (k : rX9_takeReadings n 10 [.inr (9, 0), .inl (.int x1), .inl (.int (i3 (x2 + 1))), .inr (1, v1)] [] M = some res) : rX9_takeReadings (n + 400) 10 [.inr (9, 0), .inl (.int x1), .inl (.int (i3 x2)), x3] [] M = some res := by
  refine eX9_takeReadings_10 ?_
  refine iq h1 ?_
  refine ip (i3_in' h2 (by decide)) ?_
  try rw [ixm h2 (by decide)]
  refine rq h3 h3b ?_
  refine eX9_takeReadings_28 ?_
  refine ip (i3_in' h2 (by decide)) ?_
  try rw [ixm h2 (by decide)]
  refine ip (ixi h6 h5 (by decide)) ?_
  try rw [ixn h6 h5 (by decide)]
  refine ri (sX6_isReadAt _ _ _) ?_
  refine eX9_takeReadings_54 ?_
  refine ip (bi_f h7) ?_
  refine eX9_takeReadings_62a ?_
  rw [i3_one]
  exact k
theorem qX9_takeReadings_10_2 {x1 : Int32} {x2 : Nat} {x3 : am_V} {M : am_M} {n : Nat} {res : am_O × am_M} {v1 : Nat} {j1 : Nat} {M3 : am_M} (h1 : ¬ ((M 9 0 7) ≤ (i3 x2))) (h2 : x2 < 40) (h3 : fX9_cuvetteOf [.inr (9, 0), .inr (4, x2)] M = some (.inl (some (.inr (1, v1))), M)) (h3b : v1 < 10) (h5 : j1 < 4) (h6 : (M 4 x2 1) = i3 j1) (h7 : (M 18 j1 7) ≤ (M 1 v1 7) ∧ (M 1 v1 7) ≤ (M 18 j1 8)) (h8 : fX1_addReading [.inr (1, v1), .inl (.int x1)] M = am_rV M3) (k : rX9_takeReadings n 10 [.inr (9, 0), .inl (.int x1), .inl (.int (i3 (x2 + 1))), .inr (1, v1)] [] M3 = some res) : rX9_takeReadings (n + 400) 10 [.inr (9, 0), .inl (.int x1), .inl (.int (i3 x2)), x3] [] M = some res := by
  refine eX9_takeReadings_10 ?_
  refine iq h1 ?_
  refine ip (i3_in' h2 (by decide)) ?_
  try rw [ixm h2 (by decide)]
  refine rq h3 h3b ?_
  refine eX9_takeReadings_28 ?_
  refine ip (i3_in' h2 (by decide)) ?_
  try rw [ixm h2 (by decide)]
  refine ip (ixi h6 h5 (by decide)) ?_
  try rw [ixn h6 h5 (by decide)]
  refine ri (sX6_isReadAt _ _ _) ?_
  refine eX9_takeReadings_54 ?_
  refine iq (fun e => bi_0.mp e h7) ?_
  refine rv h8 ?_
  refine eX9_takeReadings_62a ?_
  rw [i3_one]
  exact k
theorem qX9_takeReadings_10_3 {x1 : Int32} {x2 : Nat} {x3 : am_V} {M : am_M} {n : Nat} {res : am_O × am_M} (h1 : ¬ ((M 9 0 7) ≤ (i3 x2))) (h2 : x2 < 40) (h3 : fX9_cuvetteOf [.inr (9, 0), .inr (4, x2)] M = some (.inl (some (.inl .null)), M)) (k : rX9_takeReadings n 10 [.inr (9, 0), .inl (.int x1), .inl (.int (i3 (x2 + 1))), .inl .null] [] M = some res) : rX9_takeReadings (n + 300) 10 [.inr (9, 0), .inl (.int x1), .inl (.int (i3 x2)), x3] [] M = some res := by
  refine eX9_takeReadings_10 ?_
  refine iq h1 ?_
  refine ip (i3_in' h2 (by decide)) ?_
  try rw [ixm h2 (by decide)]
  refine rn h3 ?_
  refine eX9_takeReadings_28a ?_
  refine eX9_takeReadings_62 ?_
  rw [i3_one]
  exact k
theorem qX10_measure_0 {M : am_M} {res : am_O × am_M} (k : rX10_measure 99900 2 [.inr (10, 0), .inl (.int 0)] [] M = some res) : fX10_measure [.inr (10, 0)] M = some res := by
  rw [eX10_measure]
  refine eX10_measure_0 ?_
  exact k
theorem mX10_measure {n m pc : Nat} {ls st : List am_V} {M : am_M} {res : am_O × am_M} (h : rX10_measure n pc ls st M = some res) (hm : n ≤ m) : rX10_measure m pc ls st M = some res := by
  have h2 := am_run_mono_add h (m - n)
  rw [show n + (m - n) = m by omega] at h2
  exact h2
theorem qX10_measure_2_0 {x1 : Nat} {M : am_M} {n : Nat} (h1 : (M 10 0 14) ≤ (i3 x1)) : rX10_measure (n + 100) 2 [.inr (10, 0), .inl (.int (i3 x1))] [] M = am_rV M := by
  refine eX10_measure_2 ?_
  refine ip h1 ?_
  all_goals rfl
theorem qX10_measure_2_1 {x1 : Nat} {M : am_M} {n : Nat} {res : am_O × am_M} {j2 : Nat} (h1 : ¬ ((M 10 0 14) ≤ (i3 x1))) (h2 : x1 < 40) (h3 : (M 48 0 x1) = 1) (h4 : j2 < 4) (h5 : (M 46 0 x1) = i3 j2) (h6 : (M 52 0 x1) < (M 30 0 (16 * j2 + 7))) (k : rX10_measure n 2 [.inr (10, 0), .inl (.int (i3 (x1 + 1)))] [] M = some res) : rX10_measure (n + 200) 2 [.inr (10, 0), .inl (.int (i3 x1))] [] M = some res := by
  refine eX10_measure_2 ?_
  refine iq h1 ?_
  refine ip (i3_in' h2 (by decide)) ?_
  try rw [ixm h2 (by decide)]
  refine ip h3 ?_
  refine ip (i3_in' h2 (by decide)) ?_
  try rw [ixm h2 (by decide)]
  refine ip (i3_in' h2 (by decide)) ?_
  try rw [ixm h2 (by decide)]
  refine ri (sX10_of _ h5 h4 rfl (by decide)) ?_
  refine eX10_measure_38 ?_
  refine ip h6 ?_
  rw [i3_one]
  exact k
theorem qX10_measure_2_2 {x1 : Nat} {M : am_M} {n : Nat} {res : am_O × am_M} {j2 : Nat} (h1 : ¬ ((M 10 0 14) ≤ (i3 x1))) (h2 : x1 < 40) (h3 : (M 48 0 x1) = 1) (h4 : j2 < 4) (h5 : (M 46 0 x1) = i3 j2) (h6 : ¬ ((M 52 0 x1) < (M 30 0 (16 * j2 + 7)))) (h7 : (M 30 0 (16 * j2 + 8)) < (M 52 0 x1)) (k : rX10_measure n 2 [.inr (10, 0), .inl (.int (i3 (x1 + 1)))] [] M = some res) : rX10_measure (n + 300) 2 [.inr (10, 0), .inl (.int (i3 x1))] [] M = some res := by
  refine eX10_measure_2 ?_
  refine iq h1 ?_
  refine ip (i3_in' h2 (by decide)) ?_
  try rw [ixm h2 (by decide)]
  refine ip h3 ?_
  refine ip (i3_in' h2 (by decide)) ?_
  try rw [ixm h2 (by decide)]
  refine ip (i3_in' h2 (by decide)) ?_
  try rw [ixm h2 (by decide)]
  refine ri (sX10_of _ h5 h4 rfl (by decide)) ?_
  refine eX10_measure_38 ?_
  refine iq h6 ?_
  refine ip (i3_in' h2 (by decide)) ?_
  try rw [ixm h2 (by decide)]
  refine ip (i3_in' h2 (by decide)) ?_
  try rw [ixm h2 (by decide)]
  refine ri (sX10_of _ h5 h4 rfl (by decide)) ?_
  refine eX10_measure_59 ?_
  refine ip h7 ?_
  rw [i3_one]
  exact k
theorem qX10_measure_2_3 {x1 : Nat} {M : am_M} {n : Nat} {res : am_O × am_M} {j2 : Nat} {v2 : Int32} {j4 : Nat} (h1 : ¬ ((M 10 0 14) ≤ (i3 x1))) (h2 : x1 < 40) (h3 : (M 48 0 x1) = 1) (h4 : j2 < 4) (h5 : (M 46 0 x1) = i3 j2) (h6 : ¬ ((M 52 0 x1) < (M 30 0 (16 * j2 + 7)))) (h7 : ¬ ((M 30 0 (16 * j2 + 8)) < (M 52 0 x1))) (h8 : fX10_absorbance [.inl (.int (M 10 0 44))] M = am_rI v2 M) (h9 : j4 < 240) (h10 : ((6 * (i3 x1)) + (M 56 0 x1)) = i3 j4) (k : rX10_measure n 2 [.inr (10, 0), .inl (.int (i3 (x1 + 1)))] [] (am_put (am_put M 55 0 j4 v2) 56 0 x1 ((M 56 0 x1) + 1)) = some res) : rX10_measure (n + 400) 2 [.inr (10, 0), .inl (.int (i3 x1))] [] M = some res := by
  refine eX10_measure_2 ?_
  refine iq h1 ?_
  refine ip (i3_in' h2 (by decide)) ?_
  try rw [ixm h2 (by decide)]
  refine ip h3 ?_
  refine ip (i3_in' h2 (by decide)) ?_
  try rw [ixm h2 (by decide)]
  refine ip (i3_in' h2 (by decide)) ?_
  try rw [ixm h2 (by decide)]
  refine ri (sX10_of _ h5 h4 rfl (by decide)) ?_
  refine eX10_measure_38 ?_
  refine iq h6 ?_
  refine ip (i3_in' h2 (by decide)) ?_
  try rw [ixm h2 (by decide)]
  refine ip (i3_in' h2 (by decide)) ?_
  try rw [ixm h2 (by decide)]
  refine ri (sX10_of _ h5 h4 rfl (by decide)) ?_
  refine eX10_measure_59 ?_
  refine iq h7 ?_
  refine ip (i3_in' h2 (by decide)) ?_
  try rw [ixm h2 (by decide)]
  refine ri h8 ?_
  refine eX10_measure_84 ?_
  refine ip (ixi h10 h9 (by decide)) ?_
  try rw [ixn h10 h9 (by decide)]
  refine ip (i3_in' h2 (by decide)) ?_
  try rw [ixm h2 (by decide)]
  refine ip (i3_in' h2 (by decide)) ?_
  try rw [ixm h2 (by decide)]
  rw [i3_one]
  exact k
theorem qX10_measure_2_4 {x1 : Nat} {M : am_M} {n : Nat} {res : am_O × am_M} (h1 : ¬ ((M 10 0 14) ≤ (i3 x1))) (h2 : x1 < 40) (h3 : ¬ ((M 48 0 x1) = 1)) (k : rX10_measure n 2 [.inr (10, 0), .inl (.int (i3 (x1 + 1)))] [] M = some res) : rX10_measure (n + 100) 2 [.inr (10, 0), .inl (.int (i3 x1))] [] M = some res := by
  refine eX10_measure_2 ?_
  refine iq h1 ?_
  refine ip (i3_in' h2 (by decide)) ?_
  try rw [ixm h2 (by decide)]
  refine iq h3 ?_
  rw [i3_one]
  exact k
theorem qX1_addReading_0 {x0 : Nat} {x1 : Int32} {M : am_M} (h1 : 6 ≤ (M 1 x0 1)) : fX1_addReading [.inr (1, x0), .inl (.int x1)] M = am_rV M := by
  rw [eX1_addReading]
  refine eX1_addReading_0 ?_
  refine ip h1 ?_
  all_goals rfl
theorem qX1_addReading_1 {x0 : Nat} {x1 : Int32} {M : am_M} {j1 : Nat} (h1 : ¬ (6 ≤ (M 1 x0 1))) (h2 : j1 < 6) (h3 : (M 1 x0 1) = i3 j1) : fX1_addReading [.inr (1, x0), .inl (.int x1)] M = am_rV (am_put (am_put M 13 x0 j1 x1) 1 x0 1 ((M 1 x0 1) + 1)) := by
  rw [eX1_addReading]
  refine eX1_addReading_0 ?_
  refine iq h1 ?_
  refine ip (ixi h3 h2 (by decide)) ?_
  try rw [ixn h3 h2 (by decide)]
  all_goals rfl
