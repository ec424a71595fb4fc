/-! ===== the ways through the methods ===== -/
theorem qX9_rounded_0 {x0 : Int64} {x1 : Int64} {M : am_M} (h1 : (lg_cmp x1 0) ≤ 0) : fX9_rounded [.inl (.long x0), .inl (.long x1)] M = am_rJ 0 M := by
  rw [eX9_rounded]
  refine eX9_rounded_0 ?_
  refine ip h1 ?_
  all_goals rfl
theorem qX9_rounded_1 {x0 : Int64} {x1 : Int64} {M : am_M} {v1 : Int64} (h1 : ¬ ((lg_cmp x1 0) ≤ 0)) (h2 : fJ9_floorDiv_f86c9 [.inl (.long ((2 * x0) + x1)), .inl (.long (2 * x1))] M = am_rJ v1 M) : fX9_rounded [.inl (.long x0), .inl (.long x1)] M = am_rJ v1 M := by
  rw [eX9_rounded]
  refine eX9_rounded_0 ?_
  refine iq h1 ?_
  refine rj h2 ?_
  refine eX9_rounded_21 ?_
  all_goals rfl
theorem qJ9_floorDiv_f86c9_0 {x0 : Int64} {x1 : Int64} {M : am_M} (h1 : ¬ (x1 = 0)) (h2 : 0 ≤ (lg_cmp (x0 ^^^ x1) 0)) : fJ9_floorDiv_f86c9 [.inl (.long x0), .inl (.long x1)] M = am_rJ (x0 / x1) M := by
  rw [eJ9_floorDiv_f86c9]
  refine eJ9_floorDiv_f86c9_0 ?_
  refine iq h1 ?_
  refine ip h2 ?_
  all_goals rfl
theorem qJ9_floorDiv_f86c9_1 {x0 : Int64} {x1 : Int64} {M : am_M} (h1 : ¬ (x1 = 0)) (h2 : ¬ (0 ≤ (lg_cmp (x0 ^^^ x1) 0))) (h3 : (lg_cmp ((x0 / x1) * x1) x0) = 0) : fJ9_floorDiv_f86c9 [.inl (.long x0), .inl (.long x1)] M = am_rJ (x0 / x1) M := by
  rw [eJ9_floorDiv_f86c9]
  refine eJ9_floorDiv_f86c9_0 ?_
  refine iq h1 ?_
  refine iq h2 ?_
  refine ip h3 ?_
  all_goals rfl
theorem qJ9_floorDiv_f86c9_2 {x0 : Int64} {x1 : Int64} {M : am_M} (h1 : ¬ (x1 = 0)) (h2 : ¬ (0 ≤ (lg_cmp (x0 ^^^ x1) 0))) (h3 : ¬ ((lg_cmp ((x0 / x1) * x1) x0) = 0)) : fJ9_floorDiv_f86c9 [.inl (.long x0), .inl (.long x1)] M = am_rJ ((x0 / x1) - 1) M := by
  rw [eJ9_floorDiv_f86c9]
  refine eJ9_floorDiv_f86c9_0 ?_
  refine iq h1 ?_
  refine iq h2 ?_
  refine iq h3 ?_
  all_goals rfl
theorem qX10_rounded_0 {x0 : Int64} {x1 : Int64} {M : am_M} {v1 : Int64} (h1 : (lg_cmp x1 0) ≤ 0) (h2 : fX10_floor [.inl (.long (((-2) * x0) - x1)), .inl (.long ((-2) * x1))] M = am_rJ v1 M) : fX10_rounded [.inl (.long x0), .inl (.long x1)] M = am_rJ v1 M := by
  rw [eX10_rounded]
  refine eX10_rounded_0 ?_
  refine ip h1 ?_
  refine rj h2 ?_
  refine eX10_rounded_39 ?_
  all_goals rfl
theorem qX10_rounded_1 {x0 : Int64} {x1 : Int64} {M : am_M} {v1 : Int64} (h1 : ¬ ((lg_cmp x1 0) ≤ 0)) (h2 : fX10_floor [.inl (.long ((2 * x0) + x1)), .inl (.long (2 * x1))] M = am_rJ v1 M) : fX10_rounded [.inl (.long x0), .inl (.long x1)] M = am_rJ v1 M := by
  rw [eX10_rounded]
  refine eX10_rounded_0 ?_
  refine iq h1 ?_
  refine rj h2 ?_
  refine eX10_rounded_21 ?_
  refine eX10_rounded_39 ?_
  all_goals rfl
theorem qX10_floor_0 {x0 : Int64} {x1 : Int64} {M : am_M} (h1 : ¬ (x1 = 0)) (h2 : (lg_cmp (x0 - x0 / x1 * x1) 0) = 0) : fX10_floor [.inl (.long x0), .inl (.long x1)] M = am_rJ (x0 / x1) M := by
  rw [eX10_floor]
  refine eX10_floor_0 ?_
  refine iq h1 ?_
  refine iq h1 ?_
  refine ip h2 ?_
  all_goals rfl
theorem qX10_floor_1 {x0 : Int64} {x1 : Int64} {M : am_M} (h1 : ¬ (x1 = 0)) (h2 : ¬ ((lg_cmp (x0 - x0 / x1 * x1) 0) = 0)) (h3 : 0 ≤ (lg_cmp x0 0)) (h4 : 0 ≤ (lg_cmp x1 0)) : fX10_floor [.inl (.long x0), .inl (.long x1)] M = am_rJ (x0 / x1) M := by
  rw [eX10_floor]
  refine eX10_floor_0 ?_
  refine iq h1 ?_
  refine iq h1 ?_
  refine iq h2 ?_
  refine ip h3 ?_
  refine ip h4 ?_
  all_goals rfl
theorem qX10_floor_2 {x0 : Int64} {x1 : Int64} {M : am_M} (h1 : ¬ (x1 = 0)) (h2 : ¬ ((lg_cmp (x0 - x0 / x1 * x1) 0) = 0)) (h3 : 0 ≤ (lg_cmp x0 0)) (h4 : ¬ (0 ≤ (lg_cmp x1 0))) : fX10_floor [.inl (.long x0), .inl (.long x1)] M = am_rJ ((x0 / x1) - 1) M := by
  rw [eX10_floor]
  refine eX10_floor_0 ?_
  refine iq h1 ?_
  refine iq h1 ?_
  refine iq h2 ?_
  refine ip h3 ?_
  refine iq h4 ?_
  all_goals rfl
theorem qX10_floor_3 {x0 : Int64} {x1 : Int64} {M : am_M} (h1 : ¬ (x1 = 0)) (h2 : ¬ ((lg_cmp (x0 - x0 / x1 * x1) 0) = 0)) (h3 : ¬ (0 ≤ (lg_cmp x0 0))) (h4 : 0 ≤ (lg_cmp x1 0)) : fX10_floor [.inl (.long x0), .inl (.long x1)] M = am_rJ ((x0 / x1) - 1) M := by
  rw [eX10_floor]
  refine eX10_floor_0 ?_
  refine iq h1 ?_
  refine iq h1 ?_
  refine iq h2 ?_
  refine iq h3 ?_
  refine ip h4 ?_
  all_goals rfl
theorem qX10_floor_4 {x0 : Int64} {x1 : Int64} {M : am_M} (h1 : ¬ (x1 = 0)) (h2 : ¬ ((lg_cmp (x0 - x0 / x1 * x1) 0) = 0)) (h3 : ¬ (0 ≤ (lg_cmp x0 0))) (h4 : ¬ (0 ≤ (lg_cmp x1 0))) : fX10_floor [.inl (.long x0), .inl (.long x1)] M = am_rJ (x0 / x1) M := by
  rw [eX10_floor]
  refine eX10_floor_0 ?_
  refine iq h1 ?_
  refine iq h1 ?_
  refine iq h2 ?_
  refine iq h3 ?_
  refine iq h4 ?_
  all_goals rfl
theorem qX6_formulaOf_0 {x0 : Nat} {x1 : Nat} {x2 : Int32} {M : am_M} (h1 : ¬ (1 ≤ x2 ∧ x2 ≤ (Int32.ofNat 6))) : fX6_formulaOf [.inr (6, x0), .inr (13, x1), .inl (.int x2)] M = am_rJ 0 M := by
  rw [eX6_formulaOf]
  refine eX6_formulaOf_0 ?_
  refine ri (sX9_isWithin _ _ _ _) ?_
  refine eX6_formulaOf_7 ?_
  refine ip (bi_f h1) ?_
  all_goals rfl
theorem qX6_formulaOf_1 {x0 : Nat} {x1 : Nat} {x2 : Int32} {M : am_M} {v1 : Int64} (h1 : 1 ≤ x2 ∧ x2 ≤ (Int32.ofNat 6)) (h2 : (M 18 x0 9) = 1) (h3 : fX6_rateOf [.inr (13, x1), .inl (.int x2)] M = am_rJ v1 M) : fX6_formulaOf [.inr (6, x0), .inr (13, x1), .inl (.int x2)] M = am_rJ v1 M := by
  rw [eX6_formulaOf]
  refine eX6_formulaOf_0 ?_
  refine ri (sX9_isWithin _ _ _ _) ?_
  refine eX6_formulaOf_7 ?_
  refine iq (fun e => bi_0.mp e h1) ?_
  refine ip h2 ?_
  refine rj h3 ?_
  refine eX6_formulaOf_28 ?_
  all_goals rfl
theorem qX6_formulaOf_2 {x0 : Nat} {x1 : Nat} {x2 : Int32} {M : am_M} {j1 : Nat} (h1 : 1 ≤ x2 ∧ x2 ≤ (Int32.ofNat 6)) (h2 : ¬ ((M 18 x0 9) = 1)) (h3 : j1 < 6) (h4 : (x2 - 1) = i3 j1) (h5 : (M 18 x0 9) = 0) : fX6_formulaOf [.inr (6, x0), .inr (13, x1), .inl (.int x2)] M = am_rJ (Int32.toInt64 (M 13 x1 j1)) M := by
  rw [eX6_formulaOf]
  refine eX6_formulaOf_0 ?_
  refine ri (sX9_isWithin _ _ _ _) ?_
  refine eX6_formulaOf_7 ?_
  refine iq (fun e => bi_0.mp e h1) ?_
  refine iq h2 ?_
  refine ip (ixi h4 h3 (by decide)) ?_
  try rw [ixn h4 h3 (by decide)]
  refine ip h5 ?_
  all_goals rfl
theorem qX6_formulaOf_3 {x0 : Nat} {x1 : Nat} {x2 : Int32} {M : am_M} {j1 : Nat} (h1 : 1 ≤ x2 ∧ x2 ≤ (Int32.ofNat 6)) (h2 : ¬ ((M 18 x0 9) = 1)) (h3 : j1 < 6) (h4 : (x2 - 1) = i3 j1) (h5 : ¬ ((M 18 x0 9) = 0)) : fX6_formulaOf [.inr (6, x0), .inr (13, x1), .inl (.int x2)] M = am_rJ (Int32.toInt64 ((M 13 x1 j1) - (M 13 x1 0))) M := by
  rw [eX6_formulaOf]
  refine eX6_formulaOf_0 ?_
  refine ri (sX9_isWithin _ _ _ _) ?_
  refine eX6_formulaOf_7 ?_
  refine iq (fun e => bi_0.mp e h1) ?_
  refine iq h2 ?_
  refine ip (ixi h4 h3 (by decide)) ?_
  try rw [ixn h4 h3 (by decide)]
  refine iq h5 ?_
  all_goals rfl
theorem qX6_rateOf_0 {x0 : Nat} {x1 : Int32} {M : am_M} {res : am_O × am_M} (k : rX6_rateOf 99500 14 [.inr (13, x0), .inl (.int x1), .inl (.long 0), am_D, .inl (.long 0), am_D, .inl (.long 0), am_D, .inl (.long 0), am_D, .inl (.int 0)] [] M = some res) : fX6_rateOf [.inr (13, x0), .inl (.int x1)] M = some res := by
  rw [eX6_rateOf]
  refine eX6_rateOf_0 ?_
  refine eX6_rateOf_2 ?_
  refine eX6_rateOf_5 ?_
  refine eX6_rateOf_8 ?_
  refine eX6_rateOf_11 ?_
  exact k
theorem mX6_rateOf {n m pc : Nat} {ls st : List am_V} {M : am_M} {res : am_O × am_M} (h : rX6_rateOf n pc ls st M = some res) (hm : n ≤ m) : rX6_rateOf m pc ls st M = some res := by
  have h2 := am_run_mono_add h (m - n)
  rw [show n + (m - n) = m by omega] at h2
  exact h2
theorem qX6_rateOf_14_0 {x0 : Nat} {x1 : Int32} {x2 : Int64} {x4 : Int64} {x6 : Int64} {x8 : Int64} {x10 : Nat} {M : am_M} {n : Nat} {v1 : Int64} (h1 : x1 ≤ (i3 x10)) (h2 : fX9_rounded [.inl (.long (1000 * (((Int32.toInt64 x1) * x8) - (x2 * x6)))), .inl (.long (((Int32.toInt64 x1) * x4) - (x2 * x2)))] M = am_rJ v1 M) : rX6_rateOf (n + 200) 14 [.inr (13, x0), .inl (.int x1), .inl (.long x2), am_D, .inl (.long x4), am_D, .inl (.long x6), am_D, .inl (.long x8), am_D, .inl (.int (i3 x10))] [] M = am_rJ v1 M := by
  refine eX6_rateOf_14 ?_
  refine ip h1 ?_
  refine rj h2 ?_
  refine eX6_rateOf_101 ?_
  all_goals rfl
theorem qX6_rateOf_14_1 {x0 : Nat} {x1 : Int32} {x2 : Int64} {x4 : Int64} {x6 : Int64} {x8 : Int64} {x10 : Nat} {M : am_M} {n : Nat} {v1 : Int64} (h1 : ¬ (x1 ≤ (i3 x10))) (h2 : (Int32.ofNat 6) ≤ (i3 x10)) (h3 : fX9_rounded [.inl (.long (1000 * (((Int32.toInt64 x1) * x8) - (x2 * x6)))), .inl (.long (((Int32.toInt64 x1) * x4) - (x2 * x2)))] M = am_rJ v1 M) : rX6_rateOf (n + 200) 14 [.inr (13, x0), .inl (.int x1), .inl (.long x2), am_D, .inl (.long x4), am_D, .inl (.long x6), am_D, .inl (.long x8), am_D, .inl (.int (i3 x10))] [] M = am_rJ v1 M := by
  refine eX6_rateOf_14 ?_
  refine iq h1 ?_
  refine ip h2 ?_
  refine rj h3 ?_
  refine eX6_rateOf_101 ?_
  all_goals rfl
theorem qX6_rateOf_14_2 {x0 : Nat} {x1 : Int32} {x2 : Int64} {x4 : Int64} {x6 : Int64} {x8 : Int64} {x10 : Nat} {M : am_M} {n : Nat} {res : am_O × am_M} (h1 : ¬ (x1 ≤ (i3 x10))) (h2 : ¬ ((Int32.ofNat 6) ≤ (i3 x10))) (h3 : x10 < 6) (k : rX6_rateOf n 14 [.inr (13, x0), .inl (.int x1), .inl (.long (x2 + (Int32.toInt64 (i3 x10)))), am_D, .inl (.long (x4 + ((Int32.toInt64 (i3 x10)) * (Int32.toInt64 (i3 x10))))), am_D, .inl (.long (x6 + (Int32.toInt64 (M 13 x0 x10)))), am_D, .inl (.long (x8 + ((Int32.toInt64 (i3 x10)) * (Int32.toInt64 (M 13 x0 x10))))), am_D, .inl (.int (i3 (x10 + 1)))] [] M = some res) : rX6_rateOf (n + 500) 14 [.inr (13, x0), .inl (.int x1), .inl (.long x2), am_D, .inl (.long x4), am_D, .inl (.long x6), am_D, .inl (.long x8), am_D, .inl (.int (i3 x10))] [] M = some res := by
  refine eX6_rateOf_14 ?_
  refine iq h1 ?_
  refine iq h2 ?_
  refine eX6_rateOf_33 ?_
  refine eX6_rateOf_45 ?_
  refine ip (i3_in' h3 (by decide)) ?_
  try rw [ixm h3 (by decide)]
  refine eX6_rateOf_55 ?_
  refine ip (i3_in' h3 (by decide)) ?_
  try rw [ixm h3 (by decide)]
  refine eX6_rateOf_69 ?_
  rw [i3_one]
  exact k
theorem qX10_resultOf_0 {x1 : Int32} {M : am_M} {j1 : Nat} {j3 : Nat} {j4 : Nat} (h1 : j1 < 40) (h2 : x1 = i3 j1) (h3 : j3 < 4) (h4 : (M 46 0 j1) = i3 j3) (h5 : (M 30 0 (16 * j3 + 9)) = 0) (h6 : j4 < 240) (h7 : (((6 * x1) + (M 56 0 j1)) - 1) = i3 j4) : fX10_resultOf [.inr (10, 0), .inl (.int x1)] M = am_rJ (Int32.toInt64 (M 55 0 j4)) M := by
  rw [eX10_resultOf]
  refine eX10_resultOf_0 ?_
  refine ip (ixi h2 h1 (by decide)) ?_
  try rw [ixn h2 h1 (by decide)]
  refine ip (ixi h2 h1 (by decide)) ?_
  try rw [ixn h2 h1 (by decide)]
  refine ri (sX10_of _ h4 h3 rfl (by decide)) ?_
  refine eX10_resultOf_19 ?_
  refine ip h5 ?_
  refine ip (ixi h7 h6 (by decide)) ?_
  try rw [ixn h7 h6 (by decide)]
  all_goals rfl
theorem qX10_resultOf_1 {x1 : Int32} {M : am_M} {j1 : Nat} {j3 : Nat} {j4 : Nat} {j5 : Nat} (h1 : j1 < 40) (h2 : x1 = i3 j1) (h3 : j3 < 4) (h4 : (M 46 0 j1) = i3 j3) (h5 : ¬ ((M 30 0 (16 * j3 + 9)) = 0)) (h6 : (M 30 0 (16 * j3 + 9)) = 2) (h7 : j4 < 240) (h8 : (((6 * x1) + (M 56 0 j1)) - 1) = i3 j4) (h9 : j5 < 240) (h10 : (6 * x1) = i3 j5) : fX10_resultOf [.inr (10, 0), .inl (.int x1)] M = am_rJ (Int32.toInt64 ((M 55 0 j4) - (M 55 0 j5))) M := by
  rw [eX10_resultOf]
  refine eX10_resultOf_0 ?_
  refine ip (ixi h2 h1 (by decide)) ?_
  try rw [ixn h2 h1 (by decide)]
  refine ip (ixi h2 h1 (by decide)) ?_
  try rw [ixn h2 h1 (by decide)]
  refine ri (sX10_of _ h4 h3 rfl (by decide)) ?_
  refine eX10_resultOf_19 ?_
  refine iq h5 ?_
  refine ip h6 ?_
  refine ip (ixi h8 h7 (by decide)) ?_
  try rw [ixn h8 h7 (by decide)]
  refine ip (ixi h10 h9 (by decide)) ?_
  try rw [ixn h10 h9 (by decide)]
  all_goals rfl
theorem qX10_resultOf_2 {x1 : Int32} {M : am_M} {res : am_O × am_M} {j1 : Nat} {j3 : Nat} (h1 : j1 < 40) (h2 : x1 = i3 j1) (h3 : j3 < 4) (h4 : (M 46 0 j1) = i3 j3) (h5 : ¬ ((M 30 0 (16 * j3 + 9)) = 0)) (h6 : ¬ ((M 30 0 (16 * j3 + 9)) = 2)) (k : rX10_resultOf 99400 84 [.inr (10, 0), .inl (.int x1), .inl (.int (M 56 0 j1)), .inl (.int (M 30 0 (16 * j3 + 9))), .inl (.long 0), am_D, .inl (.long 0), am_D, .inl (.long 0), am_D, .inl (.long 0), am_D, .inl (.int 0)] [] M = some res) : fX10_resultOf [.inr (10, 0), .inl (.int x1)] M = some res := by
  rw [eX10_resultOf]
  refine eX10_resultOf_0 ?_
  refine ip (ixi h2 h1 (by decide)) ?_
  try rw [ixn h2 h1 (by decide)]
  refine ip (ixi h2 h1 (by decide)) ?_
  try rw [ixn h2 h1 (by decide)]
  refine ri (sX10_of _ h4 h3 rfl (by decide)) ?_
  refine eX10_resultOf_19 ?_
  refine iq h5 ?_
  refine iq h6 ?_
  refine eX10_resultOf_72 ?_
  refine eX10_resultOf_75 ?_
  refine eX10_resultOf_78 ?_
  refine eX10_resultOf_81 ?_
  exact k
theorem mX10_resultOf {n m pc : Nat} {ls st : List am_V} {M : am_M} {res : am_O × am_M} (h : rX10_resultOf n pc ls st M = some res) (hm : n ≤ m) : rX10_resultOf m pc ls st M = some res := by
  have h2 := am_run_mono_add h (m - n)
  rw [show n + (m - n) = m by omega] at h2
  exact h2
theorem qX10_resultOf_84_0 {x1 : Int32} {x2 : Int32} {x3 : Int32} {x4 : Int64} {x6 : Int64} {x8 : Int64} {x10 : Int64} {x12 : Nat} {M : am_M} {n : Nat} {v1 : Int64} (h1 : x2 ≤ (i3 x12)) (h2 : fX10_rounded [.inl (.long (1000 * (((Int32.toInt64 x2) * x8) - (x4 * x6)))), .inl (.long (((Int32.toInt64 x2) * x10) - (x4 * x4)))] M = am_rJ v1 M) : rX10_resultOf (n + 200) 84 [.inr (10, 0), .inl (.int x1), .inl (.int x2), .inl (.int x3), .inl (.long x4), am_D, .inl (.long x6), am_D, .inl (.long x8), am_D, .inl (.long x10), am_D, .inl (.int (i3 x12))] [] M = am_rJ v1 M := by
  refine eX10_resultOf_84 ?_
  refine ip h1 ?_
  refine rj h2 ?_
  refine eX10_resultOf_184 ?_
  all_goals rfl
theorem qX10_resultOf_84_1 {x1 : Int32} {x2 : Int32} {x3 : Int32} {x4 : Int64} {x6 : Int64} {x8 : Int64} {x10 : Int64} {x12 : Nat} {M : am_M} {n : Nat} {res : am_O × am_M} {j1 : Nat} (h1 : ¬ (x2 ≤ (i3 x12))) (h2 : j1 < 240) (h3 : ((6 * x1) + (i3 x12)) = i3 j1) (k : rX10_resultOf n 84 [.inr (10, 0), .inl (.int x1), .inl (.int x2), .inl (.int x3), .inl (.long (x4 + (Int32.toInt64 (i3 x12)))), am_D, .inl (.long (x6 + (Int32.toInt64 (M 55 0 j1)))), am_D, .inl (.long (x8 + ((Int32.toInt64 (i3 x12)) * (Int32.toInt64 (M 55 0 j1))))), am_D, .inl (.long (x10 + (Int32.toInt64 ((i3 x12) * (i3 x12))))), am_D, .inl (.int (i3 (x12 + 1)))] [] M = some res) : rX10_resultOf (n + 500) 84 [.inr (10, 0), .inl (.int x1), .inl (.int x2), .inl (.int x3), .inl (.long x4), am_D, .inl (.long x6), am_D, .inl (.long x8), am_D, .inl (.long x10), am_D, .inl (.int (i3 x12))] [] M = some res := by
  refine eX10_resultOf_84 ?_
  refine iq h1 ?_
  refine eX10_resultOf_98 ?_
  refine eX10_resultOf_109 ?_
  refine ip (ixi h3 h2 (by decide)) ?_
  try rw [ixn h3 h2 (by decide)]
  refine eX10_resultOf_127 ?_
  refine ip (ixi h3 h2 (by decide)) ?_
  try rw [ixn h3 h2 (by decide)]
  refine eX10_resultOf_149 ?_
  rw [i3_one]
  exact k
theorem qX6_valueAt_0 {x0 : Nat} {x1 : Int64} {x2 : Int32} {M : am_M} {v1 : Int64} (h1 : fX0_valueAt [.inr (0, x0), .inl (.long x1)] M = am_rJ v1 M) (h2 : x2 = 0) : fX6_valueAt [.inr (6, x0), .inl (.long x1), .inl (.int x2)] M = am_rJ v1 M := by
  rw [eX6_valueAt]
  refine eX6_valueAt_0 ?_
  refine rj h1 ?_
  refine eX6_valueAt_8 ?_
  refine ip h2 ?_
  all_goals rfl
theorem qX6_valueAt_1 {x0 : Nat} {x1 : Int64} {x2 : Int32} {M : am_M} {v1 : Int64} (h1 : fX0_valueAt [.inr (0, x0), .inl (.long x1)] M = am_rJ v1 M) (h2 : ¬ (x2 = 0)) : fX6_valueAt [.inr (6, x0), .inl (.long x1), .inl (.int x2)] M = am_rJ (v1 * (Int32.toInt64 (M 18 x0 13))) M := by
  rw [eX6_valueAt]
  refine eX6_valueAt_0 ?_
  refine rj h1 ?_
  refine eX6_valueAt_8 ?_
  refine iq h2 ?_
  all_goals rfl
theorem qX0_valueAt_0 {x0 : Nat} {x1 : Int64} {M : am_M} {res : am_O × am_M} (h1 : 2 ≤ (M 0 x0 2)) (k : rX0_valueAt 99900 12 [.inr (0, x0), .inl (.long x1), am_D, .inl (.int 1), am_D, am_D, am_D] [] M = some res) : fX0_valueAt [.inr (0, x0), .inl (.long x1)] M = some res := by
  rw [eX0_valueAt]
  refine eX0_valueAt_0 ?_
  refine ip h1 ?_
  exact k
theorem qX0_valueAt_1 {x0 : Nat} {x1 : Int64} {M : am_M} (h1 : ¬ (2 ≤ (M 0 x0 2))) : fX0_valueAt [.inr (0, x0), .inl (.long x1)] M = am_rJ 0 M := by
  rw [eX0_valueAt]
  refine eX0_valueAt_0 ?_
  refine iq h1 ?_
  all_goals rfl
theorem mX0_valueAt {n m pc : Nat} {ls st : List am_V} {M : am_M} {res : am_O × am_M} (h : rX0_valueAt n pc ls st M = some res) (hm : n ≤ m) : rX0_valueAt m pc ls st M = some res := by
  have h2 := am_run_mono_add h (m - n)
  rw [show n + (m - n) = m by omega] at h2
  exact h2
theorem qX0_valueAt_12_0 {x0 : Nat} {x1 : Int64} {x3 : Nat} {M : am_M} {n : Nat} {j1 : Nat} {v2 : Int64} (h1 : ((M 0 x0 2) - 1) ≤ (i3 x3)) (h2 : j1 < 5) (h3 : ((i3 x3) - 1) = i3 j1) (h4 : x3 < 5) (h5 : fX9_rounded [.inl (.long ((x1 - (Int32.toInt64 (M 11 x0 j1))) * (Int32.toInt64 ((M 12 x0 x3) - (M 12 x0 j1))))), .inl (.long (Int32.toInt64 ((M 11 x0 x3) - (M 11 x0 j1))))] M = am_rJ v2 M) : rX0_valueAt (n + 200) 12 [.inr (0, x0), .inl (.long x1), am_D, .inl (.int (i3 x3)), am_D, am_D, am_D] [] M = am_rJ ((Int32.toInt64 (M 12 x0 j1)) + v2) M := by
  refine eX0_valueAt_12 ?_
  refine ip h1 ?_
  refine ip (ixi h3 h2 (by decide)) ?_
  try rw [ixn h3 h2 (by decide)]
  refine ip (i3_in' h4 (by decide)) ?_
  try rw [ixm h4 (by decide)]
  refine ip (ixi h3 h2 (by decide)) ?_
  try rw [ixn h3 h2 (by decide)]
  refine ip (ixi h3 h2 (by decide)) ?_
  try rw [ixn h3 h2 (by decide)]
  refine ip (i3_in' h4 (by decide)) ?_
  try rw [ixm h4 (by decide)]
  refine ip (ixi h3 h2 (by decide)) ?_
  try rw [ixn h3 h2 (by decide)]
  refine rj h5 ?_
  refine eX0_valueAt_101 ?_
  all_goals rfl
theorem qX0_valueAt_12_1 {x0 : Nat} {x1 : Int64} {x3 : Nat} {M : am_M} {n : Nat} {j1 : Nat} {v2 : Int64} (h1 : ¬ (((M 0 x0 2) - 1) ≤ (i3 x3))) (h2 : x3 < 5) (h3 : (lg_cmp x1 (Int32.toInt64 (M 11 x0 x3))) ≤ 0) (h4 : j1 < 5) (h5 : ((i3 x3) - 1) = i3 j1) (h6 : fX9_rounded [.inl (.long ((x1 - (Int32.toInt64 (M 11 x0 j1))) * (Int32.toInt64 ((M 12 x0 x3) - (M 12 x0 j1))))), .inl (.long (Int32.toInt64 ((M 11 x0 x3) - (M 11 x0 j1))))] M = am_rJ v2 M) : rX0_valueAt (n + 200) 12 [.inr (0, x0), .inl (.long x1), am_D, .inl (.int (i3 x3)), am_D, am_D, am_D] [] M = am_rJ ((Int32.toInt64 (M 12 x0 j1)) + v2) M := by
  refine eX0_valueAt_12 ?_
  refine iq h1 ?_
  refine ip (i3_in' h2 (by decide)) ?_
  try rw [ixm h2 (by decide)]
  refine ip h3 ?_
  refine ip (ixi h5 h4 (by decide)) ?_
  try rw [ixn h5 h4 (by decide)]
  refine ip (i3_in' h2 (by decide)) ?_
  try rw [ixm h2 (by decide)]
  refine ip (ixi h5 h4 (by decide)) ?_
  try rw [ixn h5 h4 (by decide)]
  refine ip (ixi h5 h4 (by decide)) ?_
  try rw [ixn h5 h4 (by decide)]
  refine ip (i3_in' h2 (by decide)) ?_
  try rw [ixm h2 (by decide)]
  refine ip (ixi h5 h4 (by decide)) ?_
  try rw [ixn h5 h4 (by decide)]
  refine rj h6 ?_
  refine eX0_valueAt_101 ?_
  all_goals rfl
theorem qX0_valueAt_12_2 {x0 : Nat} {x1 : Int64} {x3 : Nat} {M : am_M} {n : Nat} {res : am_O × am_M} (h1 : ¬ (((M 0 x0 2) - 1) ≤ (i3 x3))) (h2 : x3 < 5) (h3 : ¬ ((lg_cmp x1 (Int32.toInt64 (M 11 x0 x3))) ≤ 0)) (k : rX0_valueAt n 12 [.inr (0, x0), .inl (.long x1), am_D, .inl (.int (i3 (x3 + 1))), am_D, am_D, am_D] [] M = some res) : rX0_valueAt (n + 100) 12 [.inr (0, x0), .inl (.long x1), am_D, .inl (.int (i3 x3)), am_D, am_D, am_D] [] M = some res := by
  refine eX0_valueAt_12 ?_
  refine iq h1 ?_
  refine ip (i3_in' h2 (by decide)) ?_
  try rw [ixm h2 (by decide)]
  refine iq h3 ?_
  rw [i3_one]
  exact k
theorem qX10_byCurve_0 {x1 : Int32} {x2 : Int64} {M : am_M} {res : am_O × am_M} (k : rX10_byCurve 99900 5 [.inr (10, 0), .inl (.int x1), .inl (.long x2), am_D, .inl (.int (5 * x1)), am_D, am_D, am_D, am_D] [] M = some res) : fX10_byCurve [.inr (10, 0), .inl (.int x1), .inl (.long x2)] M = some res := by
  rw [eX10_byCurve]
  refine eX10_byCurve_0 ?_
  exact k
theorem mX10_byCurve {n m pc : Nat} {ls st : List am_V} {M : am_M} {res : am_O × am_M} (h : rX10_byCurve n pc ls st M = some res) (hm : n ≤ m) : rX10_byCurve m pc ls st M = some res := by
  have h2 := am_run_mono_add h (m - n)
  rw [show n + (m - n) = m by omega] at h2
  exact h2
theorem qX10_byCurve_5_0 {x1 : Int32} {x2 : Int64} {x4 : Nat} {M : am_M} {n : Nat} {j1 : Nat} {j2 : Nat} {v3 : Int64} (h1 : j1 < 4) (h2 : x1 = i3 j1) (h3 : ((5 * x1) + (M 34 0 j1)) ≤ ((i3 x4) + 2)) (h4 : j2 < 20) (h5 : ((i3 x4) + 1) = i3 j2) (h6 : x4 < 20) (h7 : fX10_rounded [.inl (.long ((x2 - (Int32.toInt64 (M 32 0 x4))) * (Int32.toInt64 ((M 33 0 j2) - (M 33 0 x4))))), .inl (.long (Int32.toInt64 ((M 32 0 j2) - (M 32 0 x4))))] M = am_rJ v3 M) : rX10_byCurve (n + 200) 5 [.inr (10, 0), .inl (.int x1), .inl (.long x2), am_D, .inl (.int (i3 x4)), am_D, am_D, am_D, am_D] [] M = am_rJ ((Int32.toInt64 (M 33 0 x4)) + v3) M := by
  refine eX10_byCurve_5 ?_
  refine ip (ixi h2 h1 (by decide)) ?_
  try rw [ixn h2 h1 (by decide)]
  refine ip h3 ?_
  refine ip (ixi h5 h4 (by decide)) ?_
  try rw [ixn h5 h4 (by decide)]
  refine ip (i3_in' h6 (by decide)) ?_
  try rw [ixm h6 (by decide)]
  refine ip (ixi h5 h4 (by decide)) ?_
  try rw [ixn h5 h4 (by decide)]
  refine ip (i3_in' h6 (by decide)) ?_
  try rw [ixm h6 (by decide)]
  refine ip (i3_in' h6 (by decide)) ?_
  try rw [ixm h6 (by decide)]
  refine ip (i3_in' h6 (by decide)) ?_
  try rw [ixm h6 (by decide)]
  refine rj h7 ?_
  refine eX10_byCurve_109 ?_
  all_goals rfl
theorem qX10_byCurve_5_1 {x1 : Int32} {x2 : Int64} {x4 : Nat} {M : am_M} {n : Nat} {j1 : Nat} {j2 : Nat} {v3 : Int64} (h1 : j1 < 4) (h2 : x1 = i3 j1) (h3 : ¬ (((5 * x1) + (M 34 0 j1)) ≤ ((i3 x4) + 2))) (h4 : j2 < 20) (h5 : ((i3 x4) + 1) = i3 j2) (h6 : (lg_cmp x2 (Int32.toInt64 (M 32 0 j2))) ≤ 0) (h7 : x4 < 20) (h8 : fX10_rounded [.inl (.long ((x2 - (Int32.toInt64 (M 32 0 x4))) * (Int32.toInt64 ((M 33 0 j2) - (M 33 0 x4))))), .inl (.long (Int32.toInt64 ((M 32 0 j2) - (M 32 0 x4))))] M = am_rJ v3 M) : rX10_byCurve (n + 200) 5 [.inr (10, 0), .inl (.int x1), .inl (.long x2), am_D, .inl (.int (i3 x4)), am_D, am_D, am_D, am_D] [] M = am_rJ ((Int32.toInt64 (M 33 0 x4)) + v3) M := by
  refine eX10_byCurve_5 ?_
  refine ip (ixi h2 h1 (by decide)) ?_
  try rw [ixn h2 h1 (by decide)]
  refine iq h3 ?_
  refine ip (ixi h5 h4 (by decide)) ?_
  try rw [ixn h5 h4 (by decide)]
  refine ip h6 ?_
  refine ip (ixi h5 h4 (by decide)) ?_
  try rw [ixn h5 h4 (by decide)]
  refine ip (i3_in' h7 (by decide)) ?_
  try rw [ixm h7 (by decide)]
  refine ip (ixi h5 h4 (by decide)) ?_
  try rw [ixn h5 h4 (by decide)]
  refine ip (i3_in' h7 (by decide)) ?_
  try rw [ixm h7 (by decide)]
  refine ip (i3_in' h7 (by decide)) ?_
  try rw [ixm h7 (by decide)]
  refine ip (i3_in' h7 (by decide)) ?_
  try rw [ixm h7 (by decide)]
  refine rj h8 ?_
  refine eX10_byCurve_109 ?_
  all_goals rfl
theorem qX10_byCurve_5_2 {x1 : Int32} {x2 : Int64} {x4 : Nat} {M : am_M} {n : Nat} {res : am_O × am_M} {j1 : Nat} {j2 : Nat} (h1 : j1 < 4) (h2 : x1 = i3 j1) (h3 : ¬ (((5 * x1) + (M 34 0 j1)) ≤ ((i3 x4) + 2))) (h4 : j2 < 20) (h5 : ((i3 x4) + 1) = i3 j2) (h6 : ¬ ((lg_cmp x2 (Int32.toInt64 (M 32 0 j2))) ≤ 0)) (k : rX10_byCurve n 5 [.inr (10, 0), .inl (.int x1), .inl (.long x2), am_D, .inl (.int (i3 (x4 + 1))), am_D, am_D, am_D, am_D] [] M = some res) : rX10_byCurve (n + 100) 5 [.inr (10, 0), .inl (.int x1), .inl (.long x2), am_D, .inl (.int (i3 x4)), am_D, am_D, am_D, am_D] [] M = some res := by
  refine eX10_byCurve_5 ?_
  refine ip (ixi h2 h1 (by decide)) ?_
  try rw [ixn h2 h1 (by decide)]
  refine iq h3 ?_
  refine ip (ixi h5 h4 (by decide)) ?_
  try rw [ixn h5 h4 (by decide)]
  refine iq h6 ?_
  rw [i3_one]
  exact k
theorem qX9_judge_0 {x1 : Int32} {x2 : Nat} {M : am_M} {j1 : Nat} {j2 : Nat} {v3 : Int64} {v4 : Int64} {M5 : am_M} (h1 : j1 < 40) (h2 : x1 = i3 j1) (h3 : j2 < 4) (h4 : (M 4 j1 1) = i3 j2) (h5 : fX6_formulaOf [.inr (6, j2), .inr (13, x2), .inl (.int (M 1 x2 1))] M = am_rJ v3 M) (h6 : fX6_valueAt [.inr (6, j2), .inl (.long v3), .inl (.int (am_b (M 4 j1 6)))] M = am_rJ v4 M) (h7 : (lg_cmp (Int32.toInt64 (lmt v4)) v4) = 0) (h8 : (am_b (M 1 x2 6)) = 0) (h9 : (M 4 j1 5) = 1) (h10 : ¬ ((M 18 j2 12) = 2 ∧ ¬ (((((if (M 18 j2 10) ≤ (lmt v4) then 0 else 1 : Int32) + (if (lmt v4) ≤ (M 18 j2 11) then 0 else 2 : Int32)) ||| ((if (M 4 j1 5) ≤ 1 then 0 else 8 : Int32) + (if am_b (M 4 j1 6) = 0 then 0 else 16 : Int32))) ||| 0) &&& 2) = 0 ∨ (M 18 j2 12) = 1 ∧ ¬ (((((if (M 18 j2 10) ≤ (lmt v4) then 0 else 1 : Int32) + (if (lmt v4) ≤ (M 18 j2 11) then 0 else 2 : Int32)) ||| ((if (M 4 j1 5) ≤ 1 then 0 else 8 : Int32) + (if am_b (M 4 j1 6) = 0 then 0 else 16 : Int32))) ||| 0) &&& 3) = 0)) (h11 : fX3_append [.inr (3, 0), .inl (.int x1)] (am_put (am_put (am_put (am_put (am_put (am_put (am_put M 1 x2 5 (-1)) 1 x2 9 0) 1 x2 8 3) 4 j1 3 2) 4 j1 7 (-1)) 4 j1 8 (lmt v4)) 4 j1 9 ((((if (M 18 j2 10) ≤ (lmt v4) then 0 else 1 : Int32) + (if (lmt v4) ≤ (M 18 j2 11) then 0 else 2 : Int32)) ||| ((if (M 4 j1 5) ≤ 1 then 0 else 8 : Int32) + (if am_b (M 4 j1 6) = 0 then 0 else 16 : Int32))) ||| 0)) = am_rV M5) : fX9_judge [.inr (9, 0), .inl (.int x1), .inr (1, x2)] M = am_rV M5 := by
  rw [eX9_judge]
  refine eX9_judge_0 ?_
  refine ip (ixi h2 h1 (by decide)) ?_
  try rw [ixn h2 h1 (by decide)]
  refine ip (ixi h4 h3 (by decide)) ?_
  try rw [ixn h4 h3 (by decide)]
  refine rj h5 ?_
  refine eX9_judge_37 ?_
  refine rj h6 ?_
  refine eX9_judge_50 ?_
  refine ri (sX9_limited _ _) ?_
  refine eX9_judge_57 ?_
  refine ri (sX6_limitFlags _ _ _) ?_
  refine eX9_judge_66 ?_
  refine ri (sX4_runFlags _ _) ?_
  refine eX9_judge_70 ?_
  refine ip h7 ?_
  refine ip h8 ?_
  refine ip h9 ?_
  refine ri (sX6_asksAgain _ _ _) ?_
  refine eX9_judge_112 ?_
  try simp only [am_put_nk, am_put_nf, not_false_eq_true, Nat.reduceEqDiff]
  refine ip (bi_f h10) ?_
  refine rv h11 ?_
  refine eX9_judge_141 ?_
  refine ip h8 ?_
  refine eX9_judge_156 ?_
  all_goals rfl
theorem qX9_judge_1 {x1 : Int32} {x2 : Nat} {M : am_M} {j1 : Nat} {j2 : Nat} {v3 : Int64} {v4 : Int64} {M5 : am_M} (h1 : j1 < 40) (h2 : x1 = i3 j1) (h3 : j2 < 4) (h4 : (M 4 j1 1) = i3 j2) (h5 : fX6_formulaOf [.inr (6, j2), .inr (13, x2), .inl (.int (M 1 x2 1))] M = am_rJ v3 M) (h6 : fX6_valueAt [.inr (6, j2), .inl (.long v3), .inl (.int (am_b (M 4 j1 6)))] M = am_rJ v4 M) (h7 : (lg_cmp (Int32.toInt64 (lmt v4)) v4) = 0) (h8 : (am_b (M 1 x2 6)) = 0) (h9 : (M 4 j1 5) = 1) (h10 : (M 18 j2 12) = 2 ∧ ¬ (((((if (M 18 j2 10) ≤ (lmt v4) then 0 else 1 : Int32) + (if (lmt v4) ≤ (M 18 j2 11) then 0 else 2 : Int32)) ||| ((if (M 4 j1 5) ≤ 1 then 0 else 8 : Int32) + (if am_b (M 4 j1 6) = 0 then 0 else 16 : Int32))) ||| 0) &&& 2) = 0 ∨ (M 18 j2 12) = 1 ∧ ¬ (((((if (M 18 j2 10) ≤ (lmt v4) then 0 else 1 : Int32) + (if (lmt v4) ≤ (M 18 j2 11) then 0 else 2 : Int32)) ||| ((if (M 4 j1 5) ≤ 1 then 0 else 8 : Int32) + (if am_b (M 4 j1 6) = 0 then 0 else 16 : Int32))) ||| 0) &&& 3) = 0) (h11 : fX4_waitAgain [.inr (4, j1), .inl (.int (bi ((M 18 j2 12) = 2)))] (am_put (am_put (am_put M 1 x2 5 (-1)) 1 x2 9 0) 1 x2 8 3) = am_rV M5) : fX9_judge [.inr (9, 0), .inl (.int x1), .inr (1, x2)] M = am_rV M5 := by
  rw [eX9_judge]
  refine eX9_judge_0 ?_
  refine ip (ixi h2 h1 (by decide)) ?_
  try rw [ixn h2 h1 (by decide)]
  refine ip (ixi h4 h3 (by decide)) ?_
  try rw [ixn h4 h3 (by decide)]
  refine rj h5 ?_
  refine eX9_judge_37 ?_
  refine rj h6 ?_
  refine eX9_judge_50 ?_
  refine ri (sX9_limited _ _) ?_
  refine eX9_judge_57 ?_
  refine ri (sX6_limitFlags _ _ _) ?_
  refine eX9_judge_66 ?_
  refine ri (sX4_runFlags _ _) ?_
  refine eX9_judge_70 ?_
  refine ip h7 ?_
  refine ip h8 ?_
  refine ip h9 ?_
  refine ri (sX6_asksAgain _ _ _) ?_
  refine eX9_judge_112 ?_
  try simp only [am_put_nk, am_put_nf, not_false_eq_true, Nat.reduceEqDiff]
  refine iq (fun e => bi_0.mp e h10) ?_
  refine ri (sX6_dilutes _ _) ?_
  refine eX9_judge_121 ?_
  try simp only [am_put_nk, am_put_nf, not_false_eq_true, Nat.reduceEqDiff]
  refine rv h11 ?_
  refine eX9_judge_124 ?_
  all_goals rfl
theorem qX9_judge_2 {x1 : Int32} {x2 : Nat} {M : am_M} {j1 : Nat} {j2 : Nat} {v3 : Int64} {v4 : Int64} {M5 : am_M} (h1 : j1 < 40) (h2 : x1 = i3 j1) (h3 : j2 < 4) (h4 : (M 4 j1 1) = i3 j2) (h5 : fX6_formulaOf [.inr (6, j2), .inr (13, x2), .inl (.int (M 1 x2 1))] M = am_rJ v3 M) (h6 : fX6_valueAt [.inr (6, j2), .inl (.long v3), .inl (.int (am_b (M 4 j1 6)))] M = am_rJ v4 M) (h7 : (lg_cmp (Int32.toInt64 (lmt v4)) v4) = 0) (h8 : (am_b (M 1 x2 6)) = 0) (h9 : ¬ ((M 4 j1 5) = 1)) (h10 : fX3_append [.inr (3, 0), .inl (.int x1)] (am_put (am_put (am_put (am_put (am_put (am_put (am_put M 1 x2 5 (-1)) 1 x2 9 0) 1 x2 8 3) 4 j1 3 2) 4 j1 7 (-1)) 4 j1 8 (lmt v4)) 4 j1 9 ((((if (M 18 j2 10) ≤ (lmt v4) then 0 else 1 : Int32) + (if (lmt v4) ≤ (M 18 j2 11) then 0 else 2 : Int32)) ||| ((if (M 4 j1 5) ≤ 1 then 0 else 8 : Int32) + (if am_b (M 4 j1 6) = 0 then 0 else 16 : Int32))) ||| 0)) = am_rV M5) : fX9_judge [.inr (9, 0), .inl (.int x1), .inr (1, x2)] M = am_rV M5 := by
  rw [eX9_judge]
  refine eX9_judge_0 ?_
  refine ip (ixi h2 h1 (by decide)) ?_
  try rw [ixn h2 h1 (by decide)]
  refine ip (ixi h4 h3 (by decide)) ?_
  try rw [ixn h4 h3 (by decide)]
  refine rj h5 ?_
  refine eX9_judge_37 ?_
  refine rj h6 ?_
  refine eX9_judge_50 ?_
  refine ri (sX9_limited _ _) ?_
  refine eX9_judge_57 ?_
  refine ri (sX6_limitFlags _ _ _) ?_
  refine eX9_judge_66 ?_
  refine ri (sX4_runFlags _ _) ?_
  refine eX9_judge_70 ?_
  refine ip h7 ?_
  refine ip h8 ?_
  refine iq h9 ?_
  refine rv h10 ?_
  refine eX9_judge_141 ?_
  refine ip h8 ?_
  refine eX9_judge_156 ?_
  all_goals rfl
theorem qX9_judge_3 {x1 : Int32} {x2 : Nat} {M : am_M} {j1 : Nat} {j2 : Nat} {v3 : Int64} {v4 : Int64} {M5 : am_M} {M6 : am_M} (h1 : j1 < 40) (h2 : x1 = i3 j1) (h3 : j2 < 4) (h4 : (M 4 j1 1) = i3 j2) (h5 : fX6_formulaOf [.inr (6, j2), .inr (13, x2), .inl (.int (M 1 x2 1))] M = am_rJ v3 M) (h6 : fX6_valueAt [.inr (6, j2), .inl (.long v3), .inl (.int (am_b (M 4 j1 6)))] M = am_rJ v4 M) (h7 : (lg_cmp (Int32.toInt64 (lmt v4)) v4) = 0) (h8 : ¬ ((am_b (M 1 x2 6)) = 0)) (h9 : fX3_append [.inr (3, 0), .inl (.int x1)] (am_put (am_put (am_put (am_put (am_put (am_put (am_put M 1 x2 5 (-1)) 1 x2 9 0) 1 x2 8 3) 4 j1 3 2) 4 j1 7 (-1)) 4 j1 8 (lmt v4)) 4 j1 9 ((((if (M 18 j2 10) ≤ (lmt v4) then 0 else 1 : Int32) + (if (lmt v4) ≤ (M 18 j2 11) then 0 else 2 : Int32)) ||| ((if (M 4 j1 5) ≤ 1 then 0 else 8 : Int32) + (if am_b (M 4 j1 6) = 0 then 0 else 16 : Int32))) ||| 0)) = am_rV M5) (h10 : fX2_append [.inr (2, j2), .inl (.int (lmt v4))] M5 = am_rV M6) : fX9_judge [.inr (9, 0), .inl (.int x1), .inr (1, x2)] M = am_rV M6 := by
  rw [eX9_judge]
  refine eX9_judge_0 ?_
  refine ip (ixi h2 h1 (by decide)) ?_
  try rw [ixn h2 h1 (by decide)]
  refine ip (ixi h4 h3 (by decide)) ?_
  try rw [ixn h4 h3 (by decide)]
  refine rj h5 ?_
  refine eX9_judge_37 ?_
  refine rj h6 ?_
  refine eX9_judge_50 ?_
  refine ri (sX9_limited _ _) ?_
  refine eX9_judge_57 ?_
  refine ri (sX6_limitFlags _ _ _) ?_
  refine eX9_judge_66 ?_
  refine ri (sX4_runFlags _ _) ?_
  refine eX9_judge_70 ?_
  refine ip h7 ?_
  refine iq h8 ?_
  refine rv h9 ?_
  refine eX9_judge_141 ?_
  refine iq h8 ?_
  refine rv h10 ?_
  refine eX9_judge_156 ?_
  all_goals rfl
theorem qX9_judge_4 {x1 : Int32} {x2 : Nat} {M : am_M} {j1 : Nat} {j2 : Nat} {v3 : Int64} {v4 : Int64} {M5 : am_M} (h1 : j1 < 40) (h2 : x1 = i3 j1) (h3 : j2 < 4) (h4 : (M 4 j1 1) = i3 j2) (h5 : fX6_formulaOf [.inr (6, j2), .inr (13, x2), .inl (.int (M 1 x2 1))] M = am_rJ v3 M) (h6 : fX6_valueAt [.inr (6, j2), .inl (.long v3), .inl (.int (am_b (M 4 j1 6)))] M = am_rJ v4 M) (h7 : ¬ ((lg_cmp (Int32.toInt64 (lmt v4)) v4) = 0)) (h8 : (am_b (M 1 x2 6)) = 0) (h9 : (M 4 j1 5) = 1) (h10 : ¬ ((M 18 j2 12) = 2 ∧ ¬ (((((if (M 18 j2 10) ≤ (lmt v4) then 0 else 1 : Int32) + (if (lmt v4) ≤ (M 18 j2 11) then 0 else 2 : Int32)) ||| ((if (M 4 j1 5) ≤ 1 then 0 else 8 : Int32) + (if am_b (M 4 j1 6) = 0 then 0 else 16 : Int32))) ||| 4) &&& 2) = 0 ∨ (M 18 j2 12) = 1 ∧ ¬ (((((if (M 18 j2 10) ≤ (lmt v4) then 0 else 1 : Int32) + (if (lmt v4) ≤ (M 18 j2 11) then 0 else 2 : Int32)) ||| ((if (M 4 j1 5) ≤ 1 then 0 else 8 : Int32) + (if am_b (M 4 j1 6) = 0 then 0 else 16 : Int32))) ||| 4) &&& 3) = 0)) (h11 : fX3_append [.inr (3, 0), .inl (.int x1)] (am_put (am_put (am_put (am_put (am_put (am_put (am_put M 1 x2 5 (-1)) 1 x2 9 0) 1 x2 8 3) 4 j1 3 2) 4 j1 7 (-1)) 4 j1 8 (lmt v4)) 4 j1 9 ((((if (M 18 j2 10) ≤ (lmt v4) then 0 else 1 : Int32) + (if (lmt v4) ≤ (M 18 j2 11) then 0 else 2 : Int32)) ||| ((if (M 4 j1 5) ≤ 1 then 0 else 8 : Int32) + (if am_b (M 4 j1 6) = 0 then 0 else 16 : Int32))) ||| 4)) = am_rV M5) : fX9_judge [.inr (9, 0), .inl (.int x1), .inr (1, x2)] M = am_rV M5 := by
  rw [eX9_judge]
  refine eX9_judge_0 ?_
  refine ip (ixi h2 h1 (by decide)) ?_
  try rw [ixn h2 h1 (by decide)]
  refine ip (ixi h4 h3 (by decide)) ?_
  try rw [ixn h4 h3 (by decide)]
  refine rj h5 ?_
  refine eX9_judge_37 ?_
  refine rj h6 ?_
  refine eX9_judge_50 ?_
  refine ri (sX9_limited _ _) ?_
  refine eX9_judge_57 ?_
  refine ri (sX6_limitFlags _ _ _) ?_
  refine eX9_judge_66 ?_
  refine ri (sX4_runFlags _ _) ?_
  refine eX9_judge_70 ?_
  refine iq h7 ?_
  refine ip h8 ?_
  refine ip h9 ?_
  refine ri (sX6_asksAgain _ _ _) ?_
  refine eX9_judge_112 ?_
  try simp only [am_put_nk, am_put_nf, not_false_eq_true, Nat.reduceEqDiff]
  refine ip (bi_f h10) ?_
  refine rv h11 ?_
  refine eX9_judge_141 ?_
  refine ip h8 ?_
  refine eX9_judge_156 ?_
  all_goals rfl
theorem qX9_judge_5 {x1 : Int32} {x2 : Nat} {M : am_M} {j1 : Nat} {j2 : Nat} {v3 : Int64} {v4 : Int64} {M5 : am_M} (h1 : j1 < 40) (h2 : x1 = i3 j1) (h3 : j2 < 4) (h4 : (M 4 j1 1) = i3 j2) (h5 : fX6_formulaOf [.inr (6, j2), .inr (13, x2), .inl (.int (M 1 x2 1))] M = am_rJ v3 M) (h6 : fX6_valueAt [.inr (6, j2), .inl (.long v3), .inl (.int (am_b (M 4 j1 6)))] M = am_rJ v4 M) (h7 : ¬ ((lg_cmp (Int32.toInt64 (lmt v4)) v4) = 0)) (h8 : (am_b (M 1 x2 6)) = 0) (h9 : (M 4 j1 5) = 1) (h10 : (M 18 j2 12) = 2 ∧ ¬ (((((if (M 18 j2 10) ≤ (lmt v4) then 0 else 1 : Int32) + (if (lmt v4) ≤ (M 18 j2 11) then 0 else 2 : Int32)) ||| ((if (M 4 j1 5) ≤ 1 then 0 else 8 : Int32) + (if am_b (M 4 j1 6) = 0 then 0 else 16 : Int32))) ||| 4) &&& 2) = 0 ∨ (M 18 j2 12) = 1 ∧ ¬ (((((if (M 18 j2 10) ≤ (lmt v4) then 0 else 1 : Int32) + (if (lmt v4) ≤ (M 18 j2 11) then 0 else 2 : Int32)) ||| ((if (M 4 j1 5) ≤ 1 then 0 else 8 : Int32) + (if am_b (M 4 j1 6) = 0 then 0 else 16 : Int32))) ||| 4) &&& 3) = 0) (h11 : fX4_waitAgain [.inr (4, j1), .inl (.int (bi ((M 18 j2 12) = 2)))] (am_put (am_put (am_put M 1 x2 5 (-1)) 1 x2 9 0) 1 x2 8 3) = am_rV M5) : fX9_judge [.inr (9, 0), .inl (.int x1), .inr (1, x2)] M = am_rV M5 := by
  rw [eX9_judge]
  refine eX9_judge_0 ?_
  refine ip (ixi h2 h1 (by decide)) ?_
  try rw [ixn h2 h1 (by decide)]
  refine ip (ixi h4 h3 (by decide)) ?_
  try rw [ixn h4 h3 (by decide)]
  refine rj h5 ?_
  refine eX9_judge_37 ?_
  refine rj h6 ?_
  refine eX9_judge_50 ?_
  refine ri (sX9_limited _ _) ?_
  refine eX9_judge_57 ?_
  refine ri (sX6_limitFlags _ _ _) ?_
  refine eX9_judge_66 ?_
  refine ri (sX4_runFlags _ _) ?_
  refine eX9_judge_70 ?_
  refine iq h7 ?_
  refine ip h8 ?_
  refine ip h9 ?_
  refine ri (sX6_asksAgain _ _ _) ?_
  refine eX9_judge_112 ?_
  try simp only [am_put_nk, am_put_nf, not_false_eq_true, Nat.reduceEqDiff]
  refine iq (fun e => bi_0.mp e h10) ?_
  refine ri (sX6_dilutes _ _) ?_
  refine eX9_judge_121 ?_
  try simp only [am_put_nk, am_put_nf, not_false_eq_true, Nat.reduceEqDiff]
  refine rv h11 ?_
  refine eX9_judge_124 ?_
  all_goals rfl
theorem qX9_judge_6 {x1 : Int32} {x2 : Nat} {M : am_M} {j1 : Nat} {j2 : Nat} {v3 : Int64} {v4 : Int64} {M5 : am_M} (h1 : j1 < 40) (h2 : x1 = i3 j1) (h3 : j2 < 4) (h4 : (M 4 j1 1) = i3 j2) (h5 : fX6_formulaOf [.inr (6, j2), .inr (13, x2), .inl (.int (M 1 x2 1))] M = am_rJ v3 M) (h6 : fX6_valueAt [.inr (6, j2), .inl (.long v3), .inl (.int (am_b (M 4 j1 6)))] M = am_rJ v4 M) (h7 : ¬ ((lg_cmp (Int32.toInt64 (lmt v4)) v4) = 0)) (h8 : (am_b (M 1 x2 6)) = 0) (h9 : ¬ ((M 4 j1 5) = 1)) (h10 : fX3_append [.inr (3, 0), .inl (.int x1)] (am_put (am_put (am_put (am_put (am_put (am_put (am_put M 1 x2 5 (-1)) 1 x2 9 0) 1 x2 8 3) 4 j1 3 2) 4 j1 7 (-1)) 4 j1 8 (lmt v4)) 4 j1 9 ((((if (M 18 j2 10) ≤ (lmt v4) then 0 else 1 : Int32) + (if (lmt v4) ≤ (M 18 j2 11) then 0 else 2 : Int32)) ||| ((if (M 4 j1 5) ≤ 1 then 0 else 8 : Int32) + (if am_b (M 4 j1 6) = 0 then 0 else 16 : Int32))) ||| 4)) = am_rV M5) : fX9_judge [.inr (9, 0), .inl (.int x1), .inr (1, x2)] M = am_rV M5 := by
  rw [eX9_judge]
  refine eX9_judge_0 ?_
  refine ip (ixi h2 h1 (by decide)) ?_
  try rw [ixn h2 h1 (by decide)]
  refine ip (ixi h4 h3 (by decide)) ?_
  try rw [ixn h4 h3 (by decide)]
  refine rj h5 ?_
  refine eX9_judge_37 ?_
  refine rj h6 ?_
  refine eX9_judge_50 ?_
  refine ri (sX9_limited _ _) ?_
  refine eX9_judge_57 ?_
  refine ri (sX6_limitFlags _ _ _) ?_
  refine eX9_judge_66 ?_
  refine ri (sX4_runFlags _ _) ?_
  refine eX9_judge_70 ?_
  refine iq h7 ?_
  refine ip h8 ?_
  refine iq h9 ?_
  refine rv h10 ?_
  refine eX9_judge_141 ?_
  refine ip h8 ?_
  refine eX9_judge_156 ?_
  all_goals rfl
theorem qX9_judge_7 {x1 : Int32} {x2 : Nat} {M : am_M} {j1 : Nat} {j2 : Nat} {v3 : Int64} {v4 : Int64} {M5 : am_M} {M6 : am_M} (h1 : j1 < 40) (h2 : x1 = i3 j1) (h3 : j2 < 4) (h4 : (M 4 j1 1) = i3 j2) (h5 : fX6_formulaOf [.inr (6, j2), .inr (13, x2), .inl (.int (M 1 x2 1))] M = am_rJ v3 M) (h6 : fX6_valueAt [.inr (6, j2), .inl (.long v3), .inl (.int (am_b (M 4 j1 6)))] M = am_rJ v4 M) (h7 : ¬ ((lg_cmp (Int32.toInt64 (lmt v4)) v4) = 0)) (h8 : ¬ ((am_b (M 1 x2 6)) = 0)) (h9 : fX3_append [.inr (3, 0), .inl (.int x1)] (am_put (am_put (am_put (am_put (am_put (am_put (am_put M 1 x2 5 (-1)) 1 x2 9 0) 1 x2 8 3) 4 j1 3 2) 4 j1 7 (-1)) 4 j1 8 (lmt v4)) 4 j1 9 ((((if (M 18 j2 10) ≤ (lmt v4) then 0 else 1 : Int32) + (if (lmt v4) ≤ (M 18 j2 11) then 0 else 2 : Int32)) ||| ((if (M 4 j1 5) ≤ 1 then 0 else 8 : Int32) + (if am_b (M 4 j1 6) = 0 then 0 else 16 : Int32))) ||| 4)) = am_rV M5) (h10 : fX2_append [.inr (2, j2), .inl (.int (lmt v4))] M5 = am_rV M6) : fX9_judge [.inr (9, 0), .inl (.int x1), .inr (1, x2)] M = am_rV M6 := by
  rw [eX9_judge]
  refine eX9_judge_0 ?_
  refine ip (ixi h2 h1 (by decide)) ?_
  try rw [ixn h2 h1 (by decide)]
  refine ip (ixi h4 h3 (by decide)) ?_
  try rw [ixn h4 h3 (by decide)]
  refine rj h5 ?_
  refine eX9_judge_37 ?_
  refine rj h6 ?_
  refine eX9_judge_50 ?_
  refine ri (sX9_limited _ _) ?_
  refine eX9_judge_57 ?_
  refine ri (sX6_limitFlags _ _ _) ?_
  refine eX9_judge_66 ?_
  refine ri (sX4_runFlags _ _) ?_
  refine eX9_judge_70 ?_
  refine iq h7 ?_
  refine iq h8 ?_
  refine rv h9 ?_
  refine eX9_judge_141 ?_
  refine iq h8 ?_
  refine rv h10 ?_
  refine eX9_judge_156 ?_
  all_goals rfl
theorem qX10_judge_0 {x1 : Int32} {M : am_M} {res : am_O × am_M} {j1 : Nat} {v2 : Int64} {v3 : Int64} (h1 : j1 < 40) (h2 : x1 = i3 j1) (h3 : fX10_resultOf [.inr (10, 0), .inl (.int x1)] M = am_rJ v2 M) (h4 : fX10_byCurve [.inr (10, 0), .inl (.int (M 46 0 j1)), .inl (.long v2)] M = am_rJ v3 M) (h5 : (am_b (M 53 0 j1)) = 0) (h6 : (lg_cmp (v3 * (Int32.toInt64 1)) 1000000000) ≤ 0) (k : rX10_judge 99600 68 [.inr (10, 0), .inl (.int x1), .inl (.int (M 46 0 j1)), .inl (.long (v3 * (Int32.toInt64 1))), am_D, am_D, am_D] [.inl (.int (if 0 ≤ (lg_cmp (v3 * (Int32.toInt64 1)) (-1000000000)) then (Int64.toInt32 (v3 * (Int32.toInt64 1))) else (-1000000000) : Int32))] M = some res) : fX10_judge [.inr (10, 0), .inl (.int x1)] M = some res := by
  rw [eX10_judge]
  refine eX10_judge_0 ?_
  refine ip (ixi h2 h1 (by decide)) ?_
  try rw [ixn h2 h1 (by decide)]
  refine rj h3 ?_
  refine eX10_judge_14 ?_
  refine rj h4 ?_
  refine eX10_judge_17 ?_
  refine ip (ixi h2 h1 (by decide)) ?_
  try rw [ixn h2 h1 (by decide)]
  refine ip h5 ?_
  refine eX10_judge_37 ?_
  refine ip h6 ?_
  refine dm (K := fun v => rX10_judge _ 68 [.inr (10, 0), .inl (.int x1), .inl (.int (M 46 0 j1)), .inl (.long (v3 * (Int32.toInt64 1))), am_D, am_D, am_D] (v :: []) M) ?_
  exact k
theorem qX10_judge_1 {x1 : Int32} {M : am_M} {res : am_O × am_M} {j1 : Nat} {v2 : Int64} {v3 : Int64} (h1 : j1 < 40) (h2 : x1 = i3 j1) (h3 : fX10_resultOf [.inr (10, 0), .inl (.int x1)] M = am_rJ v2 M) (h4 : fX10_byCurve [.inr (10, 0), .inl (.int (M 46 0 j1)), .inl (.long v2)] M = am_rJ v3 M) (h5 : (am_b (M 53 0 j1)) = 0) (h6 : ¬ ((lg_cmp (v3 * (Int32.toInt64 1)) 1000000000) ≤ 0)) (k : rX10_judge 99600 68 [.inr (10, 0), .inl (.int x1), .inl (.int (M 46 0 j1)), .inl (.long (v3 * (Int32.toInt64 1))), am_D, am_D, am_D] [.inl (.int 1000000000)] M = some res) : fX10_judge [.inr (10, 0), .inl (.int x1)] M = some res := by
  rw [eX10_judge]
  refine eX10_judge_0 ?_
  refine ip (ixi h2 h1 (by decide)) ?_
  try rw [ixn h2 h1 (by decide)]
  refine rj h3 ?_
  refine eX10_judge_14 ?_
  refine rj h4 ?_
  refine eX10_judge_17 ?_
  refine ip (ixi h2 h1 (by decide)) ?_
  try rw [ixn h2 h1 (by decide)]
  refine ip h5 ?_
  refine eX10_judge_37 ?_
  refine iq h6 ?_
  exact k
theorem qX10_judge_2 {x1 : Int32} {M : am_M} {res : am_O × am_M} {j1 : Nat} {v2 : Int64} {v3 : Int64} {j3 : Nat} (h1 : j1 < 40) (h2 : x1 = i3 j1) (h3 : fX10_resultOf [.inr (10, 0), .inl (.int x1)] M = am_rJ v2 M) (h4 : fX10_byCurve [.inr (10, 0), .inl (.int (M 46 0 j1)), .inl (.long v2)] M = am_rJ v3 M) (h5 : ¬ ((am_b (M 53 0 j1)) = 0)) (h6 : j3 < 4) (h7 : (M 46 0 j1) = i3 j3) (h8 : (lg_cmp (v3 * (Int32.toInt64 (M 30 0 (16 * j3 + 13)))) 1000000000) ≤ 0) (k : rX10_judge 99500 68 [.inr (10, 0), .inl (.int x1), .inl (.int (M 46 0 j1)), .inl (.long (v3 * (Int32.toInt64 (M 30 0 (16 * j3 + 13))))), am_D, am_D, am_D] [.inl (.int (if 0 ≤ (lg_cmp (v3 * (Int32.toInt64 (M 30 0 (16 * j3 + 13)))) (-1000000000)) then (Int64.toInt32 (v3 * (Int32.toInt64 (M 30 0 (16 * j3 + 13))))) else (-1000000000) : Int32))] M = some res) : fX10_judge [.inr (10, 0), .inl (.int x1)] M = some res := by
  rw [eX10_judge]
  refine eX10_judge_0 ?_
  refine ip (ixi h2 h1 (by decide)) ?_
  try rw [ixn h2 h1 (by decide)]
  refine rj h3 ?_
  refine eX10_judge_14 ?_
  refine rj h4 ?_
  refine eX10_judge_17 ?_
  refine ip (ixi h2 h1 (by decide)) ?_
  try rw [ixn h2 h1 (by decide)]
  refine iq h5 ?_
  refine ri (sX10_of _ h7 h6 rfl (by decide)) ?_
  refine eX10_judge_33 ?_
  refine eX10_judge_37 ?_
  refine ip h8 ?_
  refine dm (K := fun v => rX10_judge _ 68 [.inr (10, 0), .inl (.int x1), .inl (.int (M 46 0 j1)), .inl (.long (v3 * (Int32.toInt64 (M 30 0 (16 * j3 + 13))))), am_D, am_D, am_D] (v :: []) M) ?_
  exact k
theorem qX10_judge_3 {x1 : Int32} {M : am_M} {res : am_O × am_M} {j1 : Nat} {v2 : Int64} {v3 : Int64} {j3 : Nat} (h1 : j1 < 40) (h2 : x1 = i3 j1) (h3 : fX10_resultOf [.inr (10, 0), .inl (.int x1)] M = am_rJ v2 M) (h4 : fX10_byCurve [.inr (10, 0), .inl (.int (M 46 0 j1)), .inl (.long v2)] M = am_rJ v3 M) (h5 : ¬ ((am_b (M 53 0 j1)) = 0)) (h6 : j3 < 4) (h7 : (M 46 0 j1) = i3 j3) (h8 : ¬ ((lg_cmp (v3 * (Int32.toInt64 (M 30 0 (16 * j3 + 13)))) 1000000000) ≤ 0)) (k : rX10_judge 99500 68 [.inr (10, 0), .inl (.int x1), .inl (.int (M 46 0 j1)), .inl (.long (v3 * (Int32.toInt64 (M 30 0 (16 * j3 + 13))))), am_D, am_D, am_D] [.inl (.int 1000000000)] M = some res) : fX10_judge [.inr (10, 0), .inl (.int x1)] M = some res := by
  rw [eX10_judge]
  refine eX10_judge_0 ?_
  refine ip (ixi h2 h1 (by decide)) ?_
  try rw [ixn h2 h1 (by decide)]
  refine rj h3 ?_
  refine eX10_judge_14 ?_
  refine rj h4 ?_
  refine eX10_judge_17 ?_
  refine ip (ixi h2 h1 (by decide)) ?_
  try rw [ixn h2 h1 (by decide)]
  refine iq h5 ?_
  refine ri (sX10_of _ h7 h6 rfl (by decide)) ?_
  refine eX10_judge_33 ?_
  refine eX10_judge_37 ?_
  refine iq h8 ?_
  exact k
theorem mX10_judge {n m pc : Nat} {ls st : List am_V} {M : am_M} {res : am_O × am_M} (h : rX10_judge n pc ls st M = some res) (hm : n ≤ m) : rX10_judge m pc ls st M = some res := by
  have h2 := am_run_mono_add h (m - n)
  rw [show n + (m - n) = m by omega] at h2
  exact h2
theorem qX10_judge_68_0 {x1 : Int32} {x2 : Int32} {x3 : Int64} {y0 : Int32} {M : am_M} {n : Nat} {res : am_O × am_M} {j2 : Nat} {j4 : Nat} {M3 : am_M} (h1 : j2 < 4) (h2 : x2 = i3 j2) (h3 : j4 < 40) (h4 : x1 = i3 j4) (h5 : fX10_leave [.inr (10, 0), .inl (.int x1)] M = am_rV M3) (k : rX10_judge n 159 [.inr (10, 0), .inl (.int x1), .inl (.int x2), .inl (.long x3), am_D, .inl (.int y0), .inl (.int (((((if (M 30 0 (16 * j2 + 10)) ≤ y0 then 0 else 1 : Int32) + (if y0 ≤ (M 30 0 (16 * j2 + 11)) then 0 else 2 : Int32)) + (if (lg_cmp (Int32.toInt64 y0) x3) = 0 then 0 else 4 : Int32)) + (if (M 50 0 j4) = 2 then 8 else 0 : Int32)) + (if (am_b (M 53 0 j4)) = 0 then 0 else 16 : Int32)))] [] M3 = some res) : rX10_judge (n + 800) 68 [.inr (10, 0), .inl (.int x1), .inl (.int x2), .inl (.long x3), am_D, am_D, am_D] [.inl (.int y0)] M = some res := by
  refine eX10_judge_68 ?_
  refine ri (sX10_of _ h2 h1 rfl (by decide)) ?_
  refine eX10_judge_79 ?_
  refine dm (K := fun v => rX10_judge _ 87 [.inr (10, 0), .inl (.int x1), .inl (.int x2), .inl (.long x3), am_D, .inl (.int y0), am_D] (v :: []) M) ?_
  refine eX10_judge_87 ?_
  refine ri (sX10_of _ h2 h1 rfl (by decide)) ?_
  refine eX10_judge_96 ?_
  refine dm (K := fun v => rX10_judge _ 104 [.inr (10, 0), .inl (.int x1), .inl (.int x2), .inl (.long x3), am_D, .inl (.int y0), am_D] (v :: [.inl (.int (if (M 30 0 (16 * j2 + 10)) ≤ y0 then 0 else 1 : Int32))]) M) ?_
  refine eX10_judge_104 ?_
  refine dm (K := fun v => rX10_judge _ 118 [.inr (10, 0), .inl (.int x1), .inl (.int x2), .inl (.long x3), am_D, .inl (.int y0), am_D] (v :: [.inl (.int ((if (M 30 0 (16 * j2 + 10)) ≤ y0 then 0 else 1 : Int32) + (if y0 ≤ (M 30 0 (16 * j2 + 11)) then 0 else 2 : Int32)))]) M) ?_
  refine eX10_judge_118 ?_
  refine ip (ixi h4 h3 (by decide)) ?_
  try rw [ixn h4 h3 (by decide)]
  refine dm (K := fun v => rX10_judge _ 135 [.inr (10, 0), .inl (.int x1), .inl (.int x2), .inl (.long x3), am_D, .inl (.int y0), am_D] (v :: [.inl (.int (((if (M 30 0 (16 * j2 + 10)) ≤ y0 then 0 else 1 : Int32) + (if y0 ≤ (M 30 0 (16 * j2 + 11)) then 0 else 2 : Int32)) + (if (lg_cmp (Int32.toInt64 y0) x3) = 0 then 0 else 4 : Int32)))]) M) ?_
  refine eX10_judge_135 ?_
  refine ip (ixi h4 h3 (by decide)) ?_
  try rw [ixn h4 h3 (by decide)]
  refine dm (K := fun v => rX10_judge _ 151 [.inr (10, 0), .inl (.int x1), .inl (.int x2), .inl (.long x3), am_D, .inl (.int y0), am_D] (v :: [.inl (.int ((((if (M 30 0 (16 * j2 + 10)) ≤ y0 then 0 else 1 : Int32) + (if y0 ≤ (M 30 0 (16 * j2 + 11)) then 0 else 2 : Int32)) + (if (lg_cmp (Int32.toInt64 y0) x3) = 0 then 0 else 4 : Int32)) + (if (M 50 0 j4) = 2 then 8 else 0 : Int32)))]) M) ?_
  refine eX10_judge_151 ?_
  refine rv h5 ?_
  exact k
theorem qX10_judge_159_0 {x1 : Int32} {x2 : Int32} {x3 : Int64} {x5 : Int32} {x6 : Int32} {M : am_M} {n : Nat} {j1 : Nat} {j4 : Nat} {M3 : am_M} (h1 : j1 < 40) (h2 : x1 = i3 j1) (h3 : (am_b (M 54 0 j1)) = 0) (h4 : (M 50 0 j1) = 1) (h5 : j4 < 4) (h6 : x2 = i3 j4) (h7 : (M 30 0 (16 * j4 + 12)) = 2) (h8 : (x6 &&& 2) = 0) (h9 : (M 30 0 (16 * j4 + 12)) = 1) (h10 : (x6 &&& 3) = 0) (h11 : fX10_release [.inr (10, 0), .inl (.int x1), .inl (.int x5), .inl (.int x6)] M = am_rV M3) : rX10_judge (n + 400) 159 [.inr (10, 0), .inl (.int x1), .inl (.int x2), .inl (.long x3), am_D, .inl (.int x5), .inl (.int x6)] [] M = am_rV M3 := by
  refine eX10_judge_159 ?_
  refine ip (ixi h2 h1 (by decide)) ?_
  try rw [ixn h2 h1 (by decide)]
  refine ip h3 ?_
  refine ip (ixi h2 h1 (by decide)) ?_
  try rw [ixn h2 h1 (by decide)]
  refine ip h4 ?_
  refine ri (sX10_of _ h6 h5 rfl (by decide)) ?_
  refine eX10_judge_204 ?_
  refine ip h7 ?_
  refine ip h8 ?_
  refine ri (sX10_of _ h6 h5 rfl (by decide)) ?_
  refine eX10_judge_222 ?_
  refine ip h9 ?_
  refine ip h10 ?_
  refine rv h11 ?_
  refine eX10_judge_274 ?_
  all_goals rfl
theorem qX10_judge_159_1 {x1 : Int32} {x2 : Int32} {x3 : Int64} {x5 : Int32} {x6 : Int32} {M : am_M} {n : Nat} {j1 : Nat} {j4 : Nat} (h1 : j1 < 40) (h2 : x1 = i3 j1) (h3 : (am_b (M 54 0 j1)) = 0) (h4 : (M 50 0 j1) = 1) (h5 : j4 < 4) (h6 : x2 = i3 j4) (h7 : (M 30 0 (16 * j4 + 12)) = 2) (h8 : (x6 &&& 2) = 0) (h9 : (M 30 0 (16 * j4 + 12)) = 1) (h10 : ¬ ((x6 &&& 3) = 0)) (h11 : am_b (if (M 30 0 (16 * j4 + 12)) = 2 then 1 else 0 : Int32) = (if (M 30 0 (16 * j4 + 12)) = 2 then 1 else 0 : Int32)) : rX10_judge (n + 600) 159 [.inr (10, 0), .inl (.int x1), .inl (.int x2), .inl (.long x3), am_D, .inl (.int x5), .inl (.int x6)] [] M = am_rV (am_put (am_put M 48 0 j1 0) 53 0 j1 (if (M 30 0 (16 * j4 + 12)) = 2 then 1 else 0 : Int32)) := by
  refine eX10_judge_159 ?_
  refine ip (ixi h2 h1 (by decide)) ?_
  try rw [ixn h2 h1 (by decide)]
  refine ip h3 ?_
  refine ip (ixi h2 h1 (by decide)) ?_
  try rw [ixn h2 h1 (by decide)]
  refine ip h4 ?_
  refine ri (sX10_of _ h6 h5 rfl (by decide)) ?_
  refine eX10_judge_204 ?_
  refine ip h7 ?_
  refine ip h8 ?_
  refine ri (sX10_of _ h6 h5 rfl (by decide)) ?_
  refine eX10_judge_222 ?_
  refine ip h9 ?_
  refine iq h10 ?_
  refine ip (ixi h2 h1 (by decide)) ?_
  try rw [ixn h2 h1 (by decide)]
  refine ri (sX10_of _ h6 h5 rfl (by decide)) ?_
  refine eX10_judge_252 ?_
  try simp only [am_put_nk, am_put_nf, not_false_eq_true, Nat.reduceEqDiff]
  refine dm (K := fun v => rX10_judge _ 261 [.inr (10, 0), .inl (.int x1), .inl (.int x2), .inl (.long x3), am_D, .inl (.int x5), .inl (.int x6)] (v :: [.inl (.int x1), .inr (53, 0)]) (am_put M 48 0 j1 0)) ?_
  refine eX10_judge_261 ?_
  try simp only [am_put_nk, am_put_nf, not_false_eq_true, Nat.reduceEqDiff]
  refine ip ⟨(ixi h2 h1 (by decide)), h11⟩ ?_
  try rw [ixn h2 h1 (by decide)]
  refine eX10_judge_274 ?_
  try simp only [am_put_nk, am_put_nf, not_false_eq_true, Nat.reduceEqDiff]
  all_goals rfl
theorem qX10_judge_159_2 {x1 : Int32} {x2 : Int32} {x3 : Int64} {x5 : Int32} {x6 : Int32} {M : am_M} {n : Nat} {j1 : Nat} {j4 : Nat} {M3 : am_M} (h1 : j1 < 40) (h2 : x1 = i3 j1) (h3 : (am_b (M 54 0 j1)) = 0) (h4 : (M 50 0 j1) = 1) (h5 : j4 < 4) (h6 : x2 = i3 j4) (h7 : (M 30 0 (16 * j4 + 12)) = 2) (h8 : (x6 &&& 2) = 0) (h9 : ¬ ((M 30 0 (16 * j4 + 12)) = 1)) (h10 : fX10_release [.inr (10, 0), .inl (.int x1), .inl (.int x5), .inl (.int x6)] M = am_rV M3) : rX10_judge (n + 400) 159 [.inr (10, 0), .inl (.int x1), .inl (.int x2), .inl (.long x3), am_D, .inl (.int x5), .inl (.int x6)] [] M = am_rV M3 := by
  refine eX10_judge_159 ?_
  refine ip (ixi h2 h1 (by decide)) ?_
  try rw [ixn h2 h1 (by decide)]
  refine ip h3 ?_
  refine ip (ixi h2 h1 (by decide)) ?_
  try rw [ixn h2 h1 (by decide)]
  refine ip h4 ?_
  refine ri (sX10_of _ h6 h5 rfl (by decide)) ?_
  refine eX10_judge_204 ?_
  refine ip h7 ?_
  refine ip h8 ?_
  refine ri (sX10_of _ h6 h5 rfl (by decide)) ?_
  refine eX10_judge_222 ?_
  refine iq h9 ?_
  refine rv h10 ?_
  refine eX10_judge_274 ?_
  all_goals rfl
theorem qX10_judge_159_3 {x1 : Int32} {x2 : Int32} {x3 : Int64} {x5 : Int32} {x6 : Int32} {M : am_M} {n : Nat} {j1 : Nat} {j4 : Nat} (h1 : j1 < 40) (h2 : x1 = i3 j1) (h3 : (am_b (M 54 0 j1)) = 0) (h4 : (M 50 0 j1) = 1) (h5 : j4 < 4) (h6 : x2 = i3 j4) (h7 : (M 30 0 (16 * j4 + 12)) = 2) (h8 : ¬ ((x6 &&& 2) = 0)) (h9 : am_b (if (M 30 0 (16 * j4 + 12)) = 2 then 1 else 0 : Int32) = (if (M 30 0 (16 * j4 + 12)) = 2 then 1 else 0 : Int32)) : rX10_judge (n + 500) 159 [.inr (10, 0), .inl (.int x1), .inl (.int x2), .inl (.long x3), am_D, .inl (.int x5), .inl (.int x6)] [] M = am_rV (am_put (am_put M 48 0 j1 0) 53 0 j1 (if (M 30 0 (16 * j4 + 12)) = 2 then 1 else 0 : Int32)) := by
  refine eX10_judge_159 ?_
  refine ip (ixi h2 h1 (by decide)) ?_
  try rw [ixn h2 h1 (by decide)]
  refine ip h3 ?_
  refine ip (ixi h2 h1 (by decide)) ?_
  try rw [ixn h2 h1 (by decide)]
  refine ip h4 ?_
  refine ri (sX10_of _ h6 h5 rfl (by decide)) ?_
  refine eX10_judge_204 ?_
  refine ip h7 ?_
  refine iq h8 ?_
  refine ip (ixi h2 h1 (by decide)) ?_
  try rw [ixn h2 h1 (by decide)]
  refine ri (sX10_of _ h6 h5 rfl (by decide)) ?_
  refine eX10_judge_252 ?_
  try simp only [am_put_nk, am_put_nf, not_false_eq_true, Nat.reduceEqDiff]
  refine dm (K := fun v => rX10_judge _ 261 [.inr (10, 0), .inl (.int x1), .inl (.int x2), .inl (.long x3), am_D, .inl (.int x5), .inl (.int x6)] (v :: [.inl (.int x1), .inr (53, 0)]) (am_put M 48 0 j1 0)) ?_
  refine eX10_judge_261 ?_
  try simp only [am_put_nk, am_put_nf, not_false_eq_true, Nat.reduceEqDiff]
  refine ip ⟨(ixi h2 h1 (by decide)), h9⟩ ?_
  try rw [ixn h2 h1 (by decide)]
  refine eX10_judge_274 ?_
  try simp only [am_put_nk, am_put_nf, not_false_eq_true, Nat.reduceEqDiff]
  all_goals rfl
theorem qX10_judge_159_4 {x1 : Int32} {x2 : Int32} {x3 : Int64} {x5 : Int32} {x6 : Int32} {M : am_M} {n : Nat} {j1 : Nat} {j4 : Nat} {M3 : am_M} (h1 : j1 < 40) (h2 : x1 = i3 j1) (h3 : (am_b (M 54 0 j1)) = 0) (h4 : (M 50 0 j1) = 1) (h5 : j4 < 4) (h6 : x2 = i3 j4) (h7 : ¬ ((M 30 0 (16 * j4 + 12)) = 2)) (h8 : (M 30 0 (16 * j4 + 12)) = 1) (h9 : (x6 &&& 3) = 0) (h10 : fX10_release [.inr (10, 0), .inl (.int x1), .inl (.int x5), .inl (.int x6)] M = am_rV M3) : rX10_judge (n + 400) 159 [.inr (10, 0), .inl (.int x1), .inl (.int x2), .inl (.long x3), am_D, .inl (.int x5), .inl (.int x6)] [] M = am_rV M3 := by
  refine eX10_judge_159 ?_
  refine ip (ixi h2 h1 (by decide)) ?_
  try rw [ixn h2 h1 (by decide)]
  refine ip h3 ?_
  refine ip (ixi h2 h1 (by decide)) ?_
  try rw [ixn h2 h1 (by decide)]
  refine ip h4 ?_
  refine ri (sX10_of _ h6 h5 rfl (by decide)) ?_
  refine eX10_judge_204 ?_
  refine iq h7 ?_
  refine ri (sX10_of _ h6 h5 rfl (by decide)) ?_
  refine eX10_judge_222 ?_
  refine ip h8 ?_
  refine ip h9 ?_
  refine rv h10 ?_
  refine eX10_judge_274 ?_
  all_goals rfl
theorem qX10_judge_159_5 {x1 : Int32} {x2 : Int32} {x3 : Int64} {x5 : Int32} {x6 : Int32} {M : am_M} {n : Nat} {j1 : Nat} {j4 : Nat} (h1 : j1 < 40) (h2 : x1 = i3 j1) (h3 : (am_b (M 54 0 j1)) = 0) (h4 : (M 50 0 j1) = 1) (h5 : j4 < 4) (h6 : x2 = i3 j4) (h7 : ¬ ((M 30 0 (16 * j4 + 12)) = 2)) (h8 : (M 30 0 (16 * j4 + 12)) = 1) (h9 : ¬ ((x6 &&& 3) = 0)) (h10 : am_b (if (M 30 0 (16 * j4 + 12)) = 2 then 1 else 0 : Int32) = (if (M 30 0 (16 * j4 + 12)) = 2 then 1 else 0 : Int32)) : rX10_judge (n + 600) 159 [.inr (10, 0), .inl (.int x1), .inl (.int x2), .inl (.long x3), am_D, .inl (.int x5), .inl (.int x6)] [] M = am_rV (am_put (am_put M 48 0 j1 0) 53 0 j1 (if (M 30 0 (16 * j4 + 12)) = 2 then 1 else 0 : Int32)) := by
  refine eX10_judge_159 ?_
  refine ip (ixi h2 h1 (by decide)) ?_
  try rw [ixn h2 h1 (by decide)]
  refine ip h3 ?_
  refine ip (ixi h2 h1 (by decide)) ?_
  try rw [ixn h2 h1 (by decide)]
  refine ip h4 ?_
  refine ri (sX10_of _ h6 h5 rfl (by decide)) ?_
  refine eX10_judge_204 ?_
  refine iq h7 ?_
  refine ri (sX10_of _ h6 h5 rfl (by decide)) ?_
  refine eX10_judge_222 ?_
  refine ip h8 ?_
  refine iq h9 ?_
  refine ip (ixi h2 h1 (by decide)) ?_
  try rw [ixn h2 h1 (by decide)]
  refine ri (sX10_of _ h6 h5 rfl (by decide)) ?_
  refine eX10_judge_252 ?_
  try simp only [am_put_nk, am_put_nf, not_false_eq_true, Nat.reduceEqDiff]
  refine dm (K := fun v => rX10_judge _ 261 [.inr (10, 0), .inl (.int x1), .inl (.int x2), .inl (.long x3), am_D, .inl (.int x5), .inl (.int x6)] (v :: [.inl (.int x1), .inr (53, 0)]) (am_put M 48 0 j1 0)) ?_
  refine eX10_judge_261 ?_
  try simp only [am_put_nk, am_put_nf, not_false_eq_true, Nat.reduceEqDiff]
  refine ip ⟨(ixi h2 h1 (by decide)), h10⟩ ?_
  try rw [ixn h2 h1 (by decide)]
  refine eX10_judge_274 ?_
  try simp only [am_put_nk, am_put_nf, not_false_eq_true, Nat.reduceEqDiff]
  all_goals rfl
theorem qX10_judge_159_6 {x1 : Int32} {x2 : Int32} {x3 : Int64} {x5 : Int32} {x6 : Int32} {M : am_M} {n : Nat} {j1 : Nat} {j4 : Nat} {M3 : am_M} (h1 : j1 < 40) (h2 : x1 = i3 j1) (h3 : (am_b (M 54 0 j1)) = 0) (h4 : (M 50 0 j1) = 1) (h5 : j4 < 4) (h6 : x2 = i3 j4) (h7 : ¬ ((M 30 0 (16 * j4 + 12)) = 2)) (h8 : ¬ ((M 30 0 (16 * j4 + 12)) = 1)) (h9 : fX10_release [.inr (10, 0), .inl (.int x1), .inl (.int x5), .inl (.int x6)] M = am_rV M3) : rX10_judge (n + 400) 159 [.inr (10, 0), .inl (.int x1), .inl (.int x2), .inl (.long x3), am_D, .inl (.int x5), .inl (.int x6)] [] M = am_rV M3 := by
  refine eX10_judge_159 ?_
  refine ip (ixi h2 h1 (by decide)) ?_
  try rw [ixn h2 h1 (by decide)]
  refine ip h3 ?_
  refine ip (ixi h2 h1 (by decide)) ?_
  try rw [ixn h2 h1 (by decide)]
  refine ip h4 ?_
  refine ri (sX10_of _ h6 h5 rfl (by decide)) ?_
  refine eX10_judge_204 ?_
  refine iq h7 ?_
  refine ri (sX10_of _ h6 h5 rfl (by decide)) ?_
  refine eX10_judge_222 ?_
  refine iq h8 ?_
  refine rv h9 ?_
  refine eX10_judge_274 ?_
  all_goals rfl
theorem qX10_judge_159_7 {x1 : Int32} {x2 : Int32} {x3 : Int64} {x5 : Int32} {x6 : Int32} {M : am_M} {n : Nat} {j1 : Nat} {M2 : am_M} (h1 : j1 < 40) (h2 : x1 = i3 j1) (h3 : (am_b (M 54 0 j1)) = 0) (h4 : ¬ ((M 50 0 j1) = 1)) (h5 : fX10_release [.inr (10, 0), .inl (.int x1), .inl (.int x5), .inl (.int x6)] M = am_rV M2) : rX10_judge (n + 200) 159 [.inr (10, 0), .inl (.int x1), .inl (.int x2), .inl (.long x3), am_D, .inl (.int x5), .inl (.int x6)] [] M = am_rV M2 := by
  refine eX10_judge_159 ?_
  refine ip (ixi h2 h1 (by decide)) ?_
  try rw [ixn h2 h1 (by decide)]
  refine ip h3 ?_
  refine ip (ixi h2 h1 (by decide)) ?_
  try rw [ixn h2 h1 (by decide)]
  refine iq h4 ?_
  refine rv h5 ?_
  refine eX10_judge_274 ?_
  all_goals rfl
theorem qX10_judge_159_8 {x1 : Int32} {x2 : Int32} {x3 : Int64} {x5 : Int32} {x6 : Int32} {M : am_M} {n : Nat} {j1 : Nat} {M2 : am_M} {M3 : am_M} (h1 : j1 < 40) (h2 : x1 = i3 j1) (h3 : ¬ ((am_b (M 54 0 j1)) = 0)) (h4 : fX10_remember [.inr (10, 0), .inl (.int x2), .inl (.int x5)] M = am_rV M2) (h5 : fX10_release [.inr (10, 0), .inl (.int x1), .inl (.int x5), .inl (.int x6)] M2 = am_rV M3) : rX10_judge (n + 400) 159 [.inr (10, 0), .inl (.int x1), .inl (.int x2), .inl (.long x3), am_D, .inl (.int x5), .inl (.int x6)] [] M = am_rV M3 := by
  refine eX10_judge_159 ?_
  refine ip (ixi h2 h1 (by decide)) ?_
  try rw [ixn h2 h1 (by decide)]
  refine iq h3 ?_
  refine rv h4 ?_
  refine eX10_judge_175 ?_
  refine rv h5 ?_
  refine eX10_judge_184 ?_
  refine eX10_judge_274 ?_
  all_goals rfl
theorem qX3_append_0 {x1 : Int32} {M : am_M} (h1 : 40 ≤ (M 3 0 1)) : fX3_append [.inr (3, 0), .inl (.int x1)] M = am_rV M := by
  rw [eX3_append]
  refine eX3_append_0 ?_
  refine ip h1 ?_
  all_goals rfl
theorem qX3_append_1 {x1 : Int32} {M : am_M} {j1 : Nat} (h1 : ¬ (40 ≤ (M 3 0 1))) (h2 : j1 < 40) (h3 : (M 3 0 1) = i3 j1) : fX3_append [.inr (3, 0), .inl (.int x1)] M = am_rV (am_put (am_put M 17 0 j1 x1) 3 0 1 ((M 3 0 1) + 1)) := by
  rw [eX3_append]
  refine eX3_append_0 ?_
  refine iq h1 ?_
  refine ip (ixi h3 h2 (by decide)) ?_
  try rw [ixn h3 h2 (by decide)]
  all_goals rfl
theorem qX2_append_0 {x0 : Nat} {x1 : Int32} {M : am_M} {res : am_O × am_M} (h1 : (M 2 x0 1) = 10) (k : rX2_append 99900 11 [.inr (2, x0), .inl (.int x1), .inl (.int 1)] [] M = some res) : fX2_append [.inr (2, x0), .inl (.int x1)] M = some res := by
  rw [eX2_append]
  refine eX2_append_0 ?_
  refine ip h1 ?_
  exact k
theorem qX2_append_1 {x0 : Nat} {x1 : Int32} {M : am_M} {j1 : Nat} (h1 : ¬ ((M 2 x0 1) = 10)) (h2 : j1 < 10) (h3 : (M 2 x0 1) = i3 j1) : fX2_append [.inr (2, x0), .inl (.int x1)] M = am_rV (am_put (am_put M 16 x0 j1 x1) 2 x0 1 ((M 2 x0 1) + 1)) := by
  rw [eX2_append]
  refine eX2_append_0 ?_
  refine iq h1 ?_
  refine ip (ixi h3 h2 (by decide)) ?_
  try rw [ixn h3 h2 (by decide)]
  all_goals rfl
theorem mX2_append {n m pc : Nat} {ls st : List am_V} {M : am_M} {res : am_O × am_M} (h : rX2_append n pc ls st M = some res) (hm : n ≤ m) : rX2_append m pc ls st M = some res := by
  have h2 := am_run_mono_add h (m - n)
  rw [show n + (m - n) = m by omega] at h2
  exact h2
theorem qX2_append_11_0 {x0 : Nat} {x1 : Int32} {x2 : Nat} {M : am_M} {n : Nat} {j1 : Nat} (h1 : 10 ≤ (i3 x2)) (h2 : j1 < 10) (h3 : ((am_put M 2 x0 1 ((M 2 x0 1) - 1)) 2 x0 1) = i3 j1) : rX2_append (n + 100) 11 [.inr (2, x0), .inl (.int x1), .inl (.int (i3 x2))] [] M = am_rV (am_put (am_put (am_put M 2 x0 1 ((M 2 x0 1) - 1)) 16 x0 j1 x1) 2 x0 1 (((am_put M 2 x0 1 ((M 2 x0 1) - 1)) 2 x0 1) + 1)) := by
  refine eX2_append_11 ?_
  refine ip h1 ?_
  refine ip (ixi h3 h2 (by decide)) ?_
  try rw [ixn h3 h2 (by decide)]
  all_goals rfl
theorem qX2_append_11_1 {x0 : Nat} {x1 : Int32} {x2 : Nat} {M : am_M} {n : Nat} {res : am_O × am_M} {j2 : Nat} (h1 : ¬ (10 ≤ (i3 x2))) (h2 : x2 < 10) (h3 : j2 < 10) (h4 : ((i3 x2) - 1) = i3 j2) (k : rX2_append n 11 [.inr (2, x0), .inl (.int x1), .inl (.int (i3 (x2 + 1)))] [] (am_put M 16 x0 j2 (M 16 x0 x2)) = some res) : rX2_append (n + 100) 11 [.inr (2, x0), .inl (.int x1), .inl (.int (i3 x2))] [] M = some res := by
  refine eX2_append_11 ?_
  refine iq h1 ?_
  refine ip (i3_in' h2 (by decide)) ?_
  try rw [ixm h2 (by decide)]
  refine ip (ixi h4 h3 (by decide)) ?_
  try rw [ixn h4 h3 (by decide)]
  rw [i3_one]
  exact k
theorem qX4_waitAgain_0 {x0 : Nat} {x1 : Int32} {M : am_M} (h1 : am_b x1 = x1) : fX4_waitAgain [.inr (4, x0), .inl (.int x1)] M = am_rV (am_put (am_put (am_put M 4 x0 3 0) 4 x0 7 (-1)) 4 x0 6 x1) := by
  rw [eX4_waitAgain]
  refine eX4_waitAgain_0 ?_
  refine ip h1 ?_
  all_goals rfl
theorem qX10_release_0 {x1 : Int32} {x2 : Int32} {x3 : Int32} {M : am_M} {j1 : Nat} {j2 : Nat} (h1 : j1 < 40) (h2 : x1 = i3 j1) (h3 : j2 < 40) (h4 : (M 10 0 40) = i3 j2) : fX10_release [.inr (10, 0), .inl (.int x1), .inl (.int x2), .inl (.int x3)] M = am_rV (am_put (am_put (am_put (am_put (am_put M 48 0 j1 2) 57 0 j1 x2) 58 0 j1 x3) 69 0 j2 x1) 10 0 40 ((M 10 0 40) + 1)) := by
  rw [eX10_release]
  refine eX10_release_0 ?_
  refine ip (ixi h2 h1 (by decide)) ?_
  try rw [ixn h2 h1 (by decide)]
  refine ip (ixi h2 h1 (by decide)) ?_
  try rw [ixn h2 h1 (by decide)]
  refine ip (ixi h2 h1 (by decide)) ?_
  try rw [ixn h2 h1 (by decide)]
  refine ip (ixi h4 h3 (by decide)) ?_
  try rw [ixn h4 h3 (by decide)]
  all_goals rfl
theorem qX10_remember_0 {x1 : Int32} {x2 : Int32} {M : am_M} {res : am_O × am_M} {j1 : Nat} (h1 : j1 < 4) (h2 : x1 = i3 j1) (h3 : (M 36 0 j1) = 10) (k : rX10_remember 99900 13 [.inr (10, 0), .inl (.int x1), .inl (.int x2), .inl (.int 1)] [] M = some res) : fX10_remember [.inr (10, 0), .inl (.int x1), .inl (.int x2)] M = some res := by
  rw [eX10_remember]
  refine eX10_remember_0 ?_
  refine ip (ixi h2 h1 (by decide)) ?_
  try rw [ixn h2 h1 (by decide)]
  refine ip h3 ?_
  exact k
theorem qX10_remember_1 {x1 : Int32} {x2 : Int32} {M : am_M} {j1 : Nat} {j2 : Nat} (h1 : j1 < 4) (h2 : x1 = i3 j1) (h3 : ¬ ((M 36 0 j1) = 10)) (h4 : j2 < 40) (h5 : ((10 * x1) + (M 36 0 j1)) = i3 j2) : fX10_remember [.inr (10, 0), .inl (.int x1), .inl (.int x2)] M = am_rV (am_put (am_put M 35 0 j2 x2) 36 0 j1 ((M 36 0 j1) + 1)) := by
  rw [eX10_remember]
  refine eX10_remember_0 ?_
  refine ip (ixi h2 h1 (by decide)) ?_
  try rw [ixn h2 h1 (by decide)]
  refine iq h3 ?_
  refine ip (ixi h2 h1 (by decide)) ?_
  try rw [ixn h2 h1 (by decide)]
  refine ip (ixi h5 h4 (by decide)) ?_
  try rw [ixn h5 h4 (by decide)]
  refine ip (ixi h2 h1 (by decide)) ?_
  try rw [ixn h2 h1 (by decide)]
  refine ip (ixi h2 h1 (by decide)) ?_
  try rw [ixn h2 h1 (by decide)]
  all_goals rfl
theorem mX10_remember {n m pc : Nat} {ls st : List am_V} {M : am_M} {res : am_O × am_M} (h : rX10_remember n pc ls st M = some res) (hm : n ≤ m) : rX10_remember m pc ls st M = some res := by
  have h2 := am_run_mono_add h (m - n)
  rw [show n + (m - n) = m by omega] at h2
  exact h2
theorem qX10_remember_13_0 {x1 : Int32} {x2 : Int32} {x3 : Nat} {M : am_M} {n : Nat} {j1 : Nat} {j2 : Nat} (h1 : 10 ≤ (i3 x3)) (h2 : j1 < 4) (h3 : x1 = i3 j1) (h4 : j2 < 40) (h5 : ((10 * x1) + ((am_put M 36 0 j1 9) 36 0 j1)) = i3 j2) : rX10_remember (n + 100) 13 [.inr (10, 0), .inl (.int x1), .inl (.int x2), .inl (.int (i3 x3))] [] M = am_rV (am_put (am_put (am_put M 36 0 j1 9) 35 0 j2 x2) 36 0 j1 (((am_put M 36 0 j1 9) 36 0 j1) + 1)) := by
  refine eX10_remember_13 ?_
  refine ip h1 ?_
  refine ip (ixi h3 h2 (by decide)) ?_
  try rw [ixn h3 h2 (by decide)]
  refine ip (ixi h3 h2 (by decide)) ?_
  try rw [ixn h3 h2 (by decide)]
  refine ip (ixi h5 h4 (by decide)) ?_
  try rw [ixn h5 h4 (by decide)]
  refine ip (ixi h3 h2 (by decide)) ?_
  try rw [ixn h3 h2 (by decide)]
  refine ip (ixi h3 h2 (by decide)) ?_
  try rw [ixn h3 h2 (by decide)]
  all_goals rfl
theorem qX10_remember_13_1 {x1 : Int32} {x2 : Int32} {x3 : Nat} {M : am_M} {n : Nat} {res : am_O × am_M} {j3 : Nat} {j4 : Nat} (h1 : ¬ (10 ≤ (i3 x3))) (h2 : j3 < 40) (h3 : ((10 * x1) + (i3 x3)) = i3 j3) (h4 : j4 < 40) (h5 : (((10 * x1) + (i3 x3)) - 1) = i3 j4) (k : rX10_remember n 13 [.inr (10, 0), .inl (.int x1), .inl (.int x2), .inl (.int (i3 (x3 + 1)))] [] (am_put M 35 0 j4 (M 35 0 j3)) = some res) : rX10_remember (n + 100) 13 [.inr (10, 0), .inl (.int x1), .inl (.int x2), .inl (.int (i3 x3))] [] M = some res := by
  refine eX10_remember_13 ?_
  refine iq h1 ?_
  refine ip (ixi h3 h2 (by decide)) ?_
  try rw [ixn h3 h2 (by decide)]
  refine ip (ixi h5 h4 (by decide)) ?_
  try rw [ixn h5 h4 (by decide)]
  rw [i3_one]
  exact k
theorem qX9_judgeEndedRuns_0 {M : am_M} {res : am_O × am_M} (k : rX9_judgeEndedRuns 99900 2 [.inr (9, 0), .inl (.int 0), am_D] [] M = some res) : fX9_judgeEndedRuns [.inr (9, 0)] M = some res := by
  rw [eX9_judgeEndedRuns]
  refine eX9_judgeEndedRuns_0 ?_
  exact k
theorem mX9_judgeEndedRuns {n m pc : Nat} {ls st : List am_V} {M : am_M} {res : am_O × am_M} (h : rX9_judgeEndedRuns n pc ls st M = some res) (hm : n ≤ m) : rX9_judgeEndedRuns m pc ls st M = some res := by
  have h2 := am_run_mono_add h (m - n)
  rw [show n + (m - n) = m by omega] at h2
  exact h2
theorem qX9_judgeEndedRuns_2_0 {x1 : Nat} {x2 : am_V} {M : am_M} {n : Nat} (h1 : (M 9 0 7) ≤ (i3 x1)) : rX9_judgeEndedRuns (n + 100) 2 [.inr (9, 0), .inl (.int (i3 x1)), x2] [] M = am_rV M := by
  refine eX9_judgeEndedRuns_2 ?_
  refine ip h1 ?_
  all_goals rfl
theorem qX9_judgeEndedRuns_2_1 {x1 : Nat} {x2 : am_V} {M : am_M} {n : Nat} {res : am_O × am_M} {v1 : Nat} {j1 : Nat} (h1 : ¬ ((M 9 0 7) ≤ (i3 x1))) (h2 : x1 < 40) (h3 : fX9_cuvetteOf [.inr (9, 0), .inr (4, x1)] M = some (.inl (some (.inr (1, v1))), M)) (h3b : v1 < 10) (h5 : j1 < 4) (h6 : (M 4 x1 1) = i3 j1) (h7 : ¬ ((M 18 j1 8) < (M 1 v1 7))) (k : rX9_judgeEndedRuns n 2 [.inr (9, 0), .inl (.int (i3 (x1 + 1))), .inr (1, v1)] [] M = some res) : rX9_judgeEndedRuns (n + 400) 2 [.inr (9, 0), .inl (.int (i3 x1)), x2] [] M = some res := by
  refine eX9_judgeEndedRuns_2 ?_
  refine iq h1 ?_
  refine ip (i3_in' h2 (by decide)) ?_
  try rw [ixm h2 (by decide)]
  refine rq h3 h3b ?_
  refine eX9_judgeEndedRuns_20 ?_
  refine ip (i3_in' h2 (by decide)) ?_
  try rw [ixm h2 (by decide)]
  refine ip (ixi h6 h5 (by decide)) ?_
  try rw [ixn h6 h5 (by decide)]
  refine ri (sX6_isOverAt _ _ _) ?_
  refine eX9_judgeEndedRuns_46 ?_
  refine ip (bi_f h7) ?_
  refine eX9_judgeEndedRuns_55a ?_
  rw [i3_one]
  exact k
theorem qX9_judgeEndedRuns_2_2 {x1 : Nat} {x2 : am_V} {M : am_M} {n : Nat} {res : am_O × am_M} {v1 : Nat} {j1 : Nat} {M3 : am_M} (h1 : ¬ ((M 9 0 7) ≤ (i3 x1))) (h2 : x1 < 40) (h3 : fX9_cuvetteOf [.inr (9, 0), .inr (4, x1)] M = some (.inl (some (.inr (1, v1))), M)) (h3b : v1 < 10) (h5 : j1 < 4) (h6 : (M 4 x1 1) = i3 j1) (h7 : (M 18 j1 8) < (M 1 v1 7)) (h8 : fX9_judge [.inr (9, 0), .inl (.int (i3 x1)), .inr (1, v1)] M = am_rV M3) (k : rX9_judgeEndedRuns n 2 [.inr (9, 0), .inl (.int (i3 (x1 + 1))), .inr (1, v1)] [] M3 = some res) : rX9_judgeEndedRuns (n + 400) 2 [.inr (9, 0), .inl (.int (i3 x1)), x2] [] M = some res := by
  refine eX9_judgeEndedRuns_2 ?_
  refine iq h1 ?_
  refine ip (i3_in' h2 (by decide)) ?_
  try rw [ixm h2 (by decide)]
  refine rq h3 h3b ?_
  refine eX9_judgeEndedRuns_20 ?_
  refine ip (i3_in' h2 (by decide)) ?_
  try rw [ixm h2 (by decide)]
  refine ip (ixi h6 h5 (by decide)) ?_
  try rw [ixn h6 h5 (by decide)]
  refine ri (sX6_isOverAt _ _ _) ?_
  refine eX9_judgeEndedRuns_46 ?_
  refine iq (fun e => bi_0.mp e h7) ?_
  refine rv h8 ?_
  refine eX9_judgeEndedRuns_55a ?_
  rw [i3_one]
  exact k
theorem qX9_judgeEndedRuns_2_3 {x1 : Nat} {x2 : am_V} {M : am_M} {n : Nat} {res : am_O × am_M} (h1 : ¬ ((M 9 0 7) ≤ (i3 x1))) (h2 : x1 < 40) (h3 : fX9_cuvetteOf [.inr (9, 0), .inr (4, x1)] M = some (.inl (some (.inl .null)), M)) (k : rX9_judgeEndedRuns n 2 [.inr (9, 0), .inl (.int (i3 (x1 + 1))), .inl .null] [] M = some res) : rX9_judgeEndedRuns (n + 300) 2 [.inr (9, 0), .inl (.int (i3 x1)), x2] [] M = some res := by
  refine eX9_judgeEndedRuns_2 ?_
  refine iq h1 ?_
  refine ip (i3_in' h2 (by decide)) ?_
  try rw [ixm h2 (by decide)]
  refine rn h3 ?_
  refine eX9_judgeEndedRuns_20a ?_
  refine eX9_judgeEndedRuns_55 ?_
  rw [i3_one]
  exact k
