/-! ===== the ways through the methods ===== -/
theorem qX9_breakOff_0 {x1 : Int32} {x2 : Int32} {M : am_M} {res : am_O × am_M} {j1 : Nat} (h1 : j1 < 10) (h2 : x1 = i3 j1) (k : rX9_breakOff 99900 13 [.inr (9, 0), .inl (.int x1), .inl (.int x2), .inr (1, j1), .inl (.int (M 1 j1 4))] [] M = some res) : fX9_breakOff [.inr (9, 0), .inl (.int x1), .inl (.int x2)] M = some res := by
  rw [eX9_breakOff]
  refine eX9_breakOff_0 ?_
  refine ip (ixi h2 h1 (by decide)) ?_
  try rw [ixn h2 h1 (by decide)]
  exact k
theorem mX9_breakOff {n m pc : Nat} {ls st : List am_V} {M : am_M} {res : am_O × am_M} (h : rX9_breakOff n pc ls st M = some res) (hm : n ≤ m) : rX9_breakOff m pc ls st M = some res := by
  have h2 := am_run_mono_add h (m - n)
  rw [show n + (m - n) = m by omega] at h2
  exact h2
theorem qX9_breakOff_13_0 {x1 : Int32} {x2 : Int32} {x3 : Nat} {x4 : Int32} {M : am_M} {n : Nat} {M1 : am_M} (h1 : 2 ≤ x4) (h2 : fX7_cancel [.inr (7, 0), .inl (.int x1)] M = am_rV M1) (h3 : ¬ (0 ≤ (M1 1 x3 5) ∧ (M1 1 x3 5) ≤ ((M1 9 0 7) - 1))) : rX9_breakOff (n + 400) 13 [.inr (9, 0), .inl (.int x1), .inl (.int x2), .inr (1, x3), .inl (.int x4)] [] M = am_rV (am_put (am_put (am_put M1 1 x3 5 (-1)) 1 x3 9 0) 1 x3 8 3) := by
  refine eX9_breakOff_13 ?_
  refine ip h1 ?_
  refine rv h2 ?_
  refine eX9_breakOff_76 ?_
  refine ri (sX9_isWithin _ _ _ _) ?_
  refine eX9_breakOff_90 ?_
  refine ip (bi_f h3) ?_
  refine eX9_breakOff_106 ?_
  all_goals rfl
theorem qX9_breakOff_13_1 {x1 : Int32} {x2 : Int32} {x3 : Nat} {x4 : Int32} {M : am_M} {n : Nat} {M1 : am_M} {j2 : Nat} {M3 : am_M} (h1 : 2 ≤ x4) (h2 : fX7_cancel [.inr (7, 0), .inl (.int x1)] M = am_rV M1) (h3 : 0 ≤ (M1 1 x3 5) ∧ (M1 1 x3 5) ≤ ((M1 9 0 7) - 1)) (h4 : j2 < 40) (h5 : (M1 1 x3 5) = i3 j2) (h6 : fX4_breakOff [.inr (4, j2), .inl (.int x2)] M1 = am_rV M3) : rX9_breakOff (n + 400) 13 [.inr (9, 0), .inl (.int x1), .inl (.int x2), .inr (1, x3), .inl (.int x4)] [] M = am_rV (am_put (am_put (am_put M3 1 x3 5 (-1)) 1 x3 9 0) 1 x3 8 3) := by
  refine eX9_breakOff_13 ?_
  refine ip h1 ?_
  refine rv h2 ?_
  refine eX9_breakOff_76 ?_
  refine ri (sX9_isWithin _ _ _ _) ?_
  refine eX9_breakOff_90 ?_
  refine iq (fun e => bi_0.mp e h3) ?_
  refine ip (ixi h5 h4 (by decide)) ?_
  try rw [ixn h5 h4 (by decide)]
  refine rv h6 ?_
  refine eX9_breakOff_106 ?_
  all_goals rfl
theorem qX9_breakOff_13_2 {x1 : Int32} {x2 : Int32} {x3 : Nat} {x4 : Int32} {M : am_M} {n : Nat} {res : am_O × am_M} {j1 : Nat} (h1 : ¬ (2 ≤ x4)) (h2 : j1 < 2) (h3 : x4 = i3 j1) (h4 : ¬ (0 ≤ (M 14 x3 j1) ∧ (M 14 x3 j1) ≤ 7)) (k : rX9_breakOff n 13 [.inr (9, 0), .inl (.int x1), .inl (.int x2), .inr (1, x3), .inl (.int (x4 + 1))] [] M = some res) : rX9_breakOff (n + 200) 13 [.inr (9, 0), .inl (.int x1), .inl (.int x2), .inr (1, x3), .inl (.int x4)] [] M = some res := by
  refine eX9_breakOff_13 ?_
  refine iq h1 ?_
  refine ip (ixi h3 h2 (by decide)) ?_
  try rw [ixn h3 h2 (by decide)]
  refine ri (sX9_isWithin _ _ _ _) ?_
  refine eX9_breakOff_32 ?_
  refine ip (bi_f h4) ?_
  exact k
theorem qX9_breakOff_13_3 {x1 : Int32} {x2 : Int32} {x3 : Nat} {x4 : Int32} {M : am_M} {n : Nat} {res : am_O × am_M} {j1 : Nat} {j3 : Nat} (h1 : ¬ (2 ≤ x4)) (h2 : j1 < 2) (h3 : x4 = i3 j1) (h4 : 0 ≤ (M 14 x3 j1) ∧ (M 14 x3 j1) ≤ 7) (h5 : j3 < 8) (h6 : (M 14 x3 j1) = i3 j3) (k : rX9_breakOff n 13 [.inr (9, 0), .inl (.int x1), .inl (.int x2), .inr (1, x3), .inl (.int (x4 + 1))] [] (am_put M 5 j3 2 ((M 5 j3 2) - (M 15 x3 j1))) = some res) : rX9_breakOff (n + 200) 13 [.inr (9, 0), .inl (.int x1), .inl (.int x2), .inr (1, x3), .inl (.int x4)] [] M = some res := by
  refine eX9_breakOff_13 ?_
  refine iq h1 ?_
  refine ip (ixi h3 h2 (by decide)) ?_
  try rw [ixn h3 h2 (by decide)]
  refine ri (sX9_isWithin _ _ _ _) ?_
  refine eX9_breakOff_32 ?_
  refine iq (fun e => bi_0.mp e h4) ?_
  refine ip (ixi h3 h2 (by decide)) ?_
  try rw [ixn h3 h2 (by decide)]
  refine ip (ixi h6 h5 (by decide)) ?_
  try rw [ixn h6 h5 (by decide)]
  refine ip (ixi h3 h2 (by decide)) ?_
  try rw [ixn h3 h2 (by decide)]
  exact k
theorem qX4_breakOff_0 {x0 : Nat} {x1 : Int32} {M : am_M} (h1 : (M 4 x0 5) = 1) : fX4_breakOff [.inr (4, x0), .inl (.int x1)] M = am_rV (am_put (am_put (am_put M 4 x0 3 0) 4 x0 7 (-1)) 4 x0 6 0) := by
  rw [eX4_breakOff]
  refine eX4_breakOff_0 ?_
  refine ip h1 ?_
  all_goals rfl
theorem qX4_breakOff_1 {x0 : Nat} {x1 : Int32} {M : am_M} (h1 : ¬ ((M 4 x0 5) = 1)) : fX4_breakOff [.inr (4, x0), .inl (.int x1)] M = am_rV (am_put (am_put (am_put M 4 x0 3 3) 4 x0 4 x1) 4 x0 7 (-1)) := by
  rw [eX4_breakOff]
  refine eX4_breakOff_0 ?_
  refine iq h1 ?_
  all_goals rfl
theorem qX7_clear_0 {x1 : Int32} {M : am_M} {j1 : Nat} (h1 : j1 < 13) (h2 : x1 = i3 j1) : fX7_clear [.inr (7, 0), .inl (.int x1)] M = am_rV (am_put (am_put M 19 0 j1 (-1)) 20 0 j1 (-1)) := by
  rw [eX7_clear]
  refine eX7_clear_0 ?_
  refine ip (ixi h2 h1 (by decide)) ?_
  try rw [ixn h2 h1 (by decide)]
  refine ip (ixi h2 h1 (by decide)) ?_
  try rw [ixn h2 h1 (by decide)]
  all_goals rfl
theorem qX7_cancel_0 {x1 : Int32} {M : am_M} {res : am_O × am_M} (k : rX7_cancel 99900 2 [.inr (7, 0), .inl (.int x1), .inl (.int 1)] [] M = some res) : fX7_cancel [.inr (7, 0), .inl (.int x1)] M = some res := by
  rw [eX7_cancel]
  refine eX7_cancel_0 ?_
  exact k
theorem mX7_cancel {n m pc : Nat} {ls st : List am_V} {M : am_M} {res : am_O × am_M} (h : rX7_cancel n pc ls st M = some res) (hm : n ≤ m) : rX7_cancel m pc ls st M = some res := by
  have h2 := am_run_mono_add h (m - n)
  rw [show n + (m - n) = m by omega] at h2
  exact h2
theorem qX7_cancel_2_0 {x1 : Int32} {x2 : Nat} {M : am_M} {n : Nat} (h1 : 12 < (i3 x2)) : rX7_cancel (n + 100) 2 [.inr (7, 0), .inl (.int x1), .inl (.int (i3 x2))] [] M = am_rV M := by
  refine eX7_cancel_2 ?_
  refine ip h1 ?_
  all_goals rfl
theorem qX7_cancel_2_1 {x1 : Int32} {x2 : Nat} {M : am_M} {n : Nat} {res : am_O × am_M} {M1 : am_M} (h1 : ¬ (12 < (i3 x2))) (h2 : x2 < 13) (h3 : (M 20 0 x2) = x1) (h4 : fX7_clear [.inr (7, 0), .inl (.int (i3 x2))] M = am_rV M1) (k : rX7_cancel n 2 [.inr (7, 0), .inl (.int x1), .inl (.int (i3 (x2 + 1)))] [] M1 = some res) : rX7_cancel (n + 200) 2 [.inr (7, 0), .inl (.int x1), .inl (.int (i3 x2))] [] M = some res := by
  refine eX7_cancel_2 ?_
  refine iq h1 ?_
  refine ip (i3_in' h2 (by decide)) ?_
  try rw [ixm h2 (by decide)]
  refine ip h3 ?_
  refine rv h4 ?_
  refine eX7_cancel_23 ?_
  rw [i3_one]
  exact k
theorem qX7_cancel_2_2 {x1 : Int32} {x2 : Nat} {M : am_M} {n : Nat} {res : am_O × am_M} (h1 : ¬ (12 < (i3 x2))) (h2 : x2 < 13) (h3 : ¬ ((M 20 0 x2) = x1)) (k : rX7_cancel n 2 [.inr (7, 0), .inl (.int x1), .inl (.int (i3 (x2 + 1)))] [] M = some res) : rX7_cancel (n + 200) 2 [.inr (7, 0), .inl (.int x1), .inl (.int (i3 x2))] [] M = some res := by
  refine eX7_cancel_2 ?_
  refine iq h1 ?_
  refine ip (i3_in' h2 (by decide)) ?_
  try rw [ixm h2 (by decide)]
  refine iq h3 ?_
  refine eX7_cancel_23 ?_
  rw [i3_one]
  exact k
theorem qX10_breaksOff_0 {x1 : Int32} {x2 : Int32} {M : am_M} {M1 : am_M} {j1 : Nat} (h1 : fX10_leave [.inr (10, 0), .inl (.int x1)] M = am_rV M1) (h2 : j1 < 40) (h3 : x1 = i3 j1) (h4 : (M1 50 0 j1) = 1) : fX10_breaksOff [.inr (10, 0), .inl (.int x1), .inl (.int x2)] M = am_rV (am_put M1 48 0 j1 0) := by
  rw [eX10_breaksOff]
  refine eX10_breaksOff_0 ?_
  refine rv h1 ?_
  refine eX10_breaksOff_5 ?_
  refine ip (ixi h3 h2 (by decide)) ?_
  try rw [ixn h3 h2 (by decide)]
  refine ip h4 ?_
  refine ip (ixi h3 h2 (by decide)) ?_
  try rw [ixn h3 h2 (by decide)]
  refine eX10_breaksOff_31 ?_
  try simp only [am_put_nk, am_put_nf, not_false_eq_true, Nat.reduceEqDiff]
  all_goals rfl
theorem qX10_breaksOff_1 {x1 : Int32} {x2 : Int32} {M : am_M} {M1 : am_M} {j1 : Nat} {M3 : am_M} (h1 : fX10_leave [.inr (10, 0), .inl (.int x1)] M = am_rV M1) (h2 : j1 < 40) (h3 : x1 = i3 j1) (h4 : ¬ ((M1 50 0 j1) = 1)) (h5 : fX10_fail [.inr (10, 0), .inl (.int x1), .inl (.int x2)] M1 = am_rV M3) : fX10_breaksOff [.inr (10, 0), .inl (.int x1), .inl (.int x2)] M = am_rV M3 := by
  rw [eX10_breaksOff]
  refine eX10_breaksOff_0 ?_
  refine rv h1 ?_
  refine eX10_breaksOff_5 ?_
  refine ip (ixi h3 h2 (by decide)) ?_
  try rw [ixn h3 h2 (by decide)]
  refine iq h4 ?_
  refine rv h5 ?_
  refine eX10_breaksOff_31 ?_
  all_goals rfl
theorem qX10_leave_0 {x1 : Int32} {M : am_M} {j1 : Nat} {j2 : Nat} {M3 : am_M} (h1 : j1 < 40) (h2 : x1 = i3 j1) (h3 : j2 < 10) (h4 : (M 51 0 j1) = i3 j2) (h5 : fX10_cancel [.inr (10, 0), .inl (.int x1)] (am_put (am_put (am_put M 59 0 j2 3) 60 0 j2 0) 51 0 j1 (-1)) = am_rV M3) : fX10_leave [.inr (10, 0), .inl (.int x1)] M = am_rV M3 := by
  rw [eX10_leave]
  refine eX10_leave_0 ?_
  refine ip (ixi h2 h1 (by decide)) ?_
  try rw [ixn h2 h1 (by decide)]
  refine ip (ixi h4 h3 (by decide)) ?_
  try rw [ixn h4 h3 (by decide)]
  refine ip (ixi h2 h1 (by decide)) ?_
  try rw [ixn h2 h1 (by decide)]
  refine ip (ixi h4 h3 (by decide)) ?_
  try rw [ixn h4 h3 (by decide)]
  refine ip (ixi h2 h1 (by decide)) ?_
  try rw [ixn h2 h1 (by decide)]
  refine rv h5 ?_
  refine eX10_leave_36 ?_
  all_goals rfl
theorem qX10_cancel_0 {x1 : Int32} {M : am_M} {res : am_O × am_M} (k : rX10_cancel 99900 4 [.inr (10, 0), .inl (.int x1), .inl (.int 0), .inl (.int 0)] [] M = some res) : fX10_cancel [.inr (10, 0), .inl (.int x1)] M = some res := by
  rw [eX10_cancel]
  refine eX10_cancel_0 ?_
  exact k
theorem mX10_cancel {n m pc : Nat} {ls st : List am_V} {M : am_M} {res : am_O × am_M} (h : rX10_cancel n pc ls st M = some res) (hm : n ≤ m) : rX10_cancel m pc ls st M = some res := by
  have h2 := am_run_mono_add h (m - n)
  rw [show n + (m - n) = m by omega] at h2
  exact h2
theorem qX10_cancel_4_0 {x1 : Int32} {x2 : Nat} {x3 : Nat} {M : am_M} {n : Nat} (h1 : (M 10 0 36) ≤ (i3 x3)) : rX10_cancel (n + 100) 4 [.inr (10, 0), .inl (.int x1), .inl (.int (i3 x2)), .inl (.int (i3 x3))] [] M = am_rV (am_put M 10 0 36 (i3 x2)) := by
  refine eX10_cancel_4 ?_
  refine ip h1 ?_
  all_goals rfl
theorem qX10_cancel_4_1 {x1 : Int32} {x2 : Nat} {x3 : Nat} {M : am_M} {n : Nat} {res : am_O × am_M} (h1 : ¬ ((M 10 0 36) ≤ (i3 x3))) (h2 : x3 < 24) (h3 : (M 65 0 x3) = x1) (k : rX10_cancel n 4 [.inr (10, 0), .inl (.int x1), .inl (.int (i3 x2)), .inl (.int (i3 (x3 + 1)))] [] M = some res) : rX10_cancel (n + 100) 4 [.inr (10, 0), .inl (.int x1), .inl (.int (i3 x2)), .inl (.int (i3 x3))] [] M = some res := by
  refine eX10_cancel_4 ?_
  refine iq h1 ?_
  refine ip (i3_in' h2 (by decide)) ?_
  try rw [ixm h2 (by decide)]
  refine ip h3 ?_
  rw [i3_one]
  exact k
theorem qX10_cancel_4_2 {x1 : Int32} {x2 : Nat} {x3 : Nat} {M : am_M} {n : Nat} {res : am_O × am_M} {M1 : am_M} (h1 : ¬ ((M 10 0 36) ≤ (i3 x3))) (h2 : x3 < 24) (h3 : ¬ ((M 65 0 x3) = x1)) (h4 : fX10_copyBook [.inr (10, 0), .inl (.int (i3 x3)), .inl (.int (i3 x2))] M = am_rV M1) (k : rX10_cancel n 4 [.inr (10, 0), .inl (.int x1), .inl (.int (i3 (x2 + 1))), .inl (.int (i3 (x3 + 1)))] [] M1 = some res) : rX10_cancel (n + 200) 4 [.inr (10, 0), .inl (.int x1), .inl (.int (i3 x2)), .inl (.int (i3 x3))] [] M = some res := by
  refine eX10_cancel_4 ?_
  refine iq h1 ?_
  refine ip (i3_in' h2 (by decide)) ?_
  try rw [ixm h2 (by decide)]
  refine iq h3 ?_
  refine rv h4 ?_
  refine eX10_cancel_28 ?_
  rw [i3_one]
  try rw [i3_one]
  exact k
theorem qX10_copyBook_0 {x1 : Int32} {x2 : Int32} {M : am_M} {j1 : Nat} {j2 : Nat} (h1 : j1 < 24) (h2 : x1 = i3 j1) (h3 : j2 < 24) (h4 : x2 = i3 j2) : fX10_copyBook [.inr (10, 0), .inl (.int x1), .inl (.int x2)] M = am_rV (am_put (am_put (am_put (am_put (am_put M 61 0 j2 (M 61 0 j1)) 62 0 j2 (M 62 0 j1)) 63 0 j2 (M 63 0 j1)) 64 0 j2 (M 64 0 j1)) 65 0 j2 (M 65 0 j1)) := by
  rw [eX10_copyBook]
  refine eX10_copyBook_0 ?_
  refine ip (ixi h2 h1 (by decide)) ?_
  try rw [ixn h2 h1 (by decide)]
  refine ip (ixi h4 h3 (by decide)) ?_
  try rw [ixn h4 h3 (by decide)]
  refine ip (ixi h2 h1 (by decide)) ?_
  try rw [ixn h2 h1 (by decide)]
  refine ip (ixi h4 h3 (by decide)) ?_
  try rw [ixn h4 h3 (by decide)]
  refine ip (ixi h2 h1 (by decide)) ?_
  try rw [ixn h2 h1 (by decide)]
  refine ip (ixi h4 h3 (by decide)) ?_
  try rw [ixn h4 h3 (by decide)]
  refine ip (ixi h2 h1 (by decide)) ?_
  try rw [ixn h2 h1 (by decide)]
  refine ip (ixi h4 h3 (by decide)) ?_
  try rw [ixn h4 h3 (by decide)]
  refine ip (ixi h2 h1 (by decide)) ?_
  try rw [ixn h2 h1 (by decide)]
  refine ip (ixi h4 h3 (by decide)) ?_
  try rw [ixn h4 h3 (by decide)]
  all_goals rfl
theorem qX10_fail_0 {x1 : Int32} {x2 : Int32} {M : am_M} {j1 : Nat} (h1 : j1 < 40) (h2 : x1 = i3 j1) : fX10_fail [.inr (10, 0), .inl (.int x1), .inl (.int x2)] M = am_rV (am_put (am_put M 48 0 j1 3) 49 0 j1 x2) := by
  rw [eX10_fail]
  refine eX10_fail_0 ?_
  refine ip (ixi h2 h1 (by decide)) ?_
  try rw [ixn h2 h1 (by decide)]
  refine ip (ixi h2 h1 (by decide)) ?_
  try rw [ixn h2 h1 (by decide)]
  all_goals rfl
theorem qX9_giveReagent_0 {M : am_M} (h1 : ¬ (0 ≤ (M 20 0 0) ∧ (M 20 0 0) ≤ 9)) : fX9_giveReagent [.inr (9, 0)] M = am_rV M := by
  rw [eX9_giveReagent]
  refine eX9_giveReagent_0 ?_
  refine ri (sX9_isWithin _ _ _ _) ?_
  refine eX9_giveReagent_15 ?_
  refine ip (bi_f h1) ?_
  all_goals rfl
theorem qX9_giveReagent_1 {M : am_M} {j1 : Nat} {M2 : am_M} (h1 : 0 ≤ (M 20 0 0) ∧ (M 20 0 0) ≤ 9) (h2 : (am_b (M 9 0 11)) = 0) (h3 : j1 < 10) (h4 : (M 20 0 0) = i3 j1) (h5 : fX9_giveNextDose [.inr (9, 0), .inr (1, j1)] M = am_rV M2) : fX9_giveReagent [.inr (9, 0)] M = am_rV M2 := by
  rw [eX9_giveReagent]
  refine eX9_giveReagent_0 ?_
  refine ri (sX9_isWithin _ _ _ _) ?_
  refine eX9_giveReagent_15 ?_
  refine iq (fun e => bi_0.mp e h1) ?_
  refine ip h2 ?_
  refine ip (ixi h4 h3 (by decide)) ?_
  try rw [ixn h4 h3 (by decide)]
  refine rv h5 ?_
  refine eX9_giveReagent_50 ?_
  all_goals rfl
theorem qX9_giveReagent_2 {M : am_M} {M1 : am_M} (h1 : 0 ≤ (M 20 0 0) ∧ (M 20 0 0) ≤ 9) (h2 : ¬ ((am_b (M 9 0 11)) = 0)) (h3 : fX9_breakOff [.inr (9, 0), .inl (.int (M 20 0 0)), .inl (.int 4)] (am_put M 9 0 11 0) = am_rV M1) : fX9_giveReagent [.inr (9, 0)] M = am_rV M1 := by
  rw [eX9_giveReagent]
  refine eX9_giveReagent_0 ?_
  refine ri (sX9_isWithin _ _ _ _) ?_
  refine eX9_giveReagent_15 ?_
  refine iq (fun e => bi_0.mp e h1) ?_
  refine iq h2 ?_
  refine rv h3 ?_
  refine eX9_giveReagent_37 ?_
  refine eX9_giveReagent_50 ?_
  all_goals rfl
theorem qX9_giveNextDose_0 {x1 : Nat} {M : am_M} (h1 : 2 ≤ (M 1 x1 4)) : fX9_giveNextDose [.inr (9, 0), .inr (1, x1)] M = am_rV M := by
  rw [eX9_giveNextDose]
  refine eX9_giveNextDose_0 ?_
  refine ip h1 ?_
  all_goals rfl
theorem qX9_giveNextDose_1 {x1 : Nat} {M : am_M} {j1 : Nat} (h1 : ¬ (2 ≤ (M 1 x1 4))) (h2 : j1 < 2) (h3 : (M 1 x1 4) = i3 j1) (h4 : ¬ (0 ≤ (M 14 x1 j1) ∧ (M 14 x1 j1) ≤ 7)) : fX9_giveNextDose [.inr (9, 0), .inr (1, x1)] M = am_rV M := by
  rw [eX9_giveNextDose]
  refine eX9_giveNextDose_0 ?_
  refine iq h1 ?_
  refine ip (ixi h3 h2 (by decide)) ?_
  try rw [ixn h3 h2 (by decide)]
  refine ri (sX9_isWithin _ _ _ _) ?_
  refine eX9_giveNextDose_22 ?_
  refine ip (bi_f h4) ?_
  all_goals rfl
theorem qX9_giveNextDose_2 {x1 : Nat} {M : am_M} {j1 : Nat} {j2 : Nat} (h1 : ¬ (2 ≤ (M 1 x1 4))) (h2 : j1 < 2) (h3 : (M 1 x1 4) = i3 j1) (h4 : 0 ≤ (M 14 x1 j1) ∧ (M 14 x1 j1) ≤ 7) (h5 : j2 < 8) (h6 : (M 14 x1 j1) = i3 j2) : fX9_giveNextDose [.inr (9, 0), .inr (1, x1)] M = am_rV (am_put (am_put (am_put (am_put M 5 j2 2 ((M 5 j2 2) - (M 15 x1 j1))) 5 j2 1 (((am_put M 5 j2 2 ((M 5 j2 2) - (M 15 x1 j1))) 5 j2 1) - (M 15 x1 j1))) 1 x1 9 ((M 1 x1 9) + (M 15 x1 j1))) 1 x1 4 ((M 1 x1 4) + 1)) := by
  rw [eX9_giveNextDose]
  refine eX9_giveNextDose_0 ?_
  refine iq h1 ?_
  refine ip (ixi h3 h2 (by decide)) ?_
  try rw [ixn h3 h2 (by decide)]
  refine ri (sX9_isWithin _ _ _ _) ?_
  refine eX9_giveNextDose_22 ?_
  refine iq (fun e => bi_0.mp e h4) ?_
  refine ip (ixi h3 h2 (by decide)) ?_
  try rw [ixn h3 h2 (by decide)]
  refine ip (ixi h3 h2 (by decide)) ?_
  try rw [ixn h3 h2 (by decide)]
  refine ip (ixi h6 h5 (by decide)) ?_
  try rw [ixn h6 h5 (by decide)]
  all_goals rfl
theorem qX10_give_0 {M : am_M} {res : am_O × am_M} (k : rX10_give 99900 2 [.inr (10, 0), .inl (.int 0), am_D] [] M = some res) : fX10_give [.inr (10, 0)] M = some res := by
  rw [eX10_give]
  refine eX10_give_0 ?_
  exact k
theorem mX10_give {n m pc : Nat} {ls st : List am_V} {M : am_M} {res : am_O × am_M} (h : rX10_give n pc ls st M = some res) (hm : n ≤ m) : rX10_give m pc ls st M = some res := by
  have h2 := am_run_mono_add h (m - n)
  rw [show n + (m - n) = m by omega] at h2
  exact h2
theorem qX10_give_2_0 {x1 : Nat} {M : am_M} {n : Nat} (h1 : (M 10 0 36) ≤ (i3 x1)) : rX10_give (n + 100) 2 [.inr (10, 0), .inl (.int (i3 x1)), am_D] [] M = am_rV M := by
  refine eX10_give_2 ?_
  refine ip h1 ?_
  all_goals rfl
theorem qX10_give_2_1 {x1 : Nat} {M : am_M} {n : Nat} {j1 : Nat} {j2 : Nat} {j3 : Nat} {M4 : am_M} (h1 : ¬ ((M 10 0 36) ≤ (i3 x1))) (h2 : x1 < 24) (h3 : (M 61 0 x1) = (M 10 0 42)) (h4 : (am_b (M 10 0 47)) = 0) (h5 : j1 < 8) (h6 : (M 63 0 x1) = i3 j1) (h7 : j2 < 40) (h8 : (M 65 0 x1) = i3 j2) (h9 : j3 < 10) (h10 : (M 51 0 j2) = i3 j3) (h11 : fX10_copyBook [.inr (10, 0), .inl (.int ((M 10 0 36) - 1)), .inl (.int (i3 x1))] (am_put (am_put (am_put (am_put (am_put M 10 0 37 (M 10 0 42)) 10 0 38 (M 62 0 x1)) 41 0 j1 ((M 41 0 j1) - (M 64 0 x1))) 60 0 j3 ((M 60 0 j3) + (M 64 0 x1))) 10 0 36 ((M 10 0 36) - 1)) = am_rV M4) : rX10_give (n + 200) 2 [.inr (10, 0), .inl (.int (i3 x1)), am_D] [] M = am_rV M4 := by
  refine eX10_give_2 ?_
  refine iq h1 ?_
  refine ip (i3_in' h2 (by decide)) ?_
  try rw [ixm h2 (by decide)]
  refine ip h3 ?_
  refine ip (i3_in' h2 (by decide)) ?_
  try rw [ixm h2 (by decide)]
  refine ip (i3_in' h2 (by decide)) ?_
  try rw [ixm h2 (by decide)]
  refine ip h4 ?_
  refine ip (i3_in' h2 (by decide)) ?_
  try rw [ixm h2 (by decide)]
  refine ip (ixi h6 h5 (by decide)) ?_
  try rw [ixn h6 h5 (by decide)]
  refine ip (i3_in' h2 (by decide)) ?_
  try rw [ixm h2 (by decide)]
  refine ip (ixi h6 h5 (by decide)) ?_
  try rw [ixn h6 h5 (by decide)]
  refine ip (ixi h8 h7 (by decide)) ?_
  try rw [ixn h8 h7 (by decide)]
  refine ip (ixi h10 h9 (by decide)) ?_
  try rw [ixn h10 h9 (by decide)]
  refine ip (i3_in' h2 (by decide)) ?_
  try rw [ixm h2 (by decide)]
  refine ip (ixi h10 h9 (by decide)) ?_
  try rw [ixn h10 h9 (by decide)]
  refine rv h11 ?_
  refine eX10_give_126 ?_
  all_goals rfl
theorem qX10_give_2_2 {x1 : Nat} {M : am_M} {n : Nat} {M1 : am_M} (h1 : ¬ ((M 10 0 36) ≤ (i3 x1))) (h2 : x1 < 24) (h3 : (M 61 0 x1) = (M 10 0 42)) (h4 : ¬ ((am_b (M 10 0 47)) = 0)) (h5 : fX10_breaksOff [.inr (10, 0), .inl (.int (M 65 0 x1)), .inl (.int 4)] (am_put (am_put (am_put M 10 0 37 (M 10 0 42)) 10 0 38 (M 62 0 x1)) 10 0 47 0) = am_rV M1) : rX10_give (n + 200) 2 [.inr (10, 0), .inl (.int (i3 x1)), am_D] [] M = am_rV M1 := by
  refine eX10_give_2 ?_
  refine iq h1 ?_
  refine ip (i3_in' h2 (by decide)) ?_
  try rw [ixm h2 (by decide)]
  refine ip h3 ?_
  refine ip (i3_in' h2 (by decide)) ?_
  try rw [ixm h2 (by decide)]
  refine ip (i3_in' h2 (by decide)) ?_
  try rw [ixm h2 (by decide)]
  refine iq h4 ?_
  refine rv h5 ?_
  refine eX10_give_66 ?_
  all_goals rfl
theorem qX10_give_2_3 {x1 : Nat} {M : am_M} {n : Nat} {res : am_O × am_M} (h1 : ¬ ((M 10 0 36) ≤ (i3 x1))) (h2 : x1 < 24) (h3 : ¬ ((M 61 0 x1) = (M 10 0 42))) (k : rX10_give n 2 [.inr (10, 0), .inl (.int (i3 (x1 + 1))), am_D] [] M = some res) : rX10_give (n + 100) 2 [.inr (10, 0), .inl (.int (i3 x1)), am_D] [] M = some res := by
  refine eX10_give_2 ?_
  refine iq h1 ?_
  refine ip (i3_in' h2 (by decide)) ?_
  try rw [ixm h2 (by decide)]
  refine iq h3 ?_
  rw [i3_one]
  exact k
