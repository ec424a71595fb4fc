/-! ===== the ways through the methods ===== -/
theorem qX9_step_0 {M : am_M} {M1 : am_M} {M2 : am_M} {M3 : am_M} {M4 : am_M} {v5 : Int32} {M6 : am_M} {v7 : Int32} {M8 : am_M} (h1 : fX9_turnDisc [.inr (9, 0)] M = am_rV M1) (h2 : fX9_giveReagent [.inr (9, 0)] M1 = am_rV M2) (h3 : fX9_takeReadings [.inr (9, 0)] M2 = am_rV M3) (h4 : fX9_judgeEndedRuns [.inr (9, 0)] M3 = am_rV M4) (h5 : fX9_startFirst [.inr (9, 0), .inl (.int 1)] M4 = am_rI v5 M6) (h6 : v5 = (-1)) (h7 : fX9_startFirst [.inr (9, 0), .inl (.int 0)] M6 = am_rI v7 M8) (h8 : v7 = (-1)) : fX9_step [.inr (9, 0)] M = am_rI v7 (am_put M8 9 0 12 ((M8 9 0 12) + 1)) := by
  rw [eX9_step]
  refine eX9_step_0 ?_
  try simp only [am_put_nk, am_put_nf, am_put_i, not_false_eq_true, Nat.reduceEqDiff]
  refine rv h1 ?_
  refine eX9_step_4 ?_
  try simp only [am_put_nk, am_put_nf, am_put_i, not_false_eq_true, Nat.reduceEqDiff]
  refine rv h2 ?_
  refine eX9_step_8 ?_
  try simp only [am_put_nk, am_put_nf, am_put_i, not_false_eq_true, Nat.reduceEqDiff]
  refine rv h3 ?_
  refine eX9_step_12 ?_
  try simp only [am_put_nk, am_put_nf, am_put_i, not_false_eq_true, Nat.reduceEqDiff]
  refine rv h4 ?_
  refine eX9_step_16 ?_
  try simp only [am_put_nk, am_put_nf, am_put_i, not_false_eq_true, Nat.reduceEqDiff]
  refine ri h5 ?_
  refine eX9_step_21 ?_
  try simp only [am_put_nk, am_put_nf, am_put_i, not_false_eq_true, Nat.reduceEqDiff]
  refine ip h6 ?_
  refine ri h7 ?_
  refine eX9_step_32 ?_
  try simp only [am_put_nk, am_put_nf, am_put_i, not_false_eq_true, Nat.reduceEqDiff]
  refine ip h8 ?_
  all_goals rfl
theorem qX9_step_1 {M : am_M} {M1 : am_M} {M2 : am_M} {M3 : am_M} {M4 : am_M} {v5 : Int32} {M6 : am_M} {v7 : Int32} {M8 : am_M} (h1 : fX9_turnDisc [.inr (9, 0)] M = am_rV M1) (h2 : fX9_giveReagent [.inr (9, 0)] M1 = am_rV M2) (h3 : fX9_takeReadings [.inr (9, 0)] M2 = am_rV M3) (h4 : fX9_judgeEndedRuns [.inr (9, 0)] M3 = am_rV M4) (h5 : fX9_startFirst [.inr (9, 0), .inl (.int 1)] M4 = am_rI v5 M6) (h6 : v5 = (-1)) (h7 : fX9_startFirst [.inr (9, 0), .inl (.int 0)] M6 = am_rI v7 M8) (h8 : ¬ (v7 = (-1))) : fX9_step [.inr (9, 0)] M = am_rI v7 M8 := by
  rw [eX9_step]
  refine eX9_step_0 ?_
  try simp only [am_put_nk, am_put_nf, am_put_i, not_false_eq_true, Nat.reduceEqDiff]
  refine rv h1 ?_
  refine eX9_step_4 ?_
  try simp only [am_put_nk, am_put_nf, am_put_i, not_false_eq_true, Nat.reduceEqDiff]
  refine rv h2 ?_
  refine eX9_step_8 ?_
  try simp only [am_put_nk, am_put_nf, am_put_i, not_false_eq_true, Nat.reduceEqDiff]
  refine rv h3 ?_
  refine eX9_step_12 ?_
  try simp only [am_put_nk, am_put_nf, am_put_i, not_false_eq_true, Nat.reduceEqDiff]
  refine rv h4 ?_
  refine eX9_step_16 ?_
  try simp only [am_put_nk, am_put_nf, am_put_i, not_false_eq_true, Nat.reduceEqDiff]
  refine ri h5 ?_
  refine eX9_step_21 ?_
  try simp only [am_put_nk, am_put_nf, am_put_i, not_false_eq_true, Nat.reduceEqDiff]
  refine ip h6 ?_
  refine ri h7 ?_
  refine eX9_step_32 ?_
  try simp only [am_put_nk, am_put_nf, am_put_i, not_false_eq_true, Nat.reduceEqDiff]
  refine iq h8 ?_
  all_goals rfl
theorem qX9_step_2 {M : am_M} {M1 : am_M} {M2 : am_M} {M3 : am_M} {M4 : am_M} {v5 : Int32} {M6 : am_M} (h1 : fX9_turnDisc [.inr (9, 0)] M = am_rV M1) (h2 : fX9_giveReagent [.inr (9, 0)] M1 = am_rV M2) (h3 : fX9_takeReadings [.inr (9, 0)] M2 = am_rV M3) (h4 : fX9_judgeEndedRuns [.inr (9, 0)] M3 = am_rV M4) (h5 : fX9_startFirst [.inr (9, 0), .inl (.int 1)] M4 = am_rI v5 M6) (h6 : ¬ (v5 = (-1))) : fX9_step [.inr (9, 0)] M = am_rI v5 M6 := by
  rw [eX9_step]
  refine eX9_step_0 ?_
  try simp only [am_put_nk, am_put_nf, am_put_i, not_false_eq_true, Nat.reduceEqDiff]
  refine rv h1 ?_
  refine eX9_step_4 ?_
  try simp only [am_put_nk, am_put_nf, am_put_i, not_false_eq_true, Nat.reduceEqDiff]
  refine rv h2 ?_
  refine eX9_step_8 ?_
  try simp only [am_put_nk, am_put_nf, am_put_i, not_false_eq_true, Nat.reduceEqDiff]
  refine rv h3 ?_
  refine eX9_step_12 ?_
  try simp only [am_put_nk, am_put_nf, am_put_i, not_false_eq_true, Nat.reduceEqDiff]
  refine rv h4 ?_
  refine eX9_step_16 ?_
  try simp only [am_put_nk, am_put_nf, am_put_i, not_false_eq_true, Nat.reduceEqDiff]
  refine ri h5 ?_
  refine eX9_step_21 ?_
  try simp only [am_put_nk, am_put_nf, am_put_i, not_false_eq_true, Nat.reduceEqDiff]
  refine iq h6 ?_
  refine iq h6 ?_
  all_goals rfl
theorem qX10_step_0 {M : am_M} {res : am_O × am_M} {M1 : am_M} {M2 : am_M} {M3 : am_M} (h1 : fX10_goOn [.inr (10, 0)] (am_put (am_put M 10 0 45 0) 10 0 42 ((M 10 0 42) + 1)) = am_rV M1) (h2 : fX10_give [.inr (10, 0)] M1 = am_rV M2) (h3 : fX10_measure [.inr (10, 0)] M2 = am_rV M3) (k : rX10_step 99600 29 [.inr (10, 0), .inl (.int 0)] [] M3 = some res) : fX10_step [.inr (10, 0)] M = some res := by
  rw [eX10_step]
  refine eX10_step_0 ?_
  try simp only [am_put_nk, am_put_nf, am_put_i, not_false_eq_true, Nat.reduceEqDiff]
  refine rv h1 ?_
  refine eX10_step_19 ?_
  try simp only [am_put_nk, am_put_nf, am_put_i, not_false_eq_true, Nat.reduceEqDiff]
  refine rv h2 ?_
  refine eX10_step_23 ?_
  try simp only [am_put_nk, am_put_nf, am_put_i, not_false_eq_true, Nat.reduceEqDiff]
  refine rv h3 ?_
  refine eX10_step_27 ?_
  try simp only [am_put_nk, am_put_nf, am_put_i, not_false_eq_true, Nat.reduceEqDiff]
  exact k
theorem mX10_step {n m pc : Nat} {ls st : List am_V} {M : am_M} {res : am_O × am_M} (h : rX10_step n pc ls st M = some res) (hm : n ≤ m) : rX10_step m pc ls st M = some res := by
  have h2 := am_run_mono_add h (m - n)
  rw [show n + (m - n) = m by omega] at h2
  exact h2
theorem qX10_step_29_0 {x1 : Nat} {M : am_M} {n : Nat} {v1 : Int32} {M2 : am_M} (h1 : (M 10 0 14) ≤ (i3 x1)) (h2 : fX10_startOne [.inr (10, 0)] M = am_rI v1 M2) (h3 : 0 ≤ v1) : rX10_step (n + 200) 29 [.inr (10, 0), .inl (.int (i3 x1))] [] M = am_rI v1 M2 := by
  refine eX10_step_29 ?_
  try simp only [am_put_nk, am_put_nf, am_put_i, not_false_eq_true, Nat.reduceEqDiff]
  refine ip h1 ?_
  refine ri h2 ?_
  refine eX10_step_83 ?_
  try simp only [am_put_nk, am_put_nf, am_put_i, not_false_eq_true, Nat.reduceEqDiff]
  refine ip h3 ?_
  all_goals rfl
theorem qX10_step_29_1 {x1 : Nat} {M : am_M} {n : Nat} {v1 : Int32} {M2 : am_M} (h1 : (M 10 0 14) ≤ (i3 x1)) (h2 : fX10_startOne [.inr (10, 0)] M = am_rI v1 M2) (h3 : ¬ (0 ≤ v1)) : rX10_step (n + 200) 29 [.inr (10, 0), .inl (.int (i3 x1))] [] M = am_rI v1 (am_put M2 10 0 43 ((M2 10 0 43) + 1)) := by
  refine eX10_step_29 ?_
  try simp only [am_put_nk, am_put_nf, am_put_i, not_false_eq_true, Nat.reduceEqDiff]
  refine ip h1 ?_
  refine ri h2 ?_
  refine eX10_step_83 ?_
  try simp only [am_put_nk, am_put_nf, am_put_i, not_false_eq_true, Nat.reduceEqDiff]
  refine iq h3 ?_
  all_goals rfl
theorem qX10_step_29_2 {x1 : Nat} {M : am_M} {n : Nat} {res : am_O × am_M} {j2 : Nat} (h1 : ¬ ((M 10 0 14) ≤ (i3 x1))) (h2 : x1 < 40) (h3 : (M 48 0 x1) = 1) (h4 : j2 < 4) (h5 : (M 46 0 x1) = i3 j2) (h6 : (M 52 0 x1) ≤ (M 30 0 (16 * j2 + 8))) (k : rX10_step n 29 [.inr (10, 0), .inl (.int (i3 (x1 + 1)))] [] M = some res) : rX10_step (n + 300) 29 [.inr (10, 0), .inl (.int (i3 x1))] [] M = some res := by
  refine eX10_step_29 ?_
  try simp only [am_put_nk, am_put_nf, am_put_i, not_false_eq_true, Nat.reduceEqDiff]
  refine iq h1 ?_
  refine ip (i3_in' h2 (by decide)) ?_
  try rw [ixm h2 (by decide)]
  refine ip h3 ?_
  refine ip (i3_in' h2 (by decide)) ?_
  try rw [ixm h2 (by decide)]
  refine ip (i3_in' h2 (by decide)) ?_
  try rw [ixm h2 (by decide)]
  refine ri (sX10_of _ h5 h4 rfl (by decide)) ?_
  refine eX10_step_65 ?_
  try simp only [am_put_nk, am_put_nf, am_put_i, not_false_eq_true, Nat.reduceEqDiff]
  refine ip h6 ?_
  refine eX10_step_73 ?_
  try simp only [am_put_nk, am_put_nf, am_put_i, not_false_eq_true, Nat.reduceEqDiff]
  rw [i3_one]
  exact k
theorem qX10_step_29_3 {x1 : Nat} {M : am_M} {n : Nat} {res : am_O × am_M} {j2 : Nat} {M2 : am_M} (h1 : ¬ ((M 10 0 14) ≤ (i3 x1))) (h2 : x1 < 40) (h3 : (M 48 0 x1) = 1) (h4 : j2 < 4) (h5 : (M 46 0 x1) = i3 j2) (h6 : ¬ ((M 52 0 x1) ≤ (M 30 0 (16 * j2 + 8)))) (h7 : fX10_judge [.inr (10, 0), .inl (.int (i3 x1))] M = am_rV M2) (k : rX10_step n 29 [.inr (10, 0), .inl (.int (i3 (x1 + 1)))] [] M2 = some res) : rX10_step (n + 300) 29 [.inr (10, 0), .inl (.int (i3 x1))] [] M = some res := by
  refine eX10_step_29 ?_
  try simp only [am_put_nk, am_put_nf, am_put_i, not_false_eq_true, Nat.reduceEqDiff]
  refine iq h1 ?_
  refine ip (i3_in' h2 (by decide)) ?_
  try rw [ixm h2 (by decide)]
  refine ip h3 ?_
  refine ip (i3_in' h2 (by decide)) ?_
  try rw [ixm h2 (by decide)]
  refine ip (i3_in' h2 (by decide)) ?_
  try rw [ixm h2 (by decide)]
  refine ri (sX10_of _ h5 h4 rfl (by decide)) ?_
  refine eX10_step_65 ?_
  try simp only [am_put_nk, am_put_nf, am_put_i, not_false_eq_true, Nat.reduceEqDiff]
  refine iq h6 ?_
  refine rv h7 ?_
  refine eX10_step_73 ?_
  try simp only [am_put_nk, am_put_nf, am_put_i, not_false_eq_true, Nat.reduceEqDiff]
  rw [i3_one]
  exact k
theorem qX10_step_29_4 {x1 : Nat} {M : am_M} {n : Nat} {res : am_O × am_M} (h1 : ¬ ((M 10 0 14) ≤ (i3 x1))) (h2 : x1 < 40) (h3 : ¬ ((M 48 0 x1) = 1)) (k : rX10_step n 29 [.inr (10, 0), .inl (.int (i3 (x1 + 1)))] [] M = some res) : rX10_step (n + 200) 29 [.inr (10, 0), .inl (.int (i3 x1))] [] M = some res := by
  refine eX10_step_29 ?_
  try simp only [am_put_nk, am_put_nf, am_put_i, not_false_eq_true, Nat.reduceEqDiff]
  refine iq h1 ?_
  refine ip (i3_in' h2 (by decide)) ?_
  try rw [ixm h2 (by decide)]
  refine iq h3 ?_
  refine eX10_step_73 ?_
  try simp only [am_put_nk, am_put_nf, am_put_i, not_false_eq_true, Nat.reduceEqDiff]
  rw [i3_one]
  exact k
theorem qX9_startFirst_0 {x1 : Int32} {M : am_M} {res : am_O × am_M} (k : rX9_startFirst 99900 2 [.inr (9, 0), .inl (.int x1), .inl (.int 0)] [] M = some res) : fX9_startFirst [.inr (9, 0), .inl (.int x1)] M = some res := by
  rw [eX9_startFirst]
  refine eX9_startFirst_0 ?_
  try simp only [am_put_nk, am_put_nf, am_put_i, not_false_eq_true, Nat.reduceEqDiff]
  exact k
theorem mX9_startFirst {n m pc : Nat} {ls st : List am_V} {M : am_M} {res : am_O × am_M} (h : rX9_startFirst n pc ls st M = some res) (hm : n ≤ m) : rX9_startFirst m pc ls st M = some res := by
  have h2 := am_run_mono_add h (m - n)
  rw [show n + (m - n) = m by omega] at h2
  exact h2
theorem qX9_startFirst_2_0 {x1 : Int32} {x2 : Nat} {M : am_M} {n : Nat} (h1 : (M 9 0 7) ≤ (i3 x2)) : rX9_startFirst (n + 100) 2 [.inr (9, 0), .inl (.int x1), .inl (.int (i3 x2))] [] M = am_rI (-1) M := by
  refine eX9_startFirst_2 ?_
  try simp only [am_put_nk, am_put_nf, am_put_i, not_false_eq_true, Nat.reduceEqDiff]
  refine ip h1 ?_
  all_goals rfl
theorem qX9_startFirst_2_1 {x1 : Int32} {x2 : Nat} {M : am_M} {n : Nat} {res : am_O × am_M} {v1 : Int32} {M2 : am_M} (h1 : ¬ ((M 9 0 7) ≤ (i3 x2))) (h2 : x2 < 40) (h3 : (M 4 x2 3) = 0) (h4 : (am_b (M 4 x2 2)) = x1) (h5 : fX9_tryStart [.inr (9, 0), .inl (.int (i3 x2))] M = am_rI v1 M2) (h6 : v1 = 0) (k : rX9_startFirst n 2 [.inr (9, 0), .inl (.int x1), .inl (.int (i3 (x2 + 1)))] [] M2 = some res) : rX9_startFirst (n + 200) 2 [.inr (9, 0), .inl (.int x1), .inl (.int (i3 x2))] [] M = some res := by
  refine eX9_startFirst_2 ?_
  try simp only [am_put_nk, am_put_nf, am_put_i, not_false_eq_true, Nat.reduceEqDiff]
  refine iq h1 ?_
  refine ip (i3_in' h2 (by decide)) ?_
  try rw [ixm h2 (by decide)]
  refine ip h3 ?_
  refine ip (i3_in' h2 (by decide)) ?_
  try rw [ixm h2 (by decide)]
  refine ip h4 ?_
  refine ri h5 ?_
  refine eX9_startFirst_40 ?_
  try simp only [am_put_nk, am_put_nf, am_put_i, not_false_eq_true, Nat.reduceEqDiff]
  refine ip h6 ?_
  rw [i3_one]
  exact k
theorem qX9_startFirst_2_2 {x1 : Int32} {x2 : Nat} {M : am_M} {n : Nat} {v1 : Int32} {M2 : am_M} (h1 : ¬ ((M 9 0 7) ≤ (i3 x2))) (h2 : x2 < 40) (h3 : (M 4 x2 3) = 0) (h4 : (am_b (M 4 x2 2)) = x1) (h5 : fX9_tryStart [.inr (9, 0), .inl (.int (i3 x2))] M = am_rI v1 M2) (h6 : ¬ (v1 = 0)) : rX9_startFirst (n + 200) 2 [.inr (9, 0), .inl (.int x1), .inl (.int (i3 x2))] [] M = am_rI (i3 x2) M2 := by
  refine eX9_startFirst_2 ?_
  try simp only [am_put_nk, am_put_nf, am_put_i, not_false_eq_true, Nat.reduceEqDiff]
  refine iq h1 ?_
  refine ip (i3_in' h2 (by decide)) ?_
  try rw [ixm h2 (by decide)]
  refine ip h3 ?_
  refine ip (i3_in' h2 (by decide)) ?_
  try rw [ixm h2 (by decide)]
  refine ip h4 ?_
  refine ri h5 ?_
  refine eX9_startFirst_40 ?_
  try simp only [am_put_nk, am_put_nf, am_put_i, not_false_eq_true, Nat.reduceEqDiff]
  refine iq h6 ?_
  all_goals rfl
theorem qX9_startFirst_2_3 {x1 : Int32} {x2 : Nat} {M : am_M} {n : Nat} {res : am_O × am_M} (h1 : ¬ ((M 9 0 7) ≤ (i3 x2))) (h2 : x2 < 40) (h3 : (M 4 x2 3) = 0) (h4 : ¬ ((am_b (M 4 x2 2)) = x1)) (k : rX9_startFirst n 2 [.inr (9, 0), .inl (.int x1), .inl (.int (i3 (x2 + 1)))] [] M = some res) : rX9_startFirst (n + 100) 2 [.inr (9, 0), .inl (.int x1), .inl (.int (i3 x2))] [] M = some res := by
  refine eX9_startFirst_2 ?_
  try simp only [am_put_nk, am_put_nf, am_put_i, not_false_eq_true, Nat.reduceEqDiff]
  refine iq h1 ?_
  refine ip (i3_in' h2 (by decide)) ?_
  try rw [ixm h2 (by decide)]
  refine ip h3 ?_
  refine ip (i3_in' h2 (by decide)) ?_
  try rw [ixm h2 (by decide)]
  refine iq h4 ?_
  rw [i3_one]
  exact k
theorem qX9_startFirst_2_4 {x1 : Int32} {x2 : Nat} {M : am_M} {n : Nat} {res : am_O × am_M} (h1 : ¬ ((M 9 0 7) ≤ (i3 x2))) (h2 : x2 < 40) (h3 : ¬ ((M 4 x2 3) = 0)) (k : rX9_startFirst n 2 [.inr (9, 0), .inl (.int x1), .inl (.int (i3 (x2 + 1)))] [] M = some res) : rX9_startFirst (n + 100) 2 [.inr (9, 0), .inl (.int x1), .inl (.int (i3 x2))] [] M = some res := by
  refine eX9_startFirst_2 ?_
  try simp only [am_put_nk, am_put_nf, am_put_i, not_false_eq_true, Nat.reduceEqDiff]
  refine iq h1 ?_
  refine ip (i3_in' h2 (by decide)) ?_
  try rw [ixm h2 (by decide)]
  refine iq h3 ?_
  rw [i3_one]
  exact k
theorem qX10_startOne_0 {M : am_M} {res : am_O × am_M} (k : rX10_startOne 99900 2 [.inr (10, 0), .inl (.int 1), am_D] [] M = some res) : fX10_startOne [.inr (10, 0)] M = some res := by
  rw [eX10_startOne]
  refine eX10_startOne_0 ?_
  try simp only [am_put_nk, am_put_nf, am_put_i, not_false_eq_true, Nat.reduceEqDiff]
  exact k
theorem mX10_startOne {n m pc : Nat} {ls st : List am_V} {M : am_M} {res : am_O × am_M} (h : rX10_startOne n pc ls st M = some res) (hm : n ≤ m) : rX10_startOne m pc ls st M = some res := by
  have h2 := am_run_mono_add h (m - n)
  rw [show n + (m - n) = m by omega] at h2
  exact h2
theorem qX10_startOne_2_0 {x1 : Nat} {x2 : am_V} {M : am_M} {n : Nat} (h1 : (i3 x1) < 0) : rX10_startOne (n + 100) 2 [.inr (10, 0), .inl (.int (i3 x1)), x2] [] M = am_rI (-1) M := by
  refine eX10_startOne_2 ?_
  try simp only [am_put_nk, am_put_nf, am_put_i, not_false_eq_true, Nat.reduceEqDiff]
  refine ip h1 ?_
  all_goals rfl
theorem qX10_startOne_2_1 {x1 : Nat} {x2 : am_V} {M : am_M} {n : Nat} {res : am_O × am_M} (h1 : ¬ ((i3 x1) < 0)) (k : rX10_startOne n 8 [.inr (10, 0), .inl (.int (i3 x1)), .inl (.int 0)] [] M = some res) : rX10_startOne (n + 100) 2 [.inr (10, 0), .inl (.int (i3 x1)), x2] [] M = some res := by
  refine eX10_startOne_2 ?_
  try simp only [am_put_nk, am_put_nf, am_put_i, not_false_eq_true, Nat.reduceEqDiff]
  refine iq h1 ?_
  exact k
theorem qX10_startOne_8_0 {x1 : Int32} {x2 : Nat} {M : am_M} {n : Nat} {res : am_O × am_M} (h1 : (M 10 0 14) ≤ (i3 x2)) (k : rX10_startOne n 2 [.inr (10, 0), .inl (.int (x1 + (-1))), .inl (.int (i3 x2))] [] M = some res) : rX10_startOne (n + 100) 8 [.inr (10, 0), .inl (.int x1), .inl (.int (i3 x2))] [] M = some res := by
  refine eX10_startOne_8 ?_
  try simp only [am_put_nk, am_put_nf, am_put_i, not_false_eq_true, Nat.reduceEqDiff]
  refine ip h1 ?_
  exact k
theorem qX10_startOne_8_1 {x1 : Int32} {x2 : Nat} {M : am_M} {n : Nat} {res : am_O × am_M} {v1 : Int32} {M2 : am_M} (h1 : ¬ ((M 10 0 14) ≤ (i3 x2))) (h2 : x2 < 40) (h3 : (M 48 0 x2) = 0) (h4 : x1 = 1) (h5 : (am_b (M 47 0 x2)) = 1) (h6 : fX10_tries [.inr (10, 0), .inl (.int (i3 x2))] M = am_rI v1 M2) (h7 : v1 = 0) (k : rX10_startOne n 8 [.inr (10, 0), .inl (.int x1), .inl (.int (i3 (x2 + 1)))] [] M2 = some res) : rX10_startOne (n + 200) 8 [.inr (10, 0), .inl (.int x1), .inl (.int (i3 x2))] [] M = some res := by
  refine eX10_startOne_8 ?_
  try simp only [am_put_nk, am_put_nf, am_put_i, not_false_eq_true, Nat.reduceEqDiff]
  refine iq h1 ?_
  refine ip (i3_in' h2 (by decide)) ?_
  try rw [ixm h2 (by decide)]
  refine ip h3 ?_
  refine ip (i3_in' h2 (by decide)) ?_
  try rw [ixm h2 (by decide)]
  refine ip h4 ?_
  refine ip h5 ?_
  refine ri h6 ?_
  refine eX10_startOne_49 ?_
  try simp only [am_put_nk, am_put_nf, am_put_i, not_false_eq_true, Nat.reduceEqDiff]
  refine ip h7 ?_
  rw [i3_one]
  exact k
theorem qX10_startOne_8_2 {x1 : Int32} {x2 : Nat} {M : am_M} {n : Nat} {v1 : Int32} {M2 : am_M} (h1 : ¬ ((M 10 0 14) ≤ (i3 x2))) (h2 : x2 < 40) (h3 : (M 48 0 x2) = 0) (h4 : x1 = 1) (h5 : (am_b (M 47 0 x2)) = 1) (h6 : fX10_tries [.inr (10, 0), .inl (.int (i3 x2))] M = am_rI v1 M2) (h7 : ¬ (v1 = 0)) : rX10_startOne (n + 200) 8 [.inr (10, 0), .inl (.int x1), .inl (.int (i3 x2))] [] M = am_rI (i3 x2) M2 := by
  refine eX10_startOne_8 ?_
  try simp only [am_put_nk, am_put_nf, am_put_i, not_false_eq_true, Nat.reduceEqDiff]
  refine iq h1 ?_
  refine ip (i3_in' h2 (by decide)) ?_
  try rw [ixm h2 (by decide)]
  refine ip h3 ?_
  refine ip (i3_in' h2 (by decide)) ?_
  try rw [ixm h2 (by decide)]
  refine ip h4 ?_
  refine ip h5 ?_
  refine ri h6 ?_
  refine eX10_startOne_49 ?_
  try simp only [am_put_nk, am_put_nf, am_put_i, not_false_eq_true, Nat.reduceEqDiff]
  refine iq h7 ?_
  all_goals rfl
theorem qX10_startOne_8_3 {x1 : Int32} {x2 : Nat} {M : am_M} {n : Nat} {res : am_O × am_M} (h1 : ¬ ((M 10 0 14) ≤ (i3 x2))) (h2 : x2 < 40) (h3 : (M 48 0 x2) = 0) (h4 : x1 = 1) (h5 : ¬ ((am_b (M 47 0 x2)) = 1)) (k : rX10_startOne n 8 [.inr (10, 0), .inl (.int x1), .inl (.int (i3 (x2 + 1)))] [] M = some res) : rX10_startOne (n + 100) 8 [.inr (10, 0), .inl (.int x1), .inl (.int (i3 x2))] [] M = some res := by
  refine eX10_startOne_8 ?_
  try simp only [am_put_nk, am_put_nf, am_put_i, not_false_eq_true, Nat.reduceEqDiff]
  refine iq h1 ?_
  refine ip (i3_in' h2 (by decide)) ?_
  try rw [ixm h2 (by decide)]
  refine ip h3 ?_
  refine ip (i3_in' h2 (by decide)) ?_
  try rw [ixm h2 (by decide)]
  refine ip h4 ?_
  refine iq h5 ?_
  rw [i3_one]
  exact k
theorem qX10_startOne_8_4 {x1 : Int32} {x2 : Nat} {M : am_M} {n : Nat} {res : am_O × am_M} {v1 : Int32} {M2 : am_M} (h1 : ¬ ((M 10 0 14) ≤ (i3 x2))) (h2 : x2 < 40) (h3 : (M 48 0 x2) = 0) (h4 : ¬ (x1 = 1)) (h5 : (am_b (M 47 0 x2)) = 0) (h6 : fX10_tries [.inr (10, 0), .inl (.int (i3 x2))] M = am_rI v1 M2) (h7 : v1 = 0) (k : rX10_startOne n 8 [.inr (10, 0), .inl (.int x1), .inl (.int (i3 (x2 + 1)))] [] M2 = some res) : rX10_startOne (n + 200) 8 [.inr (10, 0), .inl (.int x1), .inl (.int (i3 x2))] [] M = some res := by
  refine eX10_startOne_8 ?_
  try simp only [am_put_nk, am_put_nf, am_put_i, not_false_eq_true, Nat.reduceEqDiff]
  refine iq h1 ?_
  refine ip (i3_in' h2 (by decide)) ?_
  try rw [ixm h2 (by decide)]
  refine ip h3 ?_
  refine ip (i3_in' h2 (by decide)) ?_
  try rw [ixm h2 (by decide)]
  refine iq h4 ?_
  refine ip h5 ?_
  refine ri h6 ?_
  refine eX10_startOne_49 ?_
  try simp only [am_put_nk, am_put_nf, am_put_i, not_false_eq_true, Nat.reduceEqDiff]
  refine ip h7 ?_
  rw [i3_one]
  exact k
theorem qX10_startOne_8_5 {x1 : Int32} {x2 : Nat} {M : am_M} {n : Nat} {v1 : Int32} {M2 : am_M} (h1 : ¬ ((M 10 0 14) ≤ (i3 x2))) (h2 : x2 < 40) (h3 : (M 48 0 x2) = 0) (h4 : ¬ (x1 = 1)) (h5 : (am_b (M 47 0 x2)) = 0) (h6 : fX10_tries [.inr (10, 0), .inl (.int (i3 x2))] M = am_rI v1 M2) (h7 : ¬ (v1 = 0)) : rX10_startOne (n + 200) 8 [.inr (10, 0), .inl (.int x1), .inl (.int (i3 x2))] [] M = am_rI (i3 x2) M2 := by
  refine eX10_startOne_8 ?_
  try simp only [am_put_nk, am_put_nf, am_put_i, not_false_eq_true, Nat.reduceEqDiff]
  refine iq h1 ?_
  refine ip (i3_in' h2 (by decide)) ?_
  try rw [ixm h2 (by decide)]
  refine ip h3 ?_
  refine ip (i3_in' h2 (by decide)) ?_
  try rw [ixm h2 (by decide)]
  refine iq h4 ?_
  refine ip h5 ?_
  refine ri h6 ?_
  refine eX10_startOne_49 ?_
  try simp only [am_put_nk, am_put_nf, am_put_i, not_false_eq_true, Nat.reduceEqDiff]
  refine iq h7 ?_
  all_goals rfl
theorem qX10_startOne_8_6 {x1 : Int32} {x2 : Nat} {M : am_M} {n : Nat} {res : am_O × am_M} (h1 : ¬ ((M 10 0 14) ≤ (i3 x2))) (h2 : x2 < 40) (h3 : (M 48 0 x2) = 0) (h4 : ¬ (x1 = 1)) (h5 : ¬ ((am_b (M 47 0 x2)) = 0)) (k : rX10_startOne n 8 [.inr (10, 0), .inl (.int x1), .inl (.int (i3 (x2 + 1)))] [] M = some res) : rX10_startOne (n + 100) 8 [.inr (10, 0), .inl (.int x1), .inl (.int (i3 x2))] [] M = some res := by
  refine eX10_startOne_8 ?_
  try simp only [am_put_nk, am_put_nf, am_put_i, not_false_eq_true, Nat.reduceEqDiff]
  refine iq h1 ?_
  refine ip (i3_in' h2 (by decide)) ?_
  try rw [ixm h2 (by decide)]
  refine ip h3 ?_
  refine ip (i3_in' h2 (by decide)) ?_
  try rw [ixm h2 (by decide)]
  refine iq h4 ?_
  refine iq h5 ?_
  rw [i3_one]
  exact k
theorem qX10_startOne_8_7 {x1 : Int32} {x2 : Nat} {M : am_M} {n : Nat} {res : am_O × am_M} (h1 : ¬ ((M 10 0 14) ≤ (i3 x2))) (h2 : x2 < 40) (h3 : ¬ ((M 48 0 x2) = 0)) (k : rX10_startOne n 8 [.inr (10, 0), .inl (.int x1), .inl (.int (i3 (x2 + 1)))] [] M = some res) : rX10_startOne (n + 100) 8 [.inr (10, 0), .inl (.int x1), .inl (.int (i3 x2))] [] M = some res := by
  refine eX10_startOne_8 ?_
  try simp only [am_put_nk, am_put_nf, am_put_i, not_false_eq_true, Nat.reduceEqDiff]
  refine iq h1 ?_
  refine ip (i3_in' h2 (by decide)) ?_
  try rw [ixm h2 (by decide)]
  refine iq h3 ?_
  rw [i3_one]
  exact k
theorem qX9_tryStart_0 {x1 : Int32} {M : am_M} {j1 : Nat} {j2 : Nat} {v3 : Int32} (h1 : j1 < 40) (h2 : x1 = i3 j1) (h3 : j2 < 4) (h4 : (M 4 j1 1) = i3 j2) (h5 : fX9_slotOf [.inr (9, 0), .inl (.int (M 4 j1 0))] M = am_rI v3 M) (h6 : v3 = (-1)) : fX9_tryStart [.inr (9, 0), .inl (.int x1)] M = am_rI 0 M := by
  rw [eX9_tryStart]
  refine eX9_tryStart_0 ?_
  try simp only [am_put_nk, am_put_nf, am_put_i, not_false_eq_true, Nat.reduceEqDiff]
  refine ip (ixi h2 h1 (by decide)) ?_
  try rw [ixn h2 h1 (by decide)]
  refine ip (ixi h4 h3 (by decide)) ?_
  try rw [ixn h4 h3 (by decide)]
  refine ri h5 ?_
  refine eX9_tryStart_25 ?_
  try simp only [am_put_nk, am_put_nf, am_put_i, not_false_eq_true, Nat.reduceEqDiff]
  refine ip h6 ?_
  all_goals rfl
theorem qX9_tryStart_1 {x1 : Int32} {M : am_M} {j1 : Nat} {j2 : Nat} {v3 : Int32} {j3 : Nat} {v5 : Int32} {v6 : Int32} {v7 : Int32} {v8 : Int32} (h1 : j1 < 40) (h2 : x1 = i3 j1) (h3 : j2 < 4) (h4 : (M 4 j1 1) = i3 j2) (h5 : fX9_slotOf [.inr (9, 0), .inl (.int (M 4 j1 0))] M = am_rI v3 M) (h6 : ¬ (v3 = (-1))) (h7 : j3 < 6) (h8 : v3 = i3 j3) (h9 : fX6_sampleVolume [.inr (6, j2), .inl (.int (am_b (M 4 j1 6)))] M = am_rI v5 M) (h10 : v5 ≤ (M 8 j3 2)) (h11 : fX9_positionFor [.inr (9, 0), .inr (6, j2), .inl (.int 0), .inl (.int (-1))] M = am_rI v6 M) (h12 : fX9_positionFor [.inr (9, 0), .inr (6, j2), .inl (.int 1), .inl (.int v6)] M = am_rI v7 M) (h13 : ¬ (¬ (M 18 j2 1) = -1 ∧ v6 = -1)) (h14 : ¬ (¬ (M 18 j2 4) = -1 ∧ v7 = -1)) (h15 : fX9_cleanCuvette [.inr (9, 0)] M = am_rI v8 M) (h16 : v8 = (-1)) : fX9_tryStart [.inr (9, 0), .inl (.int x1)] M = am_rI 0 M := by
  rw [eX9_tryStart]
  refine eX9_tryStart_0 ?_
  try simp only [am_put_nk, am_put_nf, am_put_i, not_false_eq_true, Nat.reduceEqDiff]
  refine ip (ixi h2 h1 (by decide)) ?_
  try rw [ixn h2 h1 (by decide)]
  refine ip (ixi h4 h3 (by decide)) ?_
  try rw [ixn h4 h3 (by decide)]
  refine ri h5 ?_
  refine eX9_tryStart_25 ?_
  try simp only [am_put_nk, am_put_nf, am_put_i, not_false_eq_true, Nat.reduceEqDiff]
  refine iq h6 ?_
  refine ip (ixi h8 h7 (by decide)) ?_
  try rw [ixn h8 h7 (by decide)]
  refine ri h9 ?_
  refine eX9_tryStart_53 ?_
  try simp only [am_put_nk, am_put_nf, am_put_i, not_false_eq_true, Nat.reduceEqDiff]
  refine ip h10 ?_
  refine ri h11 ?_
  refine eX9_tryStart_70 ?_
  try simp only [am_put_nk, am_put_nf, am_put_i, not_false_eq_true, Nat.reduceEqDiff]
  refine ri h12 ?_
  refine eX9_tryStart_80 ?_
  try simp only [am_put_nk, am_put_nf, am_put_i, not_false_eq_true, Nat.reduceEqDiff]
  refine ri (sX6_lacks0 _ _ _) ?_
  refine eX9_tryStart_89 ?_
  try simp only [am_put_nk, am_put_nf, am_put_i, not_false_eq_true, Nat.reduceEqDiff]
  refine ip (bi_f h13) ?_
  refine ri (sX6_lacks1 _ _ _) ?_
  refine eX9_tryStart_99 ?_
  try simp only [am_put_nk, am_put_nf, am_put_i, not_false_eq_true, Nat.reduceEqDiff]
  refine ip (bi_f h14) ?_
  refine ri h15 ?_
  refine eX9_tryStart_113 ?_
  try simp only [am_put_nk, am_put_nf, am_put_i, not_false_eq_true, Nat.reduceEqDiff]
  refine ip h16 ?_
  all_goals rfl
theorem qX9_tryStart_2 {x1 : Int32} {M : am_M} {j1 : Nat} {j2 : Nat} {v3 : Int32} {j3 : Nat} {v5 : Int32} {v6 : Int32} {v7 : Int32} {v8 : Int32} {v9 : Int32} {M10 : am_M} (h1 : j1 < 40) (h2 : x1 = i3 j1) (h3 : j2 < 4) (h4 : (M 4 j1 1) = i3 j2) (h5 : fX9_slotOf [.inr (9, 0), .inl (.int (M 4 j1 0))] M = am_rI v3 M) (h6 : ¬ (v3 = (-1))) (h7 : j3 < 6) (h8 : v3 = i3 j3) (h9 : fX6_sampleVolume [.inr (6, j2), .inl (.int (am_b (M 4 j1 6)))] M = am_rI v5 M) (h10 : v5 ≤ (M 8 j3 2)) (h11 : fX9_positionFor [.inr (9, 0), .inr (6, j2), .inl (.int 0), .inl (.int (-1))] M = am_rI v6 M) (h12 : fX9_positionFor [.inr (9, 0), .inr (6, j2), .inl (.int 1), .inl (.int v6)] M = am_rI v7 M) (h13 : ¬ (¬ (M 18 j2 1) = -1 ∧ v6 = -1)) (h14 : ¬ (¬ (M 18 j2 4) = -1 ∧ v7 = -1)) (h15 : fX9_cleanCuvette [.inr (9, 0)] M = am_rI v8 M) (h16 : ¬ (v8 = (-1))) (h17 : fX7_book [.inr (7, 0), .inr (6, j2), .inl (.int v8)] M = am_rI v9 M10) (h18 : v9 = 0) : fX9_tryStart [.inr (9, 0), .inl (.int x1)] M = am_rI 0 M10 := by
  rw [eX9_tryStart]
  refine eX9_tryStart_0 ?_
  try simp only [am_put_nk, am_put_nf, am_put_i, not_false_eq_true, Nat.reduceEqDiff]
  refine ip (ixi h2 h1 (by decide)) ?_
  try rw [ixn h2 h1 (by decide)]
  refine ip (ixi h4 h3 (by decide)) ?_
  try rw [ixn h4 h3 (by decide)]
  refine ri h5 ?_
  refine eX9_tryStart_25 ?_
  try simp only [am_put_nk, am_put_nf, am_put_i, not_false_eq_true, Nat.reduceEqDiff]
  refine iq h6 ?_
  refine ip (ixi h8 h7 (by decide)) ?_
  try rw [ixn h8 h7 (by decide)]
  refine ri h9 ?_
  refine eX9_tryStart_53 ?_
  try simp only [am_put_nk, am_put_nf, am_put_i, not_false_eq_true, Nat.reduceEqDiff]
  refine ip h10 ?_
  refine ri h11 ?_
  refine eX9_tryStart_70 ?_
  try simp only [am_put_nk, am_put_nf, am_put_i, not_false_eq_true, Nat.reduceEqDiff]
  refine ri h12 ?_
  refine eX9_tryStart_80 ?_
  try simp only [am_put_nk, am_put_nf, am_put_i, not_false_eq_true, Nat.reduceEqDiff]
  refine ri (sX6_lacks0 _ _ _) ?_
  refine eX9_tryStart_89 ?_
  try simp only [am_put_nk, am_put_nf, am_put_i, not_false_eq_true, Nat.reduceEqDiff]
  refine ip (bi_f h13) ?_
  refine ri (sX6_lacks1 _ _ _) ?_
  refine eX9_tryStart_99 ?_
  try simp only [am_put_nk, am_put_nf, am_put_i, not_false_eq_true, Nat.reduceEqDiff]
  refine ip (bi_f h14) ?_
  refine ri h15 ?_
  refine eX9_tryStart_113 ?_
  try simp only [am_put_nk, am_put_nf, am_put_i, not_false_eq_true, Nat.reduceEqDiff]
  refine iq h16 ?_
  refine ri h17 ?_
  refine eX9_tryStart_131 ?_
  try simp only [am_put_nk, am_put_nf, am_put_i, not_false_eq_true, Nat.reduceEqDiff]
  refine ip h18 ?_
  all_goals rfl
theorem qX9_tryStart_3 {x1 : Int32} {M : am_M} {j1 : Nat} {j2 : Nat} {v3 : Int32} {j3 : Nat} {v5 : Int32} {v6 : Int32} {v7 : Int32} {v8 : Int32} {v9 : Int32} {M10 : am_M} {j4 : Nat} {M12 : am_M} {M13 : am_M} {M14 : am_M} {v15 : Int32} {M16 : am_M} (h1 : j1 < 40) (h2 : x1 = i3 j1) (h3 : j2 < 4) (h4 : (M 4 j1 1) = i3 j2) (h5 : fX9_slotOf [.inr (9, 0), .inl (.int (M 4 j1 0))] M = am_rI v3 M) (h6 : ¬ (v3 = (-1))) (h7 : j3 < 6) (h8 : v3 = i3 j3) (h9 : fX6_sampleVolume [.inr (6, j2), .inl (.int (am_b (M 4 j1 6)))] M = am_rI v5 M) (h10 : v5 ≤ (M 8 j3 2)) (h11 : fX9_positionFor [.inr (9, 0), .inr (6, j2), .inl (.int 0), .inl (.int (-1))] M = am_rI v6 M) (h12 : fX9_positionFor [.inr (9, 0), .inr (6, j2), .inl (.int 1), .inl (.int v6)] M = am_rI v7 M) (h13 : ¬ (¬ (M 18 j2 1) = -1 ∧ v6 = -1)) (h14 : ¬ (¬ (M 18 j2 4) = -1 ∧ v7 = -1)) (h15 : fX9_cleanCuvette [.inr (9, 0)] M = am_rI v8 M) (h16 : ¬ (v8 = (-1))) (h17 : fX7_book [.inr (7, 0), .inr (6, j2), .inl (.int v8)] M = am_rI v9 M10) (h18 : ¬ (v9 = 0)) (h19 : j4 < 10) (h20 : v8 = i3 j4) (h21 : fX1_start [.inr (1, j4), .inl (.int x1), .inl (.int (am_b (M10 8 j3 1)))] M10 = am_rV M12) (h22 : fX9_reserve [.inr (9, 0), .inr (1, j4), .inl (.int 0), .inl (.int v6), .inl (.int (M12 18 j2 2))] M12 = am_rV M13) (h23 : fX9_reserve [.inr (9, 0), .inr (1, j4), .inl (.int 1), .inl (.int v7), .inl (.int (M13 18 j2 5))] M13 = am_rV M14) (h24 : fX6_sampleVolume [.inr (6, j2), .inl (.int (am_b (M14 4 j1 6)))] (am_put (am_put (am_put M14 4 j1 3 1) 4 j1 5 ((M14 4 j1 5) + 1)) 4 j1 7 v8) = am_rI v15 (am_put (am_put (am_put M14 4 j1 3 1) 4 j1 5 ((M14 4 j1 5) + 1)) 4 j1 7 v8)) (h25 : fX9_takeSample [.inr (9, 0), .inr (8, j3), .inl (.int v8), .inl (.int v15)] (am_put (am_put (am_put M14 4 j1 3 1) 4 j1 5 ((M14 4 j1 5) + 1)) 4 j1 7 v8) = am_rV M16) : fX9_tryStart [.inr (9, 0), .inl (.int x1)] M = am_rI 1 M16 := by
  rw [eX9_tryStart]
  refine eX9_tryStart_0 ?_
  try simp only [am_put_nk, am_put_nf, am_put_i, not_false_eq_true, Nat.reduceEqDiff]
  refine ip (ixi h2 h1 (by decide)) ?_
  try rw [ixn h2 h1 (by decide)]
  refine ip (ixi h4 h3 (by decide)) ?_
  try rw [ixn h4 h3 (by decide)]
  refine ri h5 ?_
  refine eX9_tryStart_25 ?_
  try simp only [am_put_nk, am_put_nf, am_put_i, not_false_eq_true, Nat.reduceEqDiff]
  refine iq h6 ?_
  refine ip (ixi h8 h7 (by decide)) ?_
  try rw [ixn h8 h7 (by decide)]
  refine ri h9 ?_
  refine eX9_tryStart_53 ?_
  try simp only [am_put_nk, am_put_nf, am_put_i, not_false_eq_true, Nat.reduceEqDiff]
  refine ip h10 ?_
  refine ri h11 ?_
  refine eX9_tryStart_70 ?_
  try simp only [am_put_nk, am_put_nf, am_put_i, not_false_eq_true, Nat.reduceEqDiff]
  refine ri h12 ?_
  refine eX9_tryStart_80 ?_
  try simp only [am_put_nk, am_put_nf, am_put_i, not_false_eq_true, Nat.reduceEqDiff]
  refine ri (sX6_lacks0 _ _ _) ?_
  refine eX9_tryStart_89 ?_
  try simp only [am_put_nk, am_put_nf, am_put_i, not_false_eq_true, Nat.reduceEqDiff]
  refine ip (bi_f h13) ?_
  refine ri (sX6_lacks1 _ _ _) ?_
  refine eX9_tryStart_99 ?_
  try simp only [am_put_nk, am_put_nf, am_put_i, not_false_eq_true, Nat.reduceEqDiff]
  refine ip (bi_f h14) ?_
  refine ri h15 ?_
  refine eX9_tryStart_113 ?_
  try simp only [am_put_nk, am_put_nf, am_put_i, not_false_eq_true, Nat.reduceEqDiff]
  refine iq h16 ?_
  refine ri h17 ?_
  refine eX9_tryStart_131 ?_
  try simp only [am_put_nk, am_put_nf, am_put_i, not_false_eq_true, Nat.reduceEqDiff]
  refine iq h18 ?_
  refine ip (ixi h20 h19 (by decide)) ?_
  try rw [ixn h20 h19 (by decide)]
  refine ip (ixi h8 h7 (by decide)) ?_
  try rw [ixn h8 h7 (by decide)]
  refine rv h21 ?_
  refine eX9_tryStart_157 ?_
  try simp only [am_put_nk, am_put_nf, am_put_i, not_false_eq_true, Nat.reduceEqDiff]
  refine ip (ixi h20 h19 (by decide)) ?_
  try rw [ixn h20 h19 (by decide)]
  refine rv h22 ?_
  refine eX9_tryStart_176 ?_
  try simp only [am_put_nk, am_put_nf, am_put_i, not_false_eq_true, Nat.reduceEqDiff]
  refine ip (ixi h20 h19 (by decide)) ?_
  try rw [ixn h20 h19 (by decide)]
  refine rv h23 ?_
  refine eX9_tryStart_195 ?_
  try simp only [am_put_nk, am_put_nf, am_put_i, not_false_eq_true, Nat.reduceEqDiff]
  refine ip (ixi h8 h7 (by decide)) ?_
  try rw [ixn h8 h7 (by decide)]
  refine ri h24 ?_
  refine eX9_tryStart_219 ?_
  try simp only [am_put_nk, am_put_nf, am_put_i, not_false_eq_true, Nat.reduceEqDiff]
  refine rv h25 ?_
  refine eX9_tryStart_222 ?_
  try simp only [am_put_nk, am_put_nf, am_put_i, not_false_eq_true, Nat.reduceEqDiff]
  all_goals rfl
theorem qX9_tryStart_4 {x1 : Int32} {M : am_M} {j1 : Nat} {j2 : Nat} {v3 : Int32} {j3 : Nat} {v5 : Int32} {v6 : Int32} {v7 : Int32} (h1 : j1 < 40) (h2 : x1 = i3 j1) (h3 : j2 < 4) (h4 : (M 4 j1 1) = i3 j2) (h5 : fX9_slotOf [.inr (9, 0), .inl (.int (M 4 j1 0))] M = am_rI v3 M) (h6 : ¬ (v3 = (-1))) (h7 : j3 < 6) (h8 : v3 = i3 j3) (h9 : fX6_sampleVolume [.inr (6, j2), .inl (.int (am_b (M 4 j1 6)))] M = am_rI v5 M) (h10 : v5 ≤ (M 8 j3 2)) (h11 : fX9_positionFor [.inr (9, 0), .inr (6, j2), .inl (.int 0), .inl (.int (-1))] M = am_rI v6 M) (h12 : fX9_positionFor [.inr (9, 0), .inr (6, j2), .inl (.int 1), .inl (.int v6)] M = am_rI v7 M) (h13 : ¬ (¬ (M 18 j2 1) = -1 ∧ v6 = -1)) (h14 : ¬ (M 18 j2 4) = -1 ∧ v7 = -1) : fX9_tryStart [.inr (9, 0), .inl (.int x1)] M = am_rI 0 (am_put (am_put (am_put M 4 j1 3 3) 4 j1 4 2) 4 j1 7 (-1)) := by
  rw [eX9_tryStart]
  refine eX9_tryStart_0 ?_
  try simp only [am_put_nk, am_put_nf, am_put_i, not_false_eq_true, Nat.reduceEqDiff]
  refine ip (ixi h2 h1 (by decide)) ?_
  try rw [ixn h2 h1 (by decide)]
  refine ip (ixi h4 h3 (by decide)) ?_
  try rw [ixn h4 h3 (by decide)]
  refine ri h5 ?_
  refine eX9_tryStart_25 ?_
  try simp only [am_put_nk, am_put_nf, am_put_i, not_false_eq_true, Nat.reduceEqDiff]
  refine iq h6 ?_
  refine ip (ixi h8 h7 (by decide)) ?_
  try rw [ixn h8 h7 (by decide)]
  refine ri h9 ?_
  refine eX9_tryStart_53 ?_
  try simp only [am_put_nk, am_put_nf, am_put_i, not_false_eq_true, Nat.reduceEqDiff]
  refine ip h10 ?_
  refine ri h11 ?_
  refine eX9_tryStart_70 ?_
  try simp only [am_put_nk, am_put_nf, am_put_i, not_false_eq_true, Nat.reduceEqDiff]
  refine ri h12 ?_
  refine eX9_tryStart_80 ?_
  try simp only [am_put_nk, am_put_nf, am_put_i, not_false_eq_true, Nat.reduceEqDiff]
  refine ri (sX6_lacks0 _ _ _) ?_
  refine eX9_tryStart_89 ?_
  try simp only [am_put_nk, am_put_nf, am_put_i, not_false_eq_true, Nat.reduceEqDiff]
  refine ip (bi_f h13) ?_
  refine ri (sX6_lacks1 _ _ _) ?_
  refine eX9_tryStart_99 ?_
  try simp only [am_put_nk, am_put_nf, am_put_i, not_false_eq_true, Nat.reduceEqDiff]
  refine iq (fun e => bi_0.mp e h14) ?_
  all_goals rfl
theorem qX9_tryStart_5 {x1 : Int32} {M : am_M} {j1 : Nat} {j2 : Nat} {v3 : Int32} {j3 : Nat} {v5 : Int32} {v6 : Int32} {v7 : Int32} (h1 : j1 < 40) (h2 : x1 = i3 j1) (h3 : j2 < 4) (h4 : (M 4 j1 1) = i3 j2) (h5 : fX9_slotOf [.inr (9, 0), .inl (.int (M 4 j1 0))] M = am_rI v3 M) (h6 : ¬ (v3 = (-1))) (h7 : j3 < 6) (h8 : v3 = i3 j3) (h9 : fX6_sampleVolume [.inr (6, j2), .inl (.int (am_b (M 4 j1 6)))] M = am_rI v5 M) (h10 : v5 ≤ (M 8 j3 2)) (h11 : fX9_positionFor [.inr (9, 0), .inr (6, j2), .inl (.int 0), .inl (.int (-1))] M = am_rI v6 M) (h12 : fX9_positionFor [.inr (9, 0), .inr (6, j2), .inl (.int 1), .inl (.int v6)] M = am_rI v7 M) (h13 : ¬ (M 18 j2 1) = -1 ∧ v6 = -1) : fX9_tryStart [.inr (9, 0), .inl (.int x1)] M = am_rI 0 (am_put (am_put (am_put M 4 j1 3 3) 4 j1 4 2) 4 j1 7 (-1)) := by
  rw [eX9_tryStart]
  refine eX9_tryStart_0 ?_
  try simp only [am_put_nk, am_put_nf, am_put_i, not_false_eq_true, Nat.reduceEqDiff]
  refine ip (ixi h2 h1 (by decide)) ?_
  try rw [ixn h2 h1 (by decide)]
  refine ip (ixi h4 h3 (by decide)) ?_
  try rw [ixn h4 h3 (by decide)]
  refine ri h5 ?_
  refine eX9_tryStart_25 ?_
  try simp only [am_put_nk, am_put_nf, am_put_i, not_false_eq_true, Nat.reduceEqDiff]
  refine iq h6 ?_
  refine ip (ixi h8 h7 (by decide)) ?_
  try rw [ixn h8 h7 (by decide)]
  refine ri h9 ?_
  refine eX9_tryStart_53 ?_
  try simp only [am_put_nk, am_put_nf, am_put_i, not_false_eq_true, Nat.reduceEqDiff]
  refine ip h10 ?_
  refine ri h11 ?_
  refine eX9_tryStart_70 ?_
  try simp only [am_put_nk, am_put_nf, am_put_i, not_false_eq_true, Nat.reduceEqDiff]
  refine ri h12 ?_
  refine eX9_tryStart_80 ?_
  try simp only [am_put_nk, am_put_nf, am_put_i, not_false_eq_true, Nat.reduceEqDiff]
  refine ri (sX6_lacks0 _ _ _) ?_
  refine eX9_tryStart_89 ?_
  try simp only [am_put_nk, am_put_nf, am_put_i, not_false_eq_true, Nat.reduceEqDiff]
  refine iq (fun e => bi_0.mp e h13) ?_
  all_goals rfl
theorem qX9_tryStart_6 {x1 : Int32} {M : am_M} {j1 : Nat} {j2 : Nat} {v3 : Int32} {j3 : Nat} {v5 : Int32} (h1 : j1 < 40) (h2 : x1 = i3 j1) (h3 : j2 < 4) (h4 : (M 4 j1 1) = i3 j2) (h5 : fX9_slotOf [.inr (9, 0), .inl (.int (M 4 j1 0))] M = am_rI v3 M) (h6 : ¬ (v3 = (-1))) (h7 : j3 < 6) (h8 : v3 = i3 j3) (h9 : fX6_sampleVolume [.inr (6, j2), .inl (.int (am_b (M 4 j1 6)))] M = am_rI v5 M) (h10 : ¬ (v5 ≤ (M 8 j3 2))) : fX9_tryStart [.inr (9, 0), .inl (.int x1)] M = am_rI 0 (am_put (am_put (am_put M 4 j1 3 3) 4 j1 4 1) 4 j1 7 (-1)) := by
  rw [eX9_tryStart]
  refine eX9_tryStart_0 ?_
  try simp only [am_put_nk, am_put_nf, am_put_i, not_false_eq_true, Nat.reduceEqDiff]
  refine ip (ixi h2 h1 (by decide)) ?_
  try rw [ixn h2 h1 (by decide)]
  refine ip (ixi h4 h3 (by decide)) ?_
  try rw [ixn h4 h3 (by decide)]
  refine ri h5 ?_
  refine eX9_tryStart_25 ?_
  try simp only [am_put_nk, am_put_nf, am_put_i, not_false_eq_true, Nat.reduceEqDiff]
  refine iq h6 ?_
  refine ip (ixi h8 h7 (by decide)) ?_
  try rw [ixn h8 h7 (by decide)]
  refine ri h9 ?_
  refine eX9_tryStart_53 ?_
  try simp only [am_put_nk, am_put_nf, am_put_i, not_false_eq_true, Nat.reduceEqDiff]
  refine iq h10 ?_
  all_goals rfl
theorem qX10_tries_0 {x1 : Int32} {M : am_M} {j1 : Nat} {v2 : Int32} {j3 : Nat} {j4 : Nat} {v5 : Int32} {M6 : am_M} {M7 : am_M} {M8 : am_M} (h1 : j1 < 40) (h2 : x1 = i3 j1) (h3 : fX10_slotOf [.inr (10, 0), .inl (.int (M 45 0 j1))] M = am_rI v2 M) (h4 : 0 ≤ v2) (h5 : (am_b (M 53 0 j1)) = 0) (h6 : j3 < 4) (h7 : (M 46 0 j1) = i3 j3) (h8 : j4 < 6) (h9 : v2 = i3 j4) (h10 : (M 30 0 (16 * j3 + 0)) ≤ (M 39 0 j4)) (h11 : fX10_book [.inr (10, 0), .inl (.int x1)] M = am_rI v5 M6) (h12 : v5 = 0) (h13 : fX10_cancel [.inr (10, 0), .inl (.int x1)] M6 = am_rV M7) (h14 : fX10_fail [.inr (10, 0), .inl (.int x1), .inl (.int 2)] M7 = am_rV M8) : fX10_tries [.inr (10, 0), .inl (.int x1)] M = am_rI 0 M8 := by
  rw [eX10_tries]
  refine eX10_tries_0 ?_
  try simp only [am_put_nk, am_put_nf, am_put_i, not_false_eq_true, Nat.reduceEqDiff]
  refine ip (ixi h2 h1 (by decide)) ?_
  try rw [ixn h2 h1 (by decide)]
  refine ri h3 ?_
  refine eX10_tries_10 ?_
  try simp only [am_put_nk, am_put_nf, am_put_i, not_false_eq_true, Nat.reduceEqDiff]
  refine ip h4 ?_
  refine ip (ixi h2 h1 (by decide)) ?_
  try rw [ixn h2 h1 (by decide)]
  refine ip (ixi h2 h1 (by decide)) ?_
  try rw [ixn h2 h1 (by decide)]
  refine ip h5 ?_
  refine ri (sX10_of _ h7 h6 rfl (by decide)) ?_
  refine eX10_tries_56 ?_
  try simp only [am_put_nk, am_put_nf, am_put_i, not_false_eq_true, Nat.reduceEqDiff]
  refine ip (ixi h9 h8 (by decide)) ?_
  try rw [ixn h9 h8 (by decide)]
  refine ip h10 ?_
  refine ri h11 ?_
  refine eX10_tries_82 ?_
  try simp only [am_put_nk, am_put_nf, am_put_i, not_false_eq_true, Nat.reduceEqDiff]
  refine ip h12 ?_
  refine rv h13 ?_
  refine eX10_tries_90 ?_
  try simp only [am_put_nk, am_put_nf, am_put_i, not_false_eq_true, Nat.reduceEqDiff]
  refine rv h14 ?_
  refine eX10_tries_96 ?_
  try simp only [am_put_nk, am_put_nf, am_put_i, not_false_eq_true, Nat.reduceEqDiff]
  all_goals rfl
theorem qX10_tries_1 {x1 : Int32} {M : am_M} {j1 : Nat} {v2 : Int32} {j3 : Nat} {j4 : Nat} {v5 : Int32} {M6 : am_M} {v7 : Int32} {M8 : am_M} (h1 : j1 < 40) (h2 : x1 = i3 j1) (h3 : fX10_slotOf [.inr (10, 0), .inl (.int (M 45 0 j1))] M = am_rI v2 M) (h4 : 0 ≤ v2) (h5 : (am_b (M 53 0 j1)) = 0) (h6 : j3 < 4) (h7 : (M 46 0 j1) = i3 j3) (h8 : j4 < 6) (h9 : v2 = i3 j4) (h10 : (M 30 0 (16 * j3 + 0)) ≤ (M 39 0 j4)) (h11 : fX10_book [.inr (10, 0), .inl (.int x1)] M = am_rI v5 M6) (h12 : ¬ (v5 = 0)) (h13 : fX10_clean [.inr (10, 0)] M6 = am_rI v7 M6) (h14 : v7 < 0) (h15 : fX10_cancel [.inr (10, 0), .inl (.int x1)] M6 = am_rV M8) : fX10_tries [.inr (10, 0), .inl (.int x1)] M = am_rI 0 M8 := by
  rw [eX10_tries]
  refine eX10_tries_0 ?_
  try simp only [am_put_nk, am_put_nf, am_put_i, not_false_eq_true, Nat.reduceEqDiff]
  refine ip (ixi h2 h1 (by decide)) ?_
  try rw [ixn h2 h1 (by decide)]
  refine ri h3 ?_
  refine eX10_tries_10 ?_
  try simp only [am_put_nk, am_put_nf, am_put_i, not_false_eq_true, Nat.reduceEqDiff]
  refine ip h4 ?_
  refine ip (ixi h2 h1 (by decide)) ?_
  try rw [ixn h2 h1 (by decide)]
  refine ip (ixi h2 h1 (by decide)) ?_
  try rw [ixn h2 h1 (by decide)]
  refine ip h5 ?_
  refine ri (sX10_of _ h7 h6 rfl (by decide)) ?_
  refine eX10_tries_56 ?_
  try simp only [am_put_nk, am_put_nf, am_put_i, not_false_eq_true, Nat.reduceEqDiff]
  refine ip (ixi h9 h8 (by decide)) ?_
  try rw [ixn h9 h8 (by decide)]
  refine ip h10 ?_
  refine ri h11 ?_
  refine eX10_tries_82 ?_
  try simp only [am_put_nk, am_put_nf, am_put_i, not_false_eq_true, Nat.reduceEqDiff]
  refine iq h12 ?_
  refine ri h13 ?_
  refine eX10_tries_102 ?_
  try simp only [am_put_nk, am_put_nf, am_put_i, not_false_eq_true, Nat.reduceEqDiff]
  refine ip h14 ?_
  refine rv h15 ?_
  refine eX10_tries_121 ?_
  try simp only [am_put_nk, am_put_nf, am_put_i, not_false_eq_true, Nat.reduceEqDiff]
  all_goals rfl
theorem qX10_tries_2 {x1 : Int32} {M : am_M} {j1 : Nat} {v2 : Int32} {j3 : Nat} {j4 : Nat} {v5 : Int32} {M6 : am_M} {v7 : Int32} {v8 : Int32} {M9 : am_M} (h1 : j1 < 40) (h2 : x1 = i3 j1) (h3 : fX10_slotOf [.inr (10, 0), .inl (.int (M 45 0 j1))] M = am_rI v2 M) (h4 : 0 ≤ v2) (h5 : (am_b (M 53 0 j1)) = 0) (h6 : j3 < 4) (h7 : (M 46 0 j1) = i3 j3) (h8 : j4 < 6) (h9 : v2 = i3 j4) (h10 : (M 30 0 (16 * j3 + 0)) ≤ (M 39 0 j4)) (h11 : fX10_book [.inr (10, 0), .inl (.int x1)] M = am_rI v5 M6) (h12 : ¬ (v5 = 0)) (h13 : fX10_clean [.inr (10, 0)] M6 = am_rI v7 M6) (h14 : ¬ (v7 < 0)) (h15 : fX10_allowed [.inr (10, 0)] M6 = am_rI v8 M6) (h16 : v8 = 0) (h17 : fX10_cancel [.inr (10, 0), .inl (.int x1)] M6 = am_rV M9) : fX10_tries [.inr (10, 0), .inl (.int x1)] M = am_rI 0 M9 := by
  rw [eX10_tries]
  refine eX10_tries_0 ?_
  try simp only [am_put_nk, am_put_nf, am_put_i, not_false_eq_true, Nat.reduceEqDiff]
  refine ip (ixi h2 h1 (by decide)) ?_
  try rw [ixn h2 h1 (by decide)]
  refine ri h3 ?_
  refine eX10_tries_10 ?_
  try simp only [am_put_nk, am_put_nf, am_put_i, not_false_eq_true, Nat.reduceEqDiff]
  refine ip h4 ?_
  refine ip (ixi h2 h1 (by decide)) ?_
  try rw [ixn h2 h1 (by decide)]
  refine ip (ixi h2 h1 (by decide)) ?_
  try rw [ixn h2 h1 (by decide)]
  refine ip h5 ?_
  refine ri (sX10_of _ h7 h6 rfl (by decide)) ?_
  refine eX10_tries_56 ?_
  try simp only [am_put_nk, am_put_nf, am_put_i, not_false_eq_true, Nat.reduceEqDiff]
  refine ip (ixi h9 h8 (by decide)) ?_
  try rw [ixn h9 h8 (by decide)]
  refine ip h10 ?_
  refine ri h11 ?_
  refine eX10_tries_82 ?_
  try simp only [am_put_nk, am_put_nf, am_put_i, not_false_eq_true, Nat.reduceEqDiff]
  refine iq h12 ?_
  refine ri h13 ?_
  refine eX10_tries_102 ?_
  try simp only [am_put_nk, am_put_nf, am_put_i, not_false_eq_true, Nat.reduceEqDiff]
  refine iq h14 ?_
  refine ri h15 ?_
  refine eX10_tries_113 ?_
  try simp only [am_put_nk, am_put_nf, am_put_i, not_false_eq_true, Nat.reduceEqDiff]
  refine ip h16 ?_
  refine rv h17 ?_
  refine eX10_tries_121 ?_
  try simp only [am_put_nk, am_put_nf, am_put_i, not_false_eq_true, Nat.reduceEqDiff]
  all_goals rfl
theorem qX10_tries_3 {x1 : Int32} {M : am_M} {j1 : Nat} {v2 : Int32} {j3 : Nat} {j4 : Nat} {v5 : Int32} {M6 : am_M} {v7 : Int32} {v8 : Int32} {M9 : am_M} (h1 : j1 < 40) (h2 : x1 = i3 j1) (h3 : fX10_slotOf [.inr (10, 0), .inl (.int (M 45 0 j1))] M = am_rI v2 M) (h4 : 0 ≤ v2) (h5 : (am_b (M 53 0 j1)) = 0) (h6 : j3 < 4) (h7 : (M 46 0 j1) = i3 j3) (h8 : j4 < 6) (h9 : v2 = i3 j4) (h10 : (M 30 0 (16 * j3 + 0)) ≤ (M 39 0 j4)) (h11 : fX10_book [.inr (10, 0), .inl (.int x1)] M = am_rI v5 M6) (h12 : ¬ (v5 = 0)) (h13 : fX10_clean [.inr (10, 0)] M6 = am_rI v7 M6) (h14 : ¬ (v7 < 0)) (h15 : fX10_allowed [.inr (10, 0)] M6 = am_rI v8 M6) (h16 : ¬ (v8 = 0)) (h17 : fX10_start [.inr (10, 0), .inl (.int x1), .inl (.int v2), .inl (.int v7), .inl (.int (M 30 0 (16 * j3 + 0)))] M6 = am_rV M9) : fX10_tries [.inr (10, 0), .inl (.int x1)] M = am_rI 1 M9 := by
  rw [eX10_tries]
  refine eX10_tries_0 ?_
  try simp only [am_put_nk, am_put_nf, am_put_i, not_false_eq_true, Nat.reduceEqDiff]
  refine ip (ixi h2 h1 (by decide)) ?_
  try rw [ixn h2 h1 (by decide)]
  refine ri h3 ?_
  refine eX10_tries_10 ?_
  try simp only [am_put_nk, am_put_nf, am_put_i, not_false_eq_true, Nat.reduceEqDiff]
  refine ip h4 ?_
  refine ip (ixi h2 h1 (by decide)) ?_
  try rw [ixn h2 h1 (by decide)]
  refine ip (ixi h2 h1 (by decide)) ?_
  try rw [ixn h2 h1 (by decide)]
  refine ip h5 ?_
  refine ri (sX10_of _ h7 h6 rfl (by decide)) ?_
  refine eX10_tries_56 ?_
  try simp only [am_put_nk, am_put_nf, am_put_i, not_false_eq_true, Nat.reduceEqDiff]
  refine ip (ixi h9 h8 (by decide)) ?_
  try rw [ixn h9 h8 (by decide)]
  refine ip h10 ?_
  refine ri h11 ?_
  refine eX10_tries_82 ?_
  try simp only [am_put_nk, am_put_nf, am_put_i, not_false_eq_true, Nat.reduceEqDiff]
  refine iq h12 ?_
  refine ri h13 ?_
  refine eX10_tries_102 ?_
  try simp only [am_put_nk, am_put_nf, am_put_i, not_false_eq_true, Nat.reduceEqDiff]
  refine iq h14 ?_
  refine ri h15 ?_
  refine eX10_tries_113 ?_
  try simp only [am_put_nk, am_put_nf, am_put_i, not_false_eq_true, Nat.reduceEqDiff]
  refine iq h16 ?_
  refine rv h17 ?_
  refine eX10_tries_133 ?_
  try simp only [am_put_nk, am_put_nf, am_put_i, not_false_eq_true, Nat.reduceEqDiff]
  all_goals rfl
theorem qX10_tries_4 {x1 : Int32} {M : am_M} {j1 : Nat} {v2 : Int32} {j3 : Nat} {j4 : Nat} {M5 : am_M} (h1 : j1 < 40) (h2 : x1 = i3 j1) (h3 : fX10_slotOf [.inr (10, 0), .inl (.int (M 45 0 j1))] M = am_rI v2 M) (h4 : 0 ≤ v2) (h5 : (am_b (M 53 0 j1)) = 0) (h6 : j3 < 4) (h7 : (M 46 0 j1) = i3 j3) (h8 : j4 < 6) (h9 : v2 = i3 j4) (h10 : ¬ ((M 30 0 (16 * j3 + 0)) ≤ (M 39 0 j4))) (h11 : fX10_fail [.inr (10, 0), .inl (.int x1), .inl (.int 1)] M = am_rV M5) : fX10_tries [.inr (10, 0), .inl (.int x1)] M = am_rI 0 M5 := by
  rw [eX10_tries]
  refine eX10_tries_0 ?_
  try simp only [am_put_nk, am_put_nf, am_put_i, not_false_eq_true, Nat.reduceEqDiff]
  refine ip (ixi h2 h1 (by decide)) ?_
  try rw [ixn h2 h1 (by decide)]
  refine ri h3 ?_
  refine eX10_tries_10 ?_
  try simp only [am_put_nk, am_put_nf, am_put_i, not_false_eq_true, Nat.reduceEqDiff]
  refine ip h4 ?_
  refine ip (ixi h2 h1 (by decide)) ?_
  try rw [ixn h2 h1 (by decide)]
  refine ip (ixi h2 h1 (by decide)) ?_
  try rw [ixn h2 h1 (by decide)]
  refine ip h5 ?_
  refine ri (sX10_of _ h7 h6 rfl (by decide)) ?_
  refine eX10_tries_56 ?_
  try simp only [am_put_nk, am_put_nf, am_put_i, not_false_eq_true, Nat.reduceEqDiff]
  refine ip (ixi h9 h8 (by decide)) ?_
  try rw [ixn h9 h8 (by decide)]
  refine iq h10 ?_
  refine rv h11 ?_
  refine eX10_tries_75 ?_
  try simp only [am_put_nk, am_put_nf, am_put_i, not_false_eq_true, Nat.reduceEqDiff]
  all_goals rfl
theorem qX10_tries_5 {x1 : Int32} {M : am_M} {j1 : Nat} {v2 : Int32} {j3 : Nat} {j4 : Nat} {v5 : Int32} {M6 : am_M} {M7 : am_M} {M8 : am_M} (h1 : j1 < 40) (h2 : x1 = i3 j1) (h3 : fX10_slotOf [.inr (10, 0), .inl (.int (M 45 0 j1))] M = am_rI v2 M) (h4 : 0 ≤ v2) (h5 : ¬ ((am_b (M 53 0 j1)) = 0)) (h6 : j3 < 4) (h7 : (M 46 0 j1) = i3 j3) (h8 : ¬ ((M 30 0 (16 * j3 + 13)) = 0)) (h9 : j4 < 6) (h10 : v2 = i3 j4) (h11 : ((M 30 0 (16 * j3 + 0)) / (M 30 0 (16 * j3 + 13))) ≤ (M 39 0 j4)) (h12 : fX10_book [.inr (10, 0), .inl (.int x1)] M = am_rI v5 M6) (h13 : v5 = 0) (h14 : fX10_cancel [.inr (10, 0), .inl (.int x1)] M6 = am_rV M7) (h15 : fX10_fail [.inr (10, 0), .inl (.int x1), .inl (.int 2)] M7 = am_rV M8) : fX10_tries [.inr (10, 0), .inl (.int x1)] M = am_rI 0 M8 := by
  rw [eX10_tries]
  refine eX10_tries_0 ?_
  try simp only [am_put_nk, am_put_nf, am_put_i, not_false_eq_true, Nat.reduceEqDiff]
  refine ip (ixi h2 h1 (by decide)) ?_
  try rw [ixn h2 h1 (by decide)]
  refine ri h3 ?_
  refine eX10_tries_10 ?_
  try simp only [am_put_nk, am_put_nf, am_put_i, not_false_eq_true, Nat.reduceEqDiff]
  refine ip h4 ?_
  refine ip (ixi h2 h1 (by decide)) ?_
  try rw [ixn h2 h1 (by decide)]
  refine ip (ixi h2 h1 (by decide)) ?_
  try rw [ixn h2 h1 (by decide)]
  refine iq h5 ?_
  refine ri (sX10_of _ h7 h6 rfl (by decide)) ?_
  refine eX10_tries_39 ?_
  try simp only [am_put_nk, am_put_nf, am_put_i, not_false_eq_true, Nat.reduceEqDiff]
  refine ri (sX10_of _ h7 h6 rfl (by decide)) ?_
  refine eX10_tries_46 ?_
  try simp only [am_put_nk, am_put_nf, am_put_i, not_false_eq_true, Nat.reduceEqDiff]
  refine iq h8 ?_
  refine eX10_tries_56 ?_
  try simp only [am_put_nk, am_put_nf, am_put_i, not_false_eq_true, Nat.reduceEqDiff]
  refine ip (ixi h10 h9 (by decide)) ?_
  try rw [ixn h10 h9 (by decide)]
  refine ip h11 ?_
  refine ri h12 ?_
  refine eX10_tries_82 ?_
  try simp only [am_put_nk, am_put_nf, am_put_i, not_false_eq_true, Nat.reduceEqDiff]
  refine ip h13 ?_
  refine rv h14 ?_
  refine eX10_tries_90 ?_
  try simp only [am_put_nk, am_put_nf, am_put_i, not_false_eq_true, Nat.reduceEqDiff]
  refine rv h15 ?_
  refine eX10_tries_96 ?_
  try simp only [am_put_nk, am_put_nf, am_put_i, not_false_eq_true, Nat.reduceEqDiff]
  all_goals rfl
theorem qX10_tries_6 {x1 : Int32} {M : am_M} {j1 : Nat} {v2 : Int32} {j3 : Nat} {j4 : Nat} {v5 : Int32} {M6 : am_M} {v7 : Int32} {M8 : am_M} (h1 : j1 < 40) (h2 : x1 = i3 j1) (h3 : fX10_slotOf [.inr (10, 0), .inl (.int (M 45 0 j1))] M = am_rI v2 M) (h4 : 0 ≤ v2) (h5 : ¬ ((am_b (M 53 0 j1)) = 0)) (h6 : j3 < 4) (h7 : (M 46 0 j1) = i3 j3) (h8 : ¬ ((M 30 0 (16 * j3 + 13)) = 0)) (h9 : j4 < 6) (h10 : v2 = i3 j4) (h11 : ((M 30 0 (16 * j3 + 0)) / (M 30 0 (16 * j3 + 13))) ≤ (M 39 0 j4)) (h12 : fX10_book [.inr (10, 0), .inl (.int x1)] M = am_rI v5 M6) (h13 : ¬ (v5 = 0)) (h14 : fX10_clean [.inr (10, 0)] M6 = am_rI v7 M6) (h15 : v7 < 0) (h16 : fX10_cancel [.inr (10, 0), .inl (.int x1)] M6 = am_rV M8) : fX10_tries [.inr (10, 0), .inl (.int x1)] M = am_rI 0 M8 := by
  rw [eX10_tries]
  refine eX10_tries_0 ?_
  try simp only [am_put_nk, am_put_nf, am_put_i, not_false_eq_true, Nat.reduceEqDiff]
  refine ip (ixi h2 h1 (by decide)) ?_
  try rw [ixn h2 h1 (by decide)]
  refine ri h3 ?_
  refine eX10_tries_10 ?_
  try simp only [am_put_nk, am_put_nf, am_put_i, not_false_eq_true, Nat.reduceEqDiff]
  refine ip h4 ?_
  refine ip (ixi h2 h1 (by decide)) ?_
  try rw [ixn h2 h1 (by decide)]
  refine ip (ixi h2 h1 (by decide)) ?_
  try rw [ixn h2 h1 (by decide)]
  refine iq h5 ?_
  refine ri (sX10_of _ h7 h6 rfl (by decide)) ?_
  refine eX10_tries_39 ?_
  try simp only [am_put_nk, am_put_nf, am_put_i, not_false_eq_true, Nat.reduceEqDiff]
  refine ri (sX10_of _ h7 h6 rfl (by decide)) ?_
  refine eX10_tries_46 ?_
  try simp only [am_put_nk, am_put_nf, am_put_i, not_false_eq_true, Nat.reduceEqDiff]
  refine iq h8 ?_
  refine eX10_tries_56 ?_
  try simp only [am_put_nk, am_put_nf, am_put_i, not_false_eq_true, Nat.reduceEqDiff]
  refine ip (ixi h10 h9 (by decide)) ?_
  try rw [ixn h10 h9 (by decide)]
  refine ip h11 ?_
  refine ri h12 ?_
  refine eX10_tries_82 ?_
  try simp only [am_put_nk, am_put_nf, am_put_i, not_false_eq_true, Nat.reduceEqDiff]
  refine iq h13 ?_
  refine ri h14 ?_
  refine eX10_tries_102 ?_
  try simp only [am_put_nk, am_put_nf, am_put_i, not_false_eq_true, Nat.reduceEqDiff]
  refine ip h15 ?_
  refine rv h16 ?_
  refine eX10_tries_121 ?_
  try simp only [am_put_nk, am_put_nf, am_put_i, not_false_eq_true, Nat.reduceEqDiff]
  all_goals rfl
theorem qX10_tries_7 {x1 : Int32} {M : am_M} {j1 : Nat} {v2 : Int32} {j3 : Nat} {j4 : Nat} {v5 : Int32} {M6 : am_M} {v7 : Int32} {v8 : Int32} {M9 : am_M} (h1 : j1 < 40) (h2 : x1 = i3 j1) (h3 : fX10_slotOf [.inr (10, 0), .inl (.int (M 45 0 j1))] M = am_rI v2 M) (h4 : 0 ≤ v2) (h5 : ¬ ((am_b (M 53 0 j1)) = 0)) (h6 : j3 < 4) (h7 : (M 46 0 j1) = i3 j3) (h8 : ¬ ((M 30 0 (16 * j3 + 13)) = 0)) (h9 : j4 < 6) (h10 : v2 = i3 j4) (h11 : ((M 30 0 (16 * j3 + 0)) / (M 30 0 (16 * j3 + 13))) ≤ (M 39 0 j4)) (h12 : fX10_book [.inr (10, 0), .inl (.int x1)] M = am_rI v5 M6) (h13 : ¬ (v5 = 0)) (h14 : fX10_clean [.inr (10, 0)] M6 = am_rI v7 M6) (h15 : ¬ (v7 < 0)) (h16 : fX10_allowed [.inr (10, 0)] M6 = am_rI v8 M6) (h17 : v8 = 0) (h18 : fX10_cancel [.inr (10, 0), .inl (.int x1)] M6 = am_rV M9) : fX10_tries [.inr (10, 0), .inl (.int x1)] M = am_rI 0 M9 := by
  rw [eX10_tries]
  refine eX10_tries_0 ?_
  try simp only [am_put_nk, am_put_nf, am_put_i, not_false_eq_true, Nat.reduceEqDiff]
  refine ip (ixi h2 h1 (by decide)) ?_
  try rw [ixn h2 h1 (by decide)]
  refine ri h3 ?_
  refine eX10_tries_10 ?_
  try simp only [am_put_nk, am_put_nf, am_put_i, not_false_eq_true, Nat.reduceEqDiff]
  refine ip h4 ?_
  refine ip (ixi h2 h1 (by decide)) ?_
  try rw [ixn h2 h1 (by decide)]
  refine ip (ixi h2 h1 (by decide)) ?_
  try rw [ixn h2 h1 (by decide)]
  refine iq h5 ?_
  refine ri (sX10_of _ h7 h6 rfl (by decide)) ?_
  refine eX10_tries_39 ?_
  try simp only [am_put_nk, am_put_nf, am_put_i, not_false_eq_true, Nat.reduceEqDiff]
  refine ri (sX10_of _ h7 h6 rfl (by decide)) ?_
  refine eX10_tries_46 ?_
  try simp only [am_put_nk, am_put_nf, am_put_i, not_false_eq_true, Nat.reduceEqDiff]
  refine iq h8 ?_
  refine eX10_tries_56 ?_
  try simp only [am_put_nk, am_put_nf, am_put_i, not_false_eq_true, Nat.reduceEqDiff]
  refine ip (ixi h10 h9 (by decide)) ?_
  try rw [ixn h10 h9 (by decide)]
  refine ip h11 ?_
  refine ri h12 ?_
  refine eX10_tries_82 ?_
  try simp only [am_put_nk, am_put_nf, am_put_i, not_false_eq_true, Nat.reduceEqDiff]
  refine iq h13 ?_
  refine ri h14 ?_
  refine eX10_tries_102 ?_
  try simp only [am_put_nk, am_put_nf, am_put_i, not_false_eq_true, Nat.reduceEqDiff]
  refine iq h15 ?_
  refine ri h16 ?_
  refine eX10_tries_113 ?_
  try simp only [am_put_nk, am_put_nf, am_put_i, not_false_eq_true, Nat.reduceEqDiff]
  refine ip h17 ?_
  refine rv h18 ?_
  refine eX10_tries_121 ?_
  try simp only [am_put_nk, am_put_nf, am_put_i, not_false_eq_true, Nat.reduceEqDiff]
  all_goals rfl
theorem qX10_tries_8 {x1 : Int32} {M : am_M} {j1 : Nat} {v2 : Int32} {j3 : Nat} {j4 : Nat} {v5 : Int32} {M6 : am_M} {v7 : Int32} {v8 : Int32} {M9 : am_M} (h1 : j1 < 40) (h2 : x1 = i3 j1) (h3 : fX10_slotOf [.inr (10, 0), .inl (.int (M 45 0 j1))] M = am_rI v2 M) (h4 : 0 ≤ v2) (h5 : ¬ ((am_b (M 53 0 j1)) = 0)) (h6 : j3 < 4) (h7 : (M 46 0 j1) = i3 j3) (h8 : ¬ ((M 30 0 (16 * j3 + 13)) = 0)) (h9 : j4 < 6) (h10 : v2 = i3 j4) (h11 : ((M 30 0 (16 * j3 + 0)) / (M 30 0 (16 * j3 + 13))) ≤ (M 39 0 j4)) (h12 : fX10_book [.inr (10, 0), .inl (.int x1)] M = am_rI v5 M6) (h13 : ¬ (v5 = 0)) (h14 : fX10_clean [.inr (10, 0)] M6 = am_rI v7 M6) (h15 : ¬ (v7 < 0)) (h16 : fX10_allowed [.inr (10, 0)] M6 = am_rI v8 M6) (h17 : ¬ (v8 = 0)) (h18 : fX10_start [.inr (10, 0), .inl (.int x1), .inl (.int v2), .inl (.int v7), .inl (.int ((M 30 0 (16 * j3 + 0)) / (M 30 0 (16 * j3 + 13))))] M6 = am_rV M9) : fX10_tries [.inr (10, 0), .inl (.int x1)] M = am_rI 1 M9 := by
  rw [eX10_tries]
  refine eX10_tries_0 ?_
  try simp only [am_put_nk, am_put_nf, am_put_i, not_false_eq_true, Nat.reduceEqDiff]
  refine ip (ixi h2 h1 (by decide)) ?_
  try rw [ixn h2 h1 (by decide)]
  refine ri h3 ?_
  refine eX10_tries_10 ?_
  try simp only [am_put_nk, am_put_nf, am_put_i, not_false_eq_true, Nat.reduceEqDiff]
  refine ip h4 ?_
  refine ip (ixi h2 h1 (by decide)) ?_
  try rw [ixn h2 h1 (by decide)]
  refine ip (ixi h2 h1 (by decide)) ?_
  try rw [ixn h2 h1 (by decide)]
  refine iq h5 ?_
  refine ri (sX10_of _ h7 h6 rfl (by decide)) ?_
  refine eX10_tries_39 ?_
  try simp only [am_put_nk, am_put_nf, am_put_i, not_false_eq_true, Nat.reduceEqDiff]
  refine ri (sX10_of _ h7 h6 rfl (by decide)) ?_
  refine eX10_tries_46 ?_
  try simp only [am_put_nk, am_put_nf, am_put_i, not_false_eq_true, Nat.reduceEqDiff]
  refine iq h8 ?_
  refine eX10_tries_56 ?_
  try simp only [am_put_nk, am_put_nf, am_put_i, not_false_eq_true, Nat.reduceEqDiff]
  refine ip (ixi h10 h9 (by decide)) ?_
  try rw [ixn h10 h9 (by decide)]
  refine ip h11 ?_
  refine ri h12 ?_
  refine eX10_tries_82 ?_
  try simp only [am_put_nk, am_put_nf, am_put_i, not_false_eq_true, Nat.reduceEqDiff]
  refine iq h13 ?_
  refine ri h14 ?_
  refine eX10_tries_102 ?_
  try simp only [am_put_nk, am_put_nf, am_put_i, not_false_eq_true, Nat.reduceEqDiff]
  refine iq h15 ?_
  refine ri h16 ?_
  refine eX10_tries_113 ?_
  try simp only [am_put_nk, am_put_nf, am_put_i, not_false_eq_true, Nat.reduceEqDiff]
  refine iq h17 ?_
  refine rv h18 ?_
  refine eX10_tries_133 ?_
  try simp only [am_put_nk, am_put_nf, am_put_i, not_false_eq_true, Nat.reduceEqDiff]
  all_goals rfl
theorem qX10_tries_9 {x1 : Int32} {M : am_M} {j1 : Nat} {v2 : Int32} {j3 : Nat} {j4 : Nat} {M5 : am_M} (h1 : j1 < 40) (h2 : x1 = i3 j1) (h3 : fX10_slotOf [.inr (10, 0), .inl (.int (M 45 0 j1))] M = am_rI v2 M) (h4 : 0 ≤ v2) (h5 : ¬ ((am_b (M 53 0 j1)) = 0)) (h6 : j3 < 4) (h7 : (M 46 0 j1) = i3 j3) (h8 : ¬ ((M 30 0 (16 * j3 + 13)) = 0)) (h9 : j4 < 6) (h10 : v2 = i3 j4) (h11 : ¬ (((M 30 0 (16 * j3 + 0)) / (M 30 0 (16 * j3 + 13))) ≤ (M 39 0 j4))) (h12 : fX10_fail [.inr (10, 0), .inl (.int x1), .inl (.int 1)] M = am_rV M5) : fX10_tries [.inr (10, 0), .inl (.int x1)] M = am_rI 0 M5 := by
  rw [eX10_tries]
  refine eX10_tries_0 ?_
  try simp only [am_put_nk, am_put_nf, am_put_i, not_false_eq_true, Nat.reduceEqDiff]
  refine ip (ixi h2 h1 (by decide)) ?_
  try rw [ixn h2 h1 (by decide)]
  refine ri h3 ?_
  refine eX10_tries_10 ?_
  try simp only [am_put_nk, am_put_nf, am_put_i, not_false_eq_true, Nat.reduceEqDiff]
  refine ip h4 ?_
  refine ip (ixi h2 h1 (by decide)) ?_
  try rw [ixn h2 h1 (by decide)]
  refine ip (ixi h2 h1 (by decide)) ?_
  try rw [ixn h2 h1 (by decide)]
  refine iq h5 ?_
  refine ri (sX10_of _ h7 h6 rfl (by decide)) ?_
  refine eX10_tries_39 ?_
  try simp only [am_put_nk, am_put_nf, am_put_i, not_false_eq_true, Nat.reduceEqDiff]
  refine ri (sX10_of _ h7 h6 rfl (by decide)) ?_
  refine eX10_tries_46 ?_
  try simp only [am_put_nk, am_put_nf, am_put_i, not_false_eq_true, Nat.reduceEqDiff]
  refine iq h8 ?_
  refine eX10_tries_56 ?_
  try simp only [am_put_nk, am_put_nf, am_put_i, not_false_eq_true, Nat.reduceEqDiff]
  refine ip (ixi h10 h9 (by decide)) ?_
  try rw [ixn h10 h9 (by decide)]
  refine iq h11 ?_
  refine rv h12 ?_
  refine eX10_tries_75 ?_
  try simp only [am_put_nk, am_put_nf, am_put_i, not_false_eq_true, Nat.reduceEqDiff]
  all_goals rfl
theorem qX10_tries_10 {x1 : Int32} {M : am_M} {j1 : Nat} {v2 : Int32} (h1 : j1 < 40) (h2 : x1 = i3 j1) (h3 : fX10_slotOf [.inr (10, 0), .inl (.int (M 45 0 j1))] M = am_rI v2 M) (h4 : ¬ (0 ≤ v2)) : fX10_tries [.inr (10, 0), .inl (.int x1)] M = am_rI 0 M := by
  rw [eX10_tries]
  refine eX10_tries_0 ?_
  try simp only [am_put_nk, am_put_nf, am_put_i, not_false_eq_true, Nat.reduceEqDiff]
  refine ip (ixi h2 h1 (by decide)) ?_
  try rw [ixn h2 h1 (by decide)]
  refine ri h3 ?_
  refine eX10_tries_10 ?_
  try simp only [am_put_nk, am_put_nf, am_put_i, not_false_eq_true, Nat.reduceEqDiff]
  refine iq h4 ?_
  all_goals rfl
theorem qX9_positionFor_0 {x1 : Nat} {x2 : Int32} {x3 : Int32} {M : am_M} {v1 : Int32} (h1 : fX6_kindOf [.inr (6, x1), .inl (.int x2)] M = am_rI v1 M) (h2 : v1 = (-1)) : fX9_positionFor [.inr (9, 0), .inr (6, x1), .inl (.int x2), .inl (.int x3)] M = am_rI (-1) M := by
  rw [eX9_positionFor]
  refine eX9_positionFor_0 ?_
  try simp only [am_put_nk, am_put_nf, am_put_i, not_false_eq_true, Nat.reduceEqDiff]
  refine ri h1 ?_
  refine eX9_positionFor_5 ?_
  try simp only [am_put_nk, am_put_nf, am_put_i, not_false_eq_true, Nat.reduceEqDiff]
  refine ip h2 ?_
  all_goals rfl
theorem qX9_positionFor_1 {x1 : Nat} {x2 : Int32} {x3 : Int32} {M : am_M} {res : am_O × am_M} {v1 : Int32} (h1 : fX6_kindOf [.inr (6, x1), .inl (.int x2)] M = am_rI v1 M) (h2 : ¬ (v1 = (-1))) (k : rX9_positionFor 99800 22 [.inr (9, 0), .inr (6, x1), .inl (.int x2), .inl (.int x3), .inl (.int v1), .inl (.int (-1)), .inl (.int 0), am_D] [] M = some res) : fX9_positionFor [.inr (9, 0), .inr (6, x1), .inl (.int x2), .inl (.int x3)] M = some res := by
  rw [eX9_positionFor]
  refine eX9_positionFor_0 ?_
  try simp only [am_put_nk, am_put_nf, am_put_i, not_false_eq_true, Nat.reduceEqDiff]
  refine ri h1 ?_
  refine eX9_positionFor_5 ?_
  try simp only [am_put_nk, am_put_nf, am_put_i, not_false_eq_true, Nat.reduceEqDiff]
  refine iq h2 ?_
  exact k
theorem mX9_positionFor {n m pc : Nat} {ls st : List am_V} {M : am_M} {res : am_O × am_M} (h : rX9_positionFor n pc ls st M = some res) (hm : n ≤ m) : rX9_positionFor m pc ls st M = some res := by
  have h2 := am_run_mono_add h (m - n)
  rw [show n + (m - n) = m by omega] at h2
  exact h2
theorem qX9_positionFor_22_0 {x1 : Nat} {x2 : Int32} {x3 : Int32} {x4 : Int32} {x5 : Int32} {x6 : Nat} {x7 : am_V} {M : am_M} {n : Nat} (h1 : 8 ≤ (i3 x6)) : rX9_positionFor (n + 100) 22 [.inr (9, 0), .inr (6, x1), .inl (.int x2), .inl (.int x3), .inl (.int x4), .inl (.int x5), .inl (.int (i3 x6)), x7] [] M = am_rI x5 M := by
  refine eX9_positionFor_22 ?_
  try simp only [am_put_nk, am_put_nf, am_put_i, not_false_eq_true, Nat.reduceEqDiff]
  refine ip h1 ?_
  all_goals rfl
theorem qX9_positionFor_22_1 {x1 : Nat} {x2 : Int32} {x3 : Int32} {x4 : Int32} {x5 : Int32} {x6 : Nat} {x7 : am_V} {M : am_M} {n : Nat} {res : am_O × am_M} {v1 : Int32} (h1 : ¬ (8 ≤ (i3 x6))) (h2 : fX6_doseOf [.inr (6, x1), .inl (.int x2)] M = am_rI v1 M) (h3 : (i3 x6) = x3) (h4 : x6 < 8) (h5 : ¬ ((M 5 x6 0) = x4 ∧ (M 9 0 8) < (M 5 x6 3) ∧ (v1 + (M 18 x1 2)) ≤ (M 5 x6 1) - (M 5 x6 2))) (k : rX9_positionFor n 22 [.inr (9, 0), .inr (6, x1), .inl (.int x2), .inl (.int x3), .inl (.int x4), .inl (.int x5), .inl (.int (i3 (x6 + 1))), .inl (.int (v1 + (M 18 x1 2)))] [] M = some res) : rX9_positionFor (n + 300) 22 [.inr (9, 0), .inr (6, x1), .inl (.int x2), .inl (.int x3), .inl (.int x4), .inl (.int x5), .inl (.int (i3 x6)), x7] [] M = some res := by
  refine eX9_positionFor_22 ?_
  try simp only [am_put_nk, am_put_nf, am_put_i, not_false_eq_true, Nat.reduceEqDiff]
  refine iq h1 ?_
  refine ri h2 ?_
  refine eX9_positionFor_34 ?_
  try simp only [am_put_nk, am_put_nf, am_put_i, not_false_eq_true, Nat.reduceEqDiff]
  refine ip h3 ?_
  refine ip (i3_in' h4 (by decide)) ?_
  try rw [ixm h4 (by decide)]
  refine ri (sX5_canGive _ _ _ _ _) ?_
  refine eX9_positionFor_70 ?_
  try simp only [am_put_nk, am_put_nf, am_put_i, not_false_eq_true, Nat.reduceEqDiff]
  refine ip (bi_f h5) ?_
  rw [i3_one]
  exact k
theorem qX9_positionFor_22_2 {x1 : Nat} {x2 : Int32} {x3 : Int32} {x4 : Int32} {x5 : Int32} {x6 : Nat} {x7 : am_V} {M : am_M} {n : Nat} {res : am_O × am_M} {v1 : Int32} (h1 : ¬ (8 ≤ (i3 x6))) (h2 : fX6_doseOf [.inr (6, x1), .inl (.int x2)] M = am_rI v1 M) (h3 : (i3 x6) = x3) (h4 : x6 < 8) (h5 : (M 5 x6 0) = x4 ∧ (M 9 0 8) < (M 5 x6 3) ∧ (v1 + (M 18 x1 2)) ≤ (M 5 x6 1) - (M 5 x6 2)) (h6 : x5 = (-1)) (k : rX9_positionFor n 22 [.inr (9, 0), .inr (6, x1), .inl (.int x2), .inl (.int x3), .inl (.int x4), .inl (.int (i3 x6)), .inl (.int (i3 (x6 + 1))), .inl (.int (v1 + (M 18 x1 2)))] [] M = some res) : rX9_positionFor (n + 300) 22 [.inr (9, 0), .inr (6, x1), .inl (.int x2), .inl (.int x3), .inl (.int x4), .inl (.int x5), .inl (.int (i3 x6)), x7] [] M = some res := by
  refine eX9_positionFor_22 ?_
  try simp only [am_put_nk, am_put_nf, am_put_i, not_false_eq_true, Nat.reduceEqDiff]
  refine iq h1 ?_
  refine ri h2 ?_
  refine eX9_positionFor_34 ?_
  try simp only [am_put_nk, am_put_nf, am_put_i, not_false_eq_true, Nat.reduceEqDiff]
  refine ip h3 ?_
  refine ip (i3_in' h4 (by decide)) ?_
  try rw [ixm h4 (by decide)]
  refine ri (sX5_canGive _ _ _ _ _) ?_
  refine eX9_positionFor_70 ?_
  try simp only [am_put_nk, am_put_nf, am_put_i, not_false_eq_true, Nat.reduceEqDiff]
  refine iq (fun e => bi_0.mp e h5) ?_
  refine ip h6 ?_
  rw [i3_one]
  exact k
theorem qX9_positionFor_22_3 {x1 : Nat} {x2 : Int32} {x3 : Int32} {x4 : Int32} {x5 : Int32} {x6 : Nat} {x7 : am_V} {M : am_M} {n : Nat} {res : am_O × am_M} {v1 : Int32} {j2 : Nat} (h1 : ¬ (8 ≤ (i3 x6))) (h2 : fX6_doseOf [.inr (6, x1), .inl (.int x2)] M = am_rI v1 M) (h3 : (i3 x6) = x3) (h4 : x6 < 8) (h5 : (M 5 x6 0) = x4 ∧ (M 9 0 8) < (M 5 x6 3) ∧ (v1 + (M 18 x1 2)) ≤ (M 5 x6 1) - (M 5 x6 2)) (h6 : ¬ (x5 = (-1))) (h7 : j2 < 8) (h8 : x5 = i3 j2) (h9 : (M 5 j2 3) ≤ (M 5 x6 3)) (k : rX9_positionFor n 22 [.inr (9, 0), .inr (6, x1), .inl (.int x2), .inl (.int x3), .inl (.int x4), .inl (.int x5), .inl (.int (i3 (x6 + 1))), .inl (.int (v1 + (M 18 x1 2)))] [] M = some res) : rX9_positionFor (n + 300) 22 [.inr (9, 0), .inr (6, x1), .inl (.int x2), .inl (.int x3), .inl (.int x4), .inl (.int x5), .inl (.int (i3 x6)), x7] [] M = some res := by
  refine eX9_positionFor_22 ?_
  try simp only [am_put_nk, am_put_nf, am_put_i, not_false_eq_true, Nat.reduceEqDiff]
  refine iq h1 ?_
  refine ri h2 ?_
  refine eX9_positionFor_34 ?_
  try simp only [am_put_nk, am_put_nf, am_put_i, not_false_eq_true, Nat.reduceEqDiff]
  refine ip h3 ?_
  refine ip (i3_in' h4 (by decide)) ?_
  try rw [ixm h4 (by decide)]
  refine ri (sX5_canGive _ _ _ _ _) ?_
  refine eX9_positionFor_70 ?_
  try simp only [am_put_nk, am_put_nf, am_put_i, not_false_eq_true, Nat.reduceEqDiff]
  refine iq (fun e => bi_0.mp e h5) ?_
  refine iq h6 ?_
  refine ip (i3_in' h4 (by decide)) ?_
  try rw [ixm h4 (by decide)]
  refine ip (ixi h8 h7 (by decide)) ?_
  try rw [ixn h8 h7 (by decide)]
  refine ip h9 ?_
  rw [i3_one]
  exact k
theorem qX9_positionFor_22_4 {x1 : Nat} {x2 : Int32} {x3 : Int32} {x4 : Int32} {x5 : Int32} {x6 : Nat} {x7 : am_V} {M : am_M} {n : Nat} {res : am_O × am_M} {v1 : Int32} {j2 : Nat} (h1 : ¬ (8 ≤ (i3 x6))) (h2 : fX6_doseOf [.inr (6, x1), .inl (.int x2)] M = am_rI v1 M) (h3 : (i3 x6) = x3) (h4 : x6 < 8) (h5 : (M 5 x6 0) = x4 ∧ (M 9 0 8) < (M 5 x6 3) ∧ (v1 + (M 18 x1 2)) ≤ (M 5 x6 1) - (M 5 x6 2)) (h6 : ¬ (x5 = (-1))) (h7 : j2 < 8) (h8 : x5 = i3 j2) (h9 : ¬ ((M 5 j2 3) ≤ (M 5 x6 3))) (k : rX9_positionFor n 22 [.inr (9, 0), .inr (6, x1), .inl (.int x2), .inl (.int x3), .inl (.int x4), .inl (.int (i3 x6)), .inl (.int (i3 (x6 + 1))), .inl (.int (v1 + (M 18 x1 2)))] [] M = some res) : rX9_positionFor (n + 300) 22 [.inr (9, 0), .inr (6, x1), .inl (.int x2), .inl (.int x3), .inl (.int x4), .inl (.int x5), .inl (.int (i3 x6)), x7] [] M = some res := by
  refine eX9_positionFor_22 ?_
  try simp only [am_put_nk, am_put_nf, am_put_i, not_false_eq_true, Nat.reduceEqDiff]
  refine iq h1 ?_
  refine ri h2 ?_
  refine eX9_positionFor_34 ?_
  try simp only [am_put_nk, am_put_nf, am_put_i, not_false_eq_true, Nat.reduceEqDiff]
  refine ip h3 ?_
  refine ip (i3_in' h4 (by decide)) ?_
  try rw [ixm h4 (by decide)]
  refine ri (sX5_canGive _ _ _ _ _) ?_
  refine eX9_positionFor_70 ?_
  try simp only [am_put_nk, am_put_nf, am_put_i, not_false_eq_true, Nat.reduceEqDiff]
  refine iq (fun e => bi_0.mp e h5) ?_
  refine iq h6 ?_
  refine ip (i3_in' h4 (by decide)) ?_
  try rw [ixm h4 (by decide)]
  refine ip (ixi h8 h7 (by decide)) ?_
  try rw [ixn h8 h7 (by decide)]
  refine iq h9 ?_
  rw [i3_one]
  exact k
theorem qX9_positionFor_22_5 {x1 : Nat} {x2 : Int32} {x3 : Int32} {x4 : Int32} {x5 : Int32} {x6 : Nat} {x7 : am_V} {M : am_M} {n : Nat} {res : am_O × am_M} {v1 : Int32} (h1 : ¬ (8 ≤ (i3 x6))) (h2 : fX6_doseOf [.inr (6, x1), .inl (.int x2)] M = am_rI v1 M) (h3 : ¬ ((i3 x6) = x3)) (h4 : x6 < 8) (h5 : ¬ ((M 5 x6 0) = x4 ∧ (M 9 0 8) < (M 5 x6 3) ∧ (v1 + 0) ≤ (M 5 x6 1) - (M 5 x6 2))) (k : rX9_positionFor n 22 [.inr (9, 0), .inr (6, x1), .inl (.int x2), .inl (.int x3), .inl (.int x4), .inl (.int x5), .inl (.int (i3 (x6 + 1))), .inl (.int (v1 + 0))] [] M = some res) : rX9_positionFor (n + 300) 22 [.inr (9, 0), .inr (6, x1), .inl (.int x2), .inl (.int x3), .inl (.int x4), .inl (.int x5), .inl (.int (i3 x6)), x7] [] M = some res := by
  refine eX9_positionFor_22 ?_
  try simp only [am_put_nk, am_put_nf, am_put_i, not_false_eq_true, Nat.reduceEqDiff]
  refine iq h1 ?_
  refine ri h2 ?_
  refine eX9_positionFor_34 ?_
  try simp only [am_put_nk, am_put_nf, am_put_i, not_false_eq_true, Nat.reduceEqDiff]
  refine iq h3 ?_
  refine ip (i3_in' h4 (by decide)) ?_
  try rw [ixm h4 (by decide)]
  refine ri (sX5_canGive _ _ _ _ _) ?_
  refine eX9_positionFor_70 ?_
  try simp only [am_put_nk, am_put_nf, am_put_i, not_false_eq_true, Nat.reduceEqDiff]
  refine ip (bi_f h5) ?_
  rw [i3_one]
  exact k
theorem qX9_positionFor_22_6 {x1 : Nat} {x2 : Int32} {x3 : Int32} {x4 : Int32} {x5 : Int32} {x6 : Nat} {x7 : am_V} {M : am_M} {n : Nat} {res : am_O × am_M} {v1 : Int32} (h1 : ¬ (8 ≤ (i3 x6))) (h2 : fX6_doseOf [.inr (6, x1), .inl (.int x2)] M = am_rI v1 M) (h3 : ¬ ((i3 x6) = x3)) (h4 : x6 < 8) (h5 : (M 5 x6 0) = x4 ∧ (M 9 0 8) < (M 5 x6 3) ∧ (v1 + 0) ≤ (M 5 x6 1) - (M 5 x6 2)) (h6 : x5 = (-1)) (k : rX9_positionFor n 22 [.inr (9, 0), .inr (6, x1), .inl (.int x2), .inl (.int x3), .inl (.int x4), .inl (.int (i3 x6)), .inl (.int (i3 (x6 + 1))), .inl (.int (v1 + 0))] [] M = some res) : rX9_positionFor (n + 300) 22 [.inr (9, 0), .inr (6, x1), .inl (.int x2), .inl (.int x3), .inl (.int x4), .inl (.int x5), .inl (.int (i3 x6)), x7] [] M = some res := by
  refine eX9_positionFor_22 ?_
  try simp only [am_put_nk, am_put_nf, am_put_i, not_false_eq_true, Nat.reduceEqDiff]
  refine iq h1 ?_
  refine ri h2 ?_
  refine eX9_positionFor_34 ?_
  try simp only [am_put_nk, am_put_nf, am_put_i, not_false_eq_true, Nat.reduceEqDiff]
  refine iq h3 ?_
  refine ip (i3_in' h4 (by decide)) ?_
  try rw [ixm h4 (by decide)]
  refine ri (sX5_canGive _ _ _ _ _) ?_
  refine eX9_positionFor_70 ?_
  try simp only [am_put_nk, am_put_nf, am_put_i, not_false_eq_true, Nat.reduceEqDiff]
  refine iq (fun e => bi_0.mp e h5) ?_
  refine ip h6 ?_
  rw [i3_one]
  exact k
theorem qX9_positionFor_22_7 {x1 : Nat} {x2 : Int32} {x3 : Int32} {x4 : Int32} {x5 : Int32} {x6 : Nat} {x7 : am_V} {M : am_M} {n : Nat} {res : am_O × am_M} {v1 : Int32} {j2 : Nat} (h1 : ¬ (8 ≤ (i3 x6))) (h2 : fX6_doseOf [.inr (6, x1), .inl (.int x2)] M = am_rI v1 M) (h3 : ¬ ((i3 x6) = x3)) (h4 : x6 < 8) (h5 : (M 5 x6 0) = x4 ∧ (M 9 0 8) < (M 5 x6 3) ∧ (v1 + 0) ≤ (M 5 x6 1) - (M 5 x6 2)) (h6 : ¬ (x5 = (-1))) (h7 : j2 < 8) (h8 : x5 = i3 j2) (h9 : (M 5 j2 3) ≤ (M 5 x6 3)) (k : rX9_positionFor n 22 [.inr (9, 0), .inr (6, x1), .inl (.int x2), .inl (.int x3), .inl (.int x4), .inl (.int x5), .inl (.int (i3 (x6 + 1))), .inl (.int (v1 + 0))] [] M = some res) : rX9_positionFor (n + 300) 22 [.inr (9, 0), .inr (6, x1), .inl (.int x2), .inl (.int x3), .inl (.int x4), .inl (.int x5), .inl (.int (i3 x6)), x7] [] M = some res := by
  refine eX9_positionFor_22 ?_
  try simp only [am_put_nk, am_put_nf, am_put_i, not_false_eq_true, Nat.reduceEqDiff]
  refine iq h1 ?_
  refine ri h2 ?_
  refine eX9_positionFor_34 ?_
  try simp only [am_put_nk, am_put_nf, am_put_i, not_false_eq_true, Nat.reduceEqDiff]
  refine iq h3 ?_
  refine ip (i3_in' h4 (by decide)) ?_
  try rw [ixm h4 (by decide)]
  refine ri (sX5_canGive _ _ _ _ _) ?_
  refine eX9_positionFor_70 ?_
  try simp only [am_put_nk, am_put_nf, am_put_i, not_false_eq_true, Nat.reduceEqDiff]
  refine iq (fun e => bi_0.mp e h5) ?_
  refine iq h6 ?_
  refine ip (i3_in' h4 (by decide)) ?_
  try rw [ixm h4 (by decide)]
  refine ip (ixi h8 h7 (by decide)) ?_
  try rw [ixn h8 h7 (by decide)]
  refine ip h9 ?_
  rw [i3_one]
  exact k
theorem qX9_positionFor_22_8 {x1 : Nat} {x2 : Int32} {x3 : Int32} {x4 : Int32} {x5 : Int32} {x6 : Nat} {x7 : am_V} {M : am_M} {n : Nat} {res : am_O × am_M} {v1 : Int32} {j2 : Nat} (h1 : ¬ (8 ≤ (i3 x6))) (h2 : fX6_doseOf [.inr (6, x1), .inl (.int x2)] M = am_rI v1 M) (h3 : ¬ ((i3 x6) = x3)) (h4 : x6 < 8) (h5 : (M 5 x6 0) = x4 ∧ (M 9 0 8) < (M 5 x6 3) ∧ (v1 + 0) ≤ (M 5 x6 1) - (M 5 x6 2)) (h6 : ¬ (x5 = (-1))) (h7 : j2 < 8) (h8 : x5 = i3 j2) (h9 : ¬ ((M 5 j2 3) ≤ (M 5 x6 3))) (k : rX9_positionFor n 22 [.inr (9, 0), .inr (6, x1), .inl (.int x2), .inl (.int x3), .inl (.int x4), .inl (.int (i3 x6)), .inl (.int (i3 (x6 + 1))), .inl (.int (v1 + 0))] [] M = some res) : rX9_positionFor (n + 300) 22 [.inr (9, 0), .inr (6, x1), .inl (.int x2), .inl (.int x3), .inl (.int x4), .inl (.int x5), .inl (.int (i3 x6)), x7] [] M = some res := by
  refine eX9_positionFor_22 ?_
  try simp only [am_put_nk, am_put_nf, am_put_i, not_false_eq_true, Nat.reduceEqDiff]
  refine iq h1 ?_
  refine ri h2 ?_
  refine eX9_positionFor_34 ?_
  try simp only [am_put_nk, am_put_nf, am_put_i, not_false_eq_true, Nat.reduceEqDiff]
  refine iq h3 ?_
  refine ip (i3_in' h4 (by decide)) ?_
  try rw [ixm h4 (by decide)]
  refine ri (sX5_canGive _ _ _ _ _) ?_
  refine eX9_positionFor_70 ?_
  try simp only [am_put_nk, am_put_nf, am_put_i, not_false_eq_true, Nat.reduceEqDiff]
  refine iq (fun e => bi_0.mp e h5) ?_
  refine iq h6 ?_
  refine ip (i3_in' h4 (by decide)) ?_
  try rw [ixm h4 (by decide)]
  refine ip (ixi h8 h7 (by decide)) ?_
  try rw [ixn h8 h7 (by decide)]
  refine iq h9 ?_
  rw [i3_one]
  exact k
theorem qX10_placeFor_0 {x1 : Int32} {x2 : Int32} {M : am_M} {res : am_O × am_M} (k : rX10_placeFor 99900 5 [.inr (10, 0), .inl (.int x1), .inl (.int x2), .inl (.int (-1)), .inl (.int 0), am_D] [] M = some res) : fX10_placeFor [.inr (10, 0), .inl (.int x1), .inl (.int x2)] M = some res := by
  rw [eX10_placeFor]
  refine eX10_placeFor_0 ?_
  try simp only [am_put_nk, am_put_nf, am_put_i, not_false_eq_true, Nat.reduceEqDiff]
  exact k
theorem mX10_placeFor {n m pc : Nat} {ls st : List am_V} {M : am_M} {res : am_O × am_M} (h : rX10_placeFor n pc ls st M = some res) (hm : n ≤ m) : rX10_placeFor m pc ls st M = some res := by
  have h2 := am_run_mono_add h (m - n)
  rw [show n + (m - n) = m by omega] at h2
  exact h2
theorem qX10_placeFor_5_0 {x1 : Int32} {x2 : Int32} {x3 : Int32} {x4 : Nat} {x5 : am_V} {M : am_M} {n : Nat} (h1 : 8 ≤ (i3 x4)) : rX10_placeFor (n + 100) 5 [.inr (10, 0), .inl (.int x1), .inl (.int x2), .inl (.int x3), .inl (.int (i3 x4)), x5] [] M = am_rI x3 M := by
  refine eX10_placeFor_5 ?_
  try simp only [am_put_nk, am_put_nf, am_put_i, not_false_eq_true, Nat.reduceEqDiff]
  refine ip h1 ?_
  all_goals rfl
theorem qX10_placeFor_5_1 {x1 : Int32} {x2 : Int32} {x3 : Int32} {x4 : Nat} {x5 : am_V} {M : am_M} {n : Nat} {res : am_O × am_M} (h1 : ¬ (8 ≤ (i3 x4))) (h2 : x4 < 8) (h3 : (M 40 0 x4) = x1) (h4 : (M 42 0 x4) ≤ (M 10 0 41)) (k : rX10_placeFor n 5 [.inr (10, 0), .inl (.int x1), .inl (.int x2), .inl (.int x3), .inl (.int (i3 (x4 + 1))), .inl (.int 0)] [] M = some res) : rX10_placeFor (n + 100) 5 [.inr (10, 0), .inl (.int x1), .inl (.int x2), .inl (.int x3), .inl (.int (i3 x4)), x5] [] M = some res := by
  refine eX10_placeFor_5 ?_
  try simp only [am_put_nk, am_put_nf, am_put_i, not_false_eq_true, Nat.reduceEqDiff]
  refine iq h1 ?_
  refine ip (i3_in' h2 (by decide)) ?_
  try rw [ixm h2 (by decide)]
  refine ip h3 ?_
  refine ip (i3_in' h2 (by decide)) ?_
  try rw [ixm h2 (by decide)]
  refine ip h4 ?_
  rw [i3_one]
  exact k
theorem qX10_placeFor_5_2 {x1 : Int32} {x2 : Int32} {x3 : Int32} {x4 : Nat} {x5 : am_V} {M : am_M} {n : Nat} {res : am_O × am_M} {v1 : Int32} (h1 : ¬ (8 ≤ (i3 x4))) (h2 : x4 < 8) (h3 : (M 40 0 x4) = x1) (h4 : ¬ ((M 42 0 x4) ≤ (M 10 0 41))) (h5 : fX10_reserved [.inr (10, 0), .inl (.int (i3 x4))] M = am_rI v1 M) (h6 : ((M 41 0 x4) - v1) < x2) (k : rX10_placeFor n 5 [.inr (10, 0), .inl (.int x1), .inl (.int x2), .inl (.int x3), .inl (.int (i3 (x4 + 1))), .inl (.int 0)] [] M = some res) : rX10_placeFor (n + 200) 5 [.inr (10, 0), .inl (.int x1), .inl (.int x2), .inl (.int x3), .inl (.int (i3 x4)), x5] [] M = some res := by
  refine eX10_placeFor_5 ?_
  try simp only [am_put_nk, am_put_nf, am_put_i, not_false_eq_true, Nat.reduceEqDiff]
  refine iq h1 ?_
  refine ip (i3_in' h2 (by decide)) ?_
  try rw [ixm h2 (by decide)]
  refine ip h3 ?_
  refine ip (i3_in' h2 (by decide)) ?_
  try rw [ixm h2 (by decide)]
  refine iq h4 ?_
  refine ip (i3_in' h2 (by decide)) ?_
  try rw [ixm h2 (by decide)]
  refine ri h5 ?_
  refine eX10_placeFor_50 ?_
  try simp only [am_put_nk, am_put_nf, am_put_i, not_false_eq_true, Nat.reduceEqDiff]
  refine ip h6 ?_
  rw [i3_one]
  exact k
theorem qX10_placeFor_5_3 {x1 : Int32} {x2 : Int32} {x3 : Int32} {x4 : Nat} {x5 : am_V} {M : am_M} {n : Nat} {res : am_O × am_M} {v1 : Int32} (h1 : ¬ (8 ≤ (i3 x4))) (h2 : x4 < 8) (h3 : (M 40 0 x4) = x1) (h4 : ¬ ((M 42 0 x4) ≤ (M 10 0 41))) (h5 : fX10_reserved [.inr (10, 0), .inl (.int (i3 x4))] M = am_rI v1 M) (h6 : ¬ (((M 41 0 x4) - v1) < x2)) (h7 : x3 < 0) (k : rX10_placeFor n 5 [.inr (10, 0), .inl (.int x1), .inl (.int x2), .inl (.int (i3 x4)), .inl (.int (i3 (x4 + 1))), .inl (.int 1)] [] M = some res) : rX10_placeFor (n + 200) 5 [.inr (10, 0), .inl (.int x1), .inl (.int x2), .inl (.int x3), .inl (.int (i3 x4)), x5] [] M = some res := by
  refine eX10_placeFor_5 ?_
  try simp only [am_put_nk, am_put_nf, am_put_i, not_false_eq_true, Nat.reduceEqDiff]
  refine iq h1 ?_
  refine ip (i3_in' h2 (by decide)) ?_
  try rw [ixm h2 (by decide)]
  refine ip h3 ?_
  refine ip (i3_in' h2 (by decide)) ?_
  try rw [ixm h2 (by decide)]
  refine iq h4 ?_
  refine ip (i3_in' h2 (by decide)) ?_
  try rw [ixm h2 (by decide)]
  refine ri h5 ?_
  refine eX10_placeFor_50 ?_
  try simp only [am_put_nk, am_put_nf, am_put_i, not_false_eq_true, Nat.reduceEqDiff]
  refine iq h6 ?_
  refine ip h7 ?_
  rw [i3_one]
  exact k
theorem qX10_placeFor_5_4 {x1 : Int32} {x2 : Int32} {x3 : Int32} {x4 : Nat} {x5 : am_V} {M : am_M} {n : Nat} {res : am_O × am_M} {v1 : Int32} {j1 : Nat} (h1 : ¬ (8 ≤ (i3 x4))) (h2 : x4 < 8) (h3 : (M 40 0 x4) = x1) (h4 : ¬ ((M 42 0 x4) ≤ (M 10 0 41))) (h5 : fX10_reserved [.inr (10, 0), .inl (.int (i3 x4))] M = am_rI v1 M) (h6 : ¬ (((M 41 0 x4) - v1) < x2)) (h7 : ¬ (x3 < 0)) (h8 : j1 < 8) (h9 : x3 = i3 j1) (h10 : (M 42 0 j1) ≤ (M 42 0 x4)) (k : rX10_placeFor n 5 [.inr (10, 0), .inl (.int x1), .inl (.int x2), .inl (.int x3), .inl (.int (i3 (x4 + 1))), .inl (.int 1)] [] M = some res) : rX10_placeFor (n + 200) 5 [.inr (10, 0), .inl (.int x1), .inl (.int x2), .inl (.int x3), .inl (.int (i3 x4)), x5] [] M = some res := by
  refine eX10_placeFor_5 ?_
  try simp only [am_put_nk, am_put_nf, am_put_i, not_false_eq_true, Nat.reduceEqDiff]
  refine iq h1 ?_
  refine ip (i3_in' h2 (by decide)) ?_
  try rw [ixm h2 (by decide)]
  refine ip h3 ?_
  refine ip (i3_in' h2 (by decide)) ?_
  try rw [ixm h2 (by decide)]
  refine iq h4 ?_
  refine ip (i3_in' h2 (by decide)) ?_
  try rw [ixm h2 (by decide)]
  refine ri h5 ?_
  refine eX10_placeFor_50 ?_
  try simp only [am_put_nk, am_put_nf, am_put_i, not_false_eq_true, Nat.reduceEqDiff]
  refine iq h6 ?_
  refine iq h7 ?_
  refine ip (i3_in' h2 (by decide)) ?_
  try rw [ixm h2 (by decide)]
  refine ip (ixi h9 h8 (by decide)) ?_
  try rw [ixn h9 h8 (by decide)]
  refine ip h10 ?_
  rw [i3_one]
  exact k
theorem qX10_placeFor_5_5 {x1 : Int32} {x2 : Int32} {x3 : Int32} {x4 : Nat} {x5 : am_V} {M : am_M} {n : Nat} {res : am_O × am_M} {v1 : Int32} {j1 : Nat} (h1 : ¬ (8 ≤ (i3 x4))) (h2 : x4 < 8) (h3 : (M 40 0 x4) = x1) (h4 : ¬ ((M 42 0 x4) ≤ (M 10 0 41))) (h5 : fX10_reserved [.inr (10, 0), .inl (.int (i3 x4))] M = am_rI v1 M) (h6 : ¬ (((M 41 0 x4) - v1) < x2)) (h7 : ¬ (x3 < 0)) (h8 : j1 < 8) (h9 : x3 = i3 j1) (h10 : ¬ ((M 42 0 j1) ≤ (M 42 0 x4))) (k : rX10_placeFor n 5 [.inr (10, 0), .inl (.int x1), .inl (.int x2), .inl (.int (i3 x4)), .inl (.int (i3 (x4 + 1))), .inl (.int 1)] [] M = some res) : rX10_placeFor (n + 200) 5 [.inr (10, 0), .inl (.int x1), .inl (.int x2), .inl (.int x3), .inl (.int (i3 x4)), x5] [] M = some res := by
  refine eX10_placeFor_5 ?_
  try simp only [am_put_nk, am_put_nf, am_put_i, not_false_eq_true, Nat.reduceEqDiff]
  refine iq h1 ?_
  refine ip (i3_in' h2 (by decide)) ?_
  try rw [ixm h2 (by decide)]
  refine ip h3 ?_
  refine ip (i3_in' h2 (by decide)) ?_
  try rw [ixm h2 (by decide)]
  refine iq h4 ?_
  refine ip (i3_in' h2 (by decide)) ?_
  try rw [ixm h2 (by decide)]
  refine ri h5 ?_
  refine eX10_placeFor_50 ?_
  try simp only [am_put_nk, am_put_nf, am_put_i, not_false_eq_true, Nat.reduceEqDiff]
  refine iq h6 ?_
  refine iq h7 ?_
  refine ip (i3_in' h2 (by decide)) ?_
  try rw [ixm h2 (by decide)]
  refine ip (ixi h9 h8 (by decide)) ?_
  try rw [ixn h9 h8 (by decide)]
  refine iq h10 ?_
  rw [i3_one]
  exact k
theorem qX10_placeFor_5_6 {x1 : Int32} {x2 : Int32} {x3 : Int32} {x4 : Nat} {x5 : am_V} {M : am_M} {n : Nat} {res : am_O × am_M} (h1 : ¬ (8 ≤ (i3 x4))) (h2 : x4 < 8) (h3 : ¬ ((M 40 0 x4) = x1)) (k : rX10_placeFor n 5 [.inr (10, 0), .inl (.int x1), .inl (.int x2), .inl (.int x3), .inl (.int (i3 (x4 + 1))), .inl (.int 0)] [] M = some res) : rX10_placeFor (n + 100) 5 [.inr (10, 0), .inl (.int x1), .inl (.int x2), .inl (.int x3), .inl (.int (i3 x4)), x5] [] M = some res := by
  refine eX10_placeFor_5 ?_
  try simp only [am_put_nk, am_put_nf, am_put_i, not_false_eq_true, Nat.reduceEqDiff]
  refine iq h1 ?_
  refine ip (i3_in' h2 (by decide)) ?_
  try rw [ixm h2 (by decide)]
  refine iq h3 ?_
  rw [i3_one]
  exact k
theorem qX9_cleanCuvette_0 {M : am_M} {res : am_O × am_M} (k : rX9_cleanCuvette 99900 2 [.inr (9, 0), .inl (.int 0)] [] M = some res) : fX9_cleanCuvette [.inr (9, 0)] M = some res := by
  rw [eX9_cleanCuvette]
  refine eX9_cleanCuvette_0 ?_
  try simp only [am_put_nk, am_put_nf, am_put_i, not_false_eq_true, Nat.reduceEqDiff]
  exact k
theorem mX9_cleanCuvette {n m pc : Nat} {ls st : List am_V} {M : am_M} {res : am_O × am_M} (h : rX9_cleanCuvette n pc ls st M = some res) (hm : n ≤ m) : rX9_cleanCuvette m pc ls st M = some res := by
  have h2 := am_run_mono_add h (m - n)
  rw [show n + (m - n) = m by omega] at h2
  exact h2
theorem qX9_cleanCuvette_2_0 {x1 : Nat} {M : am_M} {n : Nat} (h1 : 10 ≤ (i3 x1)) : rX9_cleanCuvette (n + 100) 2 [.inr (9, 0), .inl (.int (i3 x1))] [] M = am_rI (-1) M := by
  refine eX9_cleanCuvette_2 ?_
  try simp only [am_put_nk, am_put_nf, am_put_i, not_false_eq_true, Nat.reduceEqDiff]
  refine ip h1 ?_
  all_goals rfl
theorem qX9_cleanCuvette_2_1 {x1 : Nat} {M : am_M} {n : Nat} {res : am_O × am_M} (h1 : ¬ (10 ≤ (i3 x1))) (h2 : x1 < 10) (h3 : ¬ ((M 1 x1 5) = -1 ∧ (M 1 x1 8) = 0)) (k : rX9_cleanCuvette n 2 [.inr (9, 0), .inl (.int (i3 (x1 + 1)))] [] M = some res) : rX9_cleanCuvette (n + 200) 2 [.inr (9, 0), .inl (.int (i3 x1))] [] M = some res := by
  refine eX9_cleanCuvette_2 ?_
  try simp only [am_put_nk, am_put_nf, am_put_i, not_false_eq_true, Nat.reduceEqDiff]
  refine iq h1 ?_
  refine ip (i3_in' h2 (by decide)) ?_
  try rw [ixm h2 (by decide)]
  refine ri (sX1_isClean _ _) ?_
  refine eX9_cleanCuvette_17 ?_
  try simp only [am_put_nk, am_put_nf, am_put_i, not_false_eq_true, Nat.reduceEqDiff]
  refine ip (bi_f h3) ?_
  rw [i3_one]
  exact k
theorem qX9_cleanCuvette_2_2 {x1 : Nat} {M : am_M} {n : Nat} (h1 : ¬ (10 ≤ (i3 x1))) (h2 : x1 < 10) (h3 : (M 1 x1 5) = -1 ∧ (M 1 x1 8) = 0) : rX9_cleanCuvette (n + 200) 2 [.inr (9, 0), .inl (.int (i3 x1))] [] M = am_rI (i3 x1) M := by
  refine eX9_cleanCuvette_2 ?_
  try simp only [am_put_nk, am_put_nf, am_put_i, not_false_eq_true, Nat.reduceEqDiff]
  refine iq h1 ?_
  refine ip (i3_in' h2 (by decide)) ?_
  try rw [ixm h2 (by decide)]
  refine ri (sX1_isClean _ _) ?_
  refine eX9_cleanCuvette_17 ?_
  try simp only [am_put_nk, am_put_nf, am_put_i, not_false_eq_true, Nat.reduceEqDiff]
  refine iq (fun e => bi_0.mp e h3) ?_
  all_goals rfl
theorem qX10_clean_0 {M : am_M} {res : am_O × am_M} (k : rX10_clean 99900 2 [.inr (10, 0), .inl (.int 0), am_D, am_D] [] M = some res) : fX10_clean [.inr (10, 0)] M = some res := by
  rw [eX10_clean]
  refine eX10_clean_0 ?_
  try simp only [am_put_nk, am_put_nf, am_put_i, not_false_eq_true, Nat.reduceEqDiff]
  exact k
theorem mX10_clean {n m pc : Nat} {ls st : List am_V} {M : am_M} {res : am_O × am_M} (h : rX10_clean n pc ls st M = some res) (hm : n ≤ m) : rX10_clean m pc ls st M = some res := by
  have h2 := am_run_mono_add h (m - n)
  rw [show n + (m - n) = m by omega] at h2
  exact h2
theorem qX10_clean_2_0 {x1 : Nat} {x2 : am_V} {x3 : am_V} {M : am_M} {n : Nat} (h1 : 10 ≤ (i3 x1)) : rX10_clean (n + 100) 2 [.inr (10, 0), .inl (.int (i3 x1)), x2, x3] [] M = am_rI (-1) M := by
  refine eX10_clean_2 ?_
  try simp only [am_put_nk, am_put_nf, am_put_i, not_false_eq_true, Nat.reduceEqDiff]
  refine ip h1 ?_
  all_goals rfl
theorem qX10_clean_2_1 {x1 : Nat} {x2 : am_V} {x3 : am_V} {M : am_M} {n : Nat} {res : am_O × am_M} (h1 : ¬ (10 ≤ (i3 x1))) (h2 : x1 < 10) (h3 : (M 59 0 x1) = 0) (k : rX10_clean n 25 [.inr (10, 0), .inl (.int (i3 x1)), .inl (.int 1), .inl (.int 0)] [] M = some res) : rX10_clean (n + 100) 2 [.inr (10, 0), .inl (.int (i3 x1)), x2, x3] [] M = some res := by
  refine eX10_clean_2 ?_
  try simp only [am_put_nk, am_put_nf, am_put_i, not_false_eq_true, Nat.reduceEqDiff]
  refine iq h1 ?_
  refine ip (i3_in' h2 (by decide)) ?_
  try rw [ixm h2 (by decide)]
  refine ip h3 ?_
  exact k
theorem qX10_clean_2_2 {x1 : Nat} {x2 : am_V} {x3 : am_V} {M : am_M} {n : Nat} {res : am_O × am_M} (h1 : ¬ (10 ≤ (i3 x1))) (h2 : x1 < 10) (h3 : ¬ ((M 59 0 x1) = 0)) (k : rX10_clean n 25 [.inr (10, 0), .inl (.int (i3 x1)), .inl (.int 0), .inl (.int 0)] [] M = some res) : rX10_clean (n + 100) 2 [.inr (10, 0), .inl (.int (i3 x1)), x2, x3] [] M = some res := by
  refine eX10_clean_2 ?_
  try simp only [am_put_nk, am_put_nf, am_put_i, not_false_eq_true, Nat.reduceEqDiff]
  refine iq h1 ?_
  refine ip (i3_in' h2 (by decide)) ?_
  try rw [ixm h2 (by decide)]
  refine iq h3 ?_
  exact k
theorem qX10_clean_25_0 {x1 : Nat} {x2 : Int32} {x3 : Nat} {M : am_M} {n : Nat} {res : am_O × am_M} (h1 : (M 10 0 14) ≤ (i3 x3)) (h2 : x2 = 0) (k : rX10_clean n 2 [.inr (10, 0), .inl (.int (i3 (x1 + 1))), .inl (.int x2), .inl (.int (i3 x3))] [] M = some res) : rX10_clean (n + 100) 25 [.inr (10, 0), .inl (.int (i3 x1)), .inl (.int x2), .inl (.int (i3 x3))] [] M = some res := by
  refine eX10_clean_25 ?_
  try simp only [am_put_nk, am_put_nf, am_put_i, not_false_eq_true, Nat.reduceEqDiff]
  refine ip h1 ?_
  refine ip h2 ?_
  rw [i3_one]
  exact k
theorem qX10_clean_25_1 {x1 : Nat} {x2 : Int32} {x3 : Nat} {M : am_M} {n : Nat} (h1 : (M 10 0 14) ≤ (i3 x3)) (h2 : ¬ (x2 = 0)) : rX10_clean (n + 100) 25 [.inr (10, 0), .inl (.int (i3 x1)), .inl (.int x2), .inl (.int (i3 x3))] [] M = am_rI (i3 x1) M := by
  refine eX10_clean_25 ?_
  try simp only [am_put_nk, am_put_nf, am_put_i, not_false_eq_true, Nat.reduceEqDiff]
  refine ip h1 ?_
  refine iq h2 ?_
  all_goals rfl
theorem qX10_clean_25_2 {x1 : Nat} {x2 : Int32} {x3 : Nat} {M : am_M} {n : Nat} {res : am_O × am_M} (h1 : ¬ ((M 10 0 14) ≤ (i3 x3))) (h2 : x3 < 40) (h3 : (M 51 0 x3) = (i3 x1)) (k : rX10_clean n 25 [.inr (10, 0), .inl (.int (i3 x1)), .inl (.int 0), .inl (.int (i3 (x3 + 1)))] [] M = some res) : rX10_clean (n + 100) 25 [.inr (10, 0), .inl (.int (i3 x1)), .inl (.int x2), .inl (.int (i3 x3))] [] M = some res := by
  refine eX10_clean_25 ?_
  try simp only [am_put_nk, am_put_nf, am_put_i, not_false_eq_true, Nat.reduceEqDiff]
  refine iq h1 ?_
  refine ip (i3_in' h2 (by decide)) ?_
  try rw [ixm h2 (by decide)]
  refine ip h3 ?_
  rw [i3_one]
  exact k
theorem qX10_clean_25_3 {x1 : Nat} {x2 : Int32} {x3 : Nat} {M : am_M} {n : Nat} {res : am_O × am_M} (h1 : ¬ ((M 10 0 14) ≤ (i3 x3))) (h2 : x3 < 40) (h3 : ¬ ((M 51 0 x3) = (i3 x1))) (k : rX10_clean n 25 [.inr (10, 0), .inl (.int (i3 x1)), .inl (.int x2), .inl (.int (i3 (x3 + 1)))] [] M = some res) : rX10_clean (n + 100) 25 [.inr (10, 0), .inl (.int (i3 x1)), .inl (.int x2), .inl (.int (i3 x3))] [] M = some res := by
  refine eX10_clean_25 ?_
  try simp only [am_put_nk, am_put_nf, am_put_i, not_false_eq_true, Nat.reduceEqDiff]
  refine iq h1 ?_
  refine ip (i3_in' h2 (by decide)) ?_
  try rw [ixm h2 (by decide)]
  refine iq h3 ?_
  rw [i3_one]
  exact k
theorem qX9_reserve_0 {x1 : Nat} {x2 : Int32} {x3 : Int32} {x4 : Int32} {M : am_M} {j1 : Nat} (h1 : j1 < 2) (h2 : x2 = i3 j1) (h3 : x3 = (-1)) : fX9_reserve [.inr (9, 0), .inr (1, x1), .inl (.int x2), .inl (.int x3), .inl (.int x4)] M = am_rV (am_put (am_put M 14 x1 j1 x3) 15 x1 j1 x4) := by
  rw [eX9_reserve]
  refine eX9_reserve_0 ?_
  try simp only [am_put_nk, am_put_nf, am_put_i, not_false_eq_true, Nat.reduceEqDiff]
  refine ip (ixi h2 h1 (by decide)) ?_
  try rw [ixn h2 h1 (by decide)]
  refine ip (ixi h2 h1 (by decide)) ?_
  try rw [ixn h2 h1 (by decide)]
  refine ip h3 ?_
  all_goals rfl
theorem qX9_reserve_1 {x1 : Nat} {x2 : Int32} {x3 : Int32} {x4 : Int32} {M : am_M} {j1 : Nat} {j2 : Nat} (h1 : j1 < 2) (h2 : x2 = i3 j1) (h3 : ¬ (x3 = (-1))) (h4 : j2 < 8) (h5 : x3 = i3 j2) : fX9_reserve [.inr (9, 0), .inr (1, x1), .inl (.int x2), .inl (.int x3), .inl (.int x4)] M = am_rV (am_put (am_put (am_put M 14 x1 j1 x3) 15 x1 j1 x4) 5 j2 2 ((M 5 j2 2) + x4)) := by
  rw [eX9_reserve]
  refine eX9_reserve_0 ?_
  try simp only [am_put_nk, am_put_nf, am_put_i, not_false_eq_true, Nat.reduceEqDiff]
  refine ip (ixi h2 h1 (by decide)) ?_
  try rw [ixn h2 h1 (by decide)]
  refine ip (ixi h2 h1 (by decide)) ?_
  try rw [ixn h2 h1 (by decide)]
  refine iq h3 ?_
  refine ip (ixi h5 h4 (by decide)) ?_
  try rw [ixn h5 h4 (by decide)]
  all_goals rfl
theorem qX9_takeSample_0 {x1 : Nat} {x2 : Int32} {x3 : Int32} {M : am_M} {j1 : Nat} (h1 : (am_b (M 9 0 10)) = 0) (h2 : j1 < 10) (h3 : x2 = i3 j1) : fX9_takeSample [.inr (9, 0), .inr (8, x1), .inl (.int x2), .inl (.int x3)] M = am_rV (am_put (am_put M 8 x1 2 ((M 8 x1 2) - x3)) 1 j1 9 x3) := by
  rw [eX9_takeSample]
  refine eX9_takeSample_0 ?_
  try simp only [am_put_nk, am_put_nf, am_put_i, not_false_eq_true, Nat.reduceEqDiff]
  refine ip h1 ?_
  refine ip (ixi h3 h2 (by decide)) ?_
  try rw [ixn h3 h2 (by decide)]
  all_goals rfl
theorem qX9_takeSample_1 {x1 : Nat} {x2 : Int32} {x3 : Int32} {M : am_M} {M1 : am_M} (h1 : ¬ ((am_b (M 9 0 10)) = 0)) (h2 : fX9_breakOff [.inr (9, 0), .inl (.int x2), .inl (.int 3)] (am_put M 9 0 10 0) = am_rV M1) : fX9_takeSample [.inr (9, 0), .inr (8, x1), .inl (.int x2), .inl (.int x3)] M = am_rV M1 := by
  rw [eX9_takeSample]
  refine eX9_takeSample_0 ?_
  try simp only [am_put_nk, am_put_nf, am_put_i, not_false_eq_true, Nat.reduceEqDiff]
  refine iq h1 ?_
  refine rv h2 ?_
  refine eX9_takeSample_18 ?_
  try simp only [am_put_nk, am_put_nf, am_put_i, not_false_eq_true, Nat.reduceEqDiff]
  all_goals rfl
theorem qX7_book_0 {x1 : Nat} {x2 : Int32} {M : am_M} {v1 : Int32} {v2 : Int32} (h1 : (M 18 x1 1) = (-1)) (h2 : fX6_kindOf [.inr (6, x1), .inl (.int (0 + 1))] M = am_rI v1 M) (h3 : v1 = (-1)) (h4 : (M 18 x1 4) = (-1)) (h5 : fX7_hasForbiddenSuccession [.inr (7, 0)] M = am_rI v2 M) (h6 : v2 = 0) : fX7_book [.inr (7, 0), .inr (6, x1), .inl (.int x2)] M = am_rI 1 M := by
  rw [eX7_book]
  refine eX7_book_0 ?_
  try simp only [am_put_nk, am_put_nf, am_put_i, not_false_eq_true, Nat.reduceEqDiff]
  refine eX7_book_12 ?_
  try simp only [am_put_nk, am_put_nf, am_put_i, not_false_eq_true, Nat.reduceEqDiff]
  refine ip h1 ?_
  refine iq (by decide) ?_
  refine ri h2 ?_
  refine eX7_book_12 ?_
  try simp only [am_put_nk, am_put_nf, am_put_i, not_false_eq_true, Nat.reduceEqDiff]
  refine ip h3 ?_
  refine ip (by decide) ?_
  refine ip h1 ?_
  refine ip h4 ?_
  refine ri h5 ?_
  refine eX7_book_88 ?_
  try simp only [am_put_nk, am_put_nf, am_put_i, not_false_eq_true, Nat.reduceEqDiff]
  refine ip h6 ?_
  all_goals rfl
theorem qX7_book_1 {x1 : Nat} {x2 : Int32} {M : am_M} {v1 : Int32} {v2 : Int32} {M3 : am_M} (h1 : (M 18 x1 1) = (-1)) (h2 : fX6_kindOf [.inr (6, x1), .inl (.int (0 + 1))] M = am_rI v1 M) (h3 : v1 = (-1)) (h4 : (M 18 x1 4) = (-1)) (h5 : fX7_hasForbiddenSuccession [.inr (7, 0)] M = am_rI v2 M) (h6 : ¬ (v2 = 0)) (h7 : fX7_cancel [.inr (7, 0), .inl (.int x2)] M = am_rV M3) : fX7_book [.inr (7, 0), .inr (6, x1), .inl (.int x2)] M = am_rI 0 M3 := by
  rw [eX7_book]
  refine eX7_book_0 ?_
  try simp only [am_put_nk, am_put_nf, am_put_i, not_false_eq_true, Nat.reduceEqDiff]
  refine eX7_book_12 ?_
  try simp only [am_put_nk, am_put_nf, am_put_i, not_false_eq_true, Nat.reduceEqDiff]
  refine ip h1 ?_
  refine iq (by decide) ?_
  refine ri h2 ?_
  refine eX7_book_12 ?_
  try simp only [am_put_nk, am_put_nf, am_put_i, not_false_eq_true, Nat.reduceEqDiff]
  refine ip h3 ?_
  refine ip (by decide) ?_
  refine ip h1 ?_
  refine ip h4 ?_
  refine ri h5 ?_
  refine eX7_book_88 ?_
  try simp only [am_put_nk, am_put_nf, am_put_i, not_false_eq_true, Nat.reduceEqDiff]
  refine iq h6 ?_
  refine rv h7 ?_
  refine eX7_book_96 ?_
  try simp only [am_put_nk, am_put_nf, am_put_i, not_false_eq_true, Nat.reduceEqDiff]
  all_goals rfl
theorem qX7_book_2 {x1 : Nat} {x2 : Int32} {M : am_M} {v1 : Int32} {j1 : Nat} {v3 : Int32} (h1 : (M 18 x1 1) = (-1)) (h2 : fX6_kindOf [.inr (6, x1), .inl (.int (0 + 1))] M = am_rI v1 M) (h3 : v1 = (-1)) (h4 : ¬ ((M 18 x1 4) = (-1))) (h5 : j1 < 13) (h6 : (M 18 x1 6) = i3 j1) (h7 : fX7_hasForbiddenSuccession [.inr (7, 0)] (am_put (am_put M 19 0 j1 (M 18 x1 4)) 20 0 j1 x2) = am_rI v3 (am_put (am_put M 19 0 j1 (M 18 x1 4)) 20 0 j1 x2)) (h8 : v3 = 0) : fX7_book [.inr (7, 0), .inr (6, x1), .inl (.int x2)] M = am_rI 1 (am_put (am_put M 19 0 j1 (M 18 x1 4)) 20 0 j1 x2) := by
  rw [eX7_book]
  refine eX7_book_0 ?_
  try simp only [am_put_nk, am_put_nf, am_put_i, not_false_eq_true, Nat.reduceEqDiff]
  refine eX7_book_12 ?_
  try simp only [am_put_nk, am_put_nf, am_put_i, not_false_eq_true, Nat.reduceEqDiff]
  refine ip h1 ?_
  refine iq (by decide) ?_
  refine ri h2 ?_
  refine eX7_book_12 ?_
  try simp only [am_put_nk, am_put_nf, am_put_i, not_false_eq_true, Nat.reduceEqDiff]
  refine ip h3 ?_
  refine ip (by decide) ?_
  refine ip h1 ?_
  refine iq h4 ?_
  refine ip (ixi h6 h5 (by decide)) ?_
  try rw [ixn h6 h5 (by decide)]
  refine ip (ixi h6 h5 (by decide)) ?_
  try rw [ixn h6 h5 (by decide)]
  refine ri h7 ?_
  refine eX7_book_88 ?_
  try simp only [am_put_nk, am_put_nf, am_put_i, not_false_eq_true, Nat.reduceEqDiff]
  refine ip h8 ?_
  all_goals rfl
theorem qX7_book_3 {x1 : Nat} {x2 : Int32} {M : am_M} {v1 : Int32} {j1 : Nat} {v3 : Int32} {M4 : am_M} (h1 : (M 18 x1 1) = (-1)) (h2 : fX6_kindOf [.inr (6, x1), .inl (.int (0 + 1))] M = am_rI v1 M) (h3 : v1 = (-1)) (h4 : ¬ ((M 18 x1 4) = (-1))) (h5 : j1 < 13) (h6 : (M 18 x1 6) = i3 j1) (h7 : fX7_hasForbiddenSuccession [.inr (7, 0)] (am_put (am_put M 19 0 j1 (M 18 x1 4)) 20 0 j1 x2) = am_rI v3 (am_put (am_put M 19 0 j1 (M 18 x1 4)) 20 0 j1 x2)) (h8 : ¬ (v3 = 0)) (h9 : fX7_cancel [.inr (7, 0), .inl (.int x2)] (am_put (am_put M 19 0 j1 (M 18 x1 4)) 20 0 j1 x2) = am_rV M4) : fX7_book [.inr (7, 0), .inr (6, x1), .inl (.int x2)] M = am_rI 0 M4 := by
  rw [eX7_book]
  refine eX7_book_0 ?_
  try simp only [am_put_nk, am_put_nf, am_put_i, not_false_eq_true, Nat.reduceEqDiff]
  refine eX7_book_12 ?_
  try simp only [am_put_nk, am_put_nf, am_put_i, not_false_eq_true, Nat.reduceEqDiff]
  refine ip h1 ?_
  refine iq (by decide) ?_
  refine ri h2 ?_
  refine eX7_book_12 ?_
  try simp only [am_put_nk, am_put_nf, am_put_i, not_false_eq_true, Nat.reduceEqDiff]
  refine ip h3 ?_
  refine ip (by decide) ?_
  refine ip h1 ?_
  refine iq h4 ?_
  refine ip (ixi h6 h5 (by decide)) ?_
  try rw [ixn h6 h5 (by decide)]
  refine ip (ixi h6 h5 (by decide)) ?_
  try rw [ixn h6 h5 (by decide)]
  refine ri h7 ?_
  refine eX7_book_88 ?_
  try simp only [am_put_nk, am_put_nf, am_put_i, not_false_eq_true, Nat.reduceEqDiff]
  refine iq h8 ?_
  refine rv h9 ?_
  refine eX7_book_96 ?_
  try simp only [am_put_nk, am_put_nf, am_put_i, not_false_eq_true, Nat.reduceEqDiff]
  all_goals rfl
theorem qX7_book_4 {x1 : Nat} {x2 : Int32} {M : am_M} {v1 : Int32} {v2 : Int32} {v3 : Int32} (h1 : (M 18 x1 1) = (-1)) (h2 : fX6_kindOf [.inr (6, x1), .inl (.int (0 + 1))] M = am_rI v1 M) (h3 : ¬ (v1 = (-1))) (h4 : fX6_ageOf [.inr (6, x1), .inl (.int (0 + 1))] M = am_rI v2 M) (h5 : fX7_isFree [.inr (7, 0), .inl (.int v2)] M = am_rI v3 M) (h6 : v3 = 0) : fX7_book [.inr (7, 0), .inr (6, x1), .inl (.int x2)] M = am_rI 0 M := by
  rw [eX7_book]
  refine eX7_book_0 ?_
  try simp only [am_put_nk, am_put_nf, am_put_i, not_false_eq_true, Nat.reduceEqDiff]
  refine eX7_book_12 ?_
  try simp only [am_put_nk, am_put_nf, am_put_i, not_false_eq_true, Nat.reduceEqDiff]
  refine ip h1 ?_
  refine iq (by decide) ?_
  refine ri h2 ?_
  refine eX7_book_12 ?_
  try simp only [am_put_nk, am_put_nf, am_put_i, not_false_eq_true, Nat.reduceEqDiff]
  refine iq h3 ?_
  refine ri h4 ?_
  refine eX7_book_22 ?_
  try simp only [am_put_nk, am_put_nf, am_put_i, not_false_eq_true, Nat.reduceEqDiff]
  refine ri h5 ?_
  refine eX7_book_25 ?_
  try simp only [am_put_nk, am_put_nf, am_put_i, not_false_eq_true, Nat.reduceEqDiff]
  refine ip h6 ?_
  all_goals rfl
theorem qX7_book_5 {x1 : Nat} {x2 : Int32} {M : am_M} {v1 : Int32} {v2 : Int32} {v3 : Int32} {v4 : Int32} (h1 : (M 18 x1 1) = (-1)) (h2 : fX6_kindOf [.inr (6, x1), .inl (.int (0 + 1))] M = am_rI v1 M) (h3 : ¬ (v1 = (-1))) (h4 : fX6_ageOf [.inr (6, x1), .inl (.int (0 + 1))] M = am_rI v2 M) (h5 : fX7_isFree [.inr (7, 0), .inl (.int v2)] M = am_rI v3 M) (h6 : ¬ (v3 = 0)) (h7 : (M 18 x1 4) = (-1)) (h8 : fX7_hasForbiddenSuccession [.inr (7, 0)] M = am_rI v4 M) (h9 : v4 = 0) : fX7_book [.inr (7, 0), .inr (6, x1), .inl (.int x2)] M = am_rI 1 M := by
  rw [eX7_book]
  refine eX7_book_0 ?_
  try simp only [am_put_nk, am_put_nf, am_put_i, not_false_eq_true, Nat.reduceEqDiff]
  refine eX7_book_12 ?_
  try simp only [am_put_nk, am_put_nf, am_put_i, not_false_eq_true, Nat.reduceEqDiff]
  refine ip h1 ?_
  refine iq (by decide) ?_
  refine ri h2 ?_
  refine eX7_book_12 ?_
  try simp only [am_put_nk, am_put_nf, am_put_i, not_false_eq_true, Nat.reduceEqDiff]
  refine iq h3 ?_
  refine ri h4 ?_
  refine eX7_book_22 ?_
  try simp only [am_put_nk, am_put_nf, am_put_i, not_false_eq_true, Nat.reduceEqDiff]
  refine ri h5 ?_
  refine eX7_book_25 ?_
  try simp only [am_put_nk, am_put_nf, am_put_i, not_false_eq_true, Nat.reduceEqDiff]
  refine iq h6 ?_
  refine ip (by decide) ?_
  refine ip h1 ?_
  refine ip h7 ?_
  refine ri h8 ?_
  refine eX7_book_88 ?_
  try simp only [am_put_nk, am_put_nf, am_put_i, not_false_eq_true, Nat.reduceEqDiff]
  refine ip h9 ?_
  all_goals rfl
theorem qX7_book_6 {x1 : Nat} {x2 : Int32} {M : am_M} {v1 : Int32} {v2 : Int32} {v3 : Int32} {v4 : Int32} {M5 : am_M} (h1 : (M 18 x1 1) = (-1)) (h2 : fX6_kindOf [.inr (6, x1), .inl (.int (0 + 1))] M = am_rI v1 M) (h3 : ¬ (v1 = (-1))) (h4 : fX6_ageOf [.inr (6, x1), .inl (.int (0 + 1))] M = am_rI v2 M) (h5 : fX7_isFree [.inr (7, 0), .inl (.int v2)] M = am_rI v3 M) (h6 : ¬ (v3 = 0)) (h7 : (M 18 x1 4) = (-1)) (h8 : fX7_hasForbiddenSuccession [.inr (7, 0)] M = am_rI v4 M) (h9 : ¬ (v4 = 0)) (h10 : fX7_cancel [.inr (7, 0), .inl (.int x2)] M = am_rV M5) : fX7_book [.inr (7, 0), .inr (6, x1), .inl (.int x2)] M = am_rI 0 M5 := by
  rw [eX7_book]
  refine eX7_book_0 ?_
  try simp only [am_put_nk, am_put_nf, am_put_i, not_false_eq_true, Nat.reduceEqDiff]
  refine eX7_book_12 ?_
  try simp only [am_put_nk, am_put_nf, am_put_i, not_false_eq_true, Nat.reduceEqDiff]
  refine ip h1 ?_
  refine iq (by decide) ?_
  refine ri h2 ?_
  refine eX7_book_12 ?_
  try simp only [am_put_nk, am_put_nf, am_put_i, not_false_eq_true, Nat.reduceEqDiff]
  refine iq h3 ?_
  refine ri h4 ?_
  refine eX7_book_22 ?_
  try simp only [am_put_nk, am_put_nf, am_put_i, not_false_eq_true, Nat.reduceEqDiff]
  refine ri h5 ?_
  refine eX7_book_25 ?_
  try simp only [am_put_nk, am_put_nf, am_put_i, not_false_eq_true, Nat.reduceEqDiff]
  refine iq h6 ?_
  refine ip (by decide) ?_
  refine ip h1 ?_
  refine ip h7 ?_
  refine ri h8 ?_
  refine eX7_book_88 ?_
  try simp only [am_put_nk, am_put_nf, am_put_i, not_false_eq_true, Nat.reduceEqDiff]
  refine iq h9 ?_
  refine rv h10 ?_
  refine eX7_book_96 ?_
  try simp only [am_put_nk, am_put_nf, am_put_i, not_false_eq_true, Nat.reduceEqDiff]
  all_goals rfl
theorem qX7_book_7 {x1 : Nat} {x2 : Int32} {M : am_M} {v1 : Int32} {v2 : Int32} {v3 : Int32} {j1 : Nat} {v5 : Int32} (h1 : (M 18 x1 1) = (-1)) (h2 : fX6_kindOf [.inr (6, x1), .inl (.int (0 + 1))] M = am_rI v1 M) (h3 : ¬ (v1 = (-1))) (h4 : fX6_ageOf [.inr (6, x1), .inl (.int (0 + 1))] M = am_rI v2 M) (h5 : fX7_isFree [.inr (7, 0), .inl (.int v2)] M = am_rI v3 M) (h6 : ¬ (v3 = 0)) (h7 : ¬ ((M 18 x1 4) = (-1))) (h8 : j1 < 13) (h9 : (M 18 x1 6) = i3 j1) (h10 : fX7_hasForbiddenSuccession [.inr (7, 0)] (am_put (am_put M 19 0 j1 (M 18 x1 4)) 20 0 j1 x2) = am_rI v5 (am_put (am_put M 19 0 j1 (M 18 x1 4)) 20 0 j1 x2)) (h11 : v5 = 0) : fX7_book [.inr (7, 0), .inr (6, x1), .inl (.int x2)] M = am_rI 1 (am_put (am_put M 19 0 j1 (M 18 x1 4)) 20 0 j1 x2) := by
  rw [eX7_book]
  refine eX7_book_0 ?_
  try simp only [am_put_nk, am_put_nf, am_put_i, not_false_eq_true, Nat.reduceEqDiff]
  refine eX7_book_12 ?_
  try simp only [am_put_nk, am_put_nf, am_put_i, not_false_eq_true, Nat.reduceEqDiff]
  refine ip h1 ?_
  refine iq (by decide) ?_
  refine ri h2 ?_
  refine eX7_book_12 ?_
  try simp only [am_put_nk, am_put_nf, am_put_i, not_false_eq_true, Nat.reduceEqDiff]
  refine iq h3 ?_
  refine ri h4 ?_
  refine eX7_book_22 ?_
  try simp only [am_put_nk, am_put_nf, am_put_i, not_false_eq_true, Nat.reduceEqDiff]
  refine ri h5 ?_
  refine eX7_book_25 ?_
  try simp only [am_put_nk, am_put_nf, am_put_i, not_false_eq_true, Nat.reduceEqDiff]
  refine iq h6 ?_
  refine ip (by decide) ?_
  refine ip h1 ?_
  refine iq h7 ?_
  refine ip (ixi h9 h8 (by decide)) ?_
  try rw [ixn h9 h8 (by decide)]
  refine ip (ixi h9 h8 (by decide)) ?_
  try rw [ixn h9 h8 (by decide)]
  refine ri h10 ?_
  refine eX7_book_88 ?_
  try simp only [am_put_nk, am_put_nf, am_put_i, not_false_eq_true, Nat.reduceEqDiff]
  refine ip h11 ?_
  all_goals rfl
theorem qX7_book_8 {x1 : Nat} {x2 : Int32} {M : am_M} {v1 : Int32} {v2 : Int32} {v3 : Int32} {j1 : Nat} {v5 : Int32} {M6 : am_M} (h1 : (M 18 x1 1) = (-1)) (h2 : fX6_kindOf [.inr (6, x1), .inl (.int (0 + 1))] M = am_rI v1 M) (h3 : ¬ (v1 = (-1))) (h4 : fX6_ageOf [.inr (6, x1), .inl (.int (0 + 1))] M = am_rI v2 M) (h5 : fX7_isFree [.inr (7, 0), .inl (.int v2)] M = am_rI v3 M) (h6 : ¬ (v3 = 0)) (h7 : ¬ ((M 18 x1 4) = (-1))) (h8 : j1 < 13) (h9 : (M 18 x1 6) = i3 j1) (h10 : fX7_hasForbiddenSuccession [.inr (7, 0)] (am_put (am_put M 19 0 j1 (M 18 x1 4)) 20 0 j1 x2) = am_rI v5 (am_put (am_put M 19 0 j1 (M 18 x1 4)) 20 0 j1 x2)) (h11 : ¬ (v5 = 0)) (h12 : fX7_cancel [.inr (7, 0), .inl (.int x2)] (am_put (am_put M 19 0 j1 (M 18 x1 4)) 20 0 j1 x2) = am_rV M6) : fX7_book [.inr (7, 0), .inr (6, x1), .inl (.int x2)] M = am_rI 0 M6 := by
  rw [eX7_book]
  refine eX7_book_0 ?_
  try simp only [am_put_nk, am_put_nf, am_put_i, not_false_eq_true, Nat.reduceEqDiff]
  refine eX7_book_12 ?_
  try simp only [am_put_nk, am_put_nf, am_put_i, not_false_eq_true, Nat.reduceEqDiff]
  refine ip h1 ?_
  refine iq (by decide) ?_
  refine ri h2 ?_
  refine eX7_book_12 ?_
  try simp only [am_put_nk, am_put_nf, am_put_i, not_false_eq_true, Nat.reduceEqDiff]
  refine iq h3 ?_
  refine ri h4 ?_
  refine eX7_book_22 ?_
  try simp only [am_put_nk, am_put_nf, am_put_i, not_false_eq_true, Nat.reduceEqDiff]
  refine ri h5 ?_
  refine eX7_book_25 ?_
  try simp only [am_put_nk, am_put_nf, am_put_i, not_false_eq_true, Nat.reduceEqDiff]
  refine iq h6 ?_
  refine ip (by decide) ?_
  refine ip h1 ?_
  refine iq h7 ?_
  refine ip (ixi h9 h8 (by decide)) ?_
  try rw [ixn h9 h8 (by decide)]
  refine ip (ixi h9 h8 (by decide)) ?_
  try rw [ixn h9 h8 (by decide)]
  refine ri h10 ?_
  refine eX7_book_88 ?_
  try simp only [am_put_nk, am_put_nf, am_put_i, not_false_eq_true, Nat.reduceEqDiff]
  refine iq h11 ?_
  refine rv h12 ?_
  refine eX7_book_96 ?_
  try simp only [am_put_nk, am_put_nf, am_put_i, not_false_eq_true, Nat.reduceEqDiff]
  all_goals rfl
theorem qX7_book_9 {x1 : Nat} {x2 : Int32} {M : am_M} {v1 : Int32} {v2 : Int32} (h1 : ¬ ((M 18 x1 1) = (-1))) (h2 : fX6_ageOf [.inr (6, x1), .inl (.int 0)] M = am_rI v1 M) (h3 : fX7_isFree [.inr (7, 0), .inl (.int v1)] M = am_rI v2 M) (h4 : v2 = 0) : fX7_book [.inr (7, 0), .inr (6, x1), .inl (.int x2)] M = am_rI 0 M := by
  rw [eX7_book]
  refine eX7_book_0 ?_
  try simp only [am_put_nk, am_put_nf, am_put_i, not_false_eq_true, Nat.reduceEqDiff]
  refine eX7_book_12 ?_
  try simp only [am_put_nk, am_put_nf, am_put_i, not_false_eq_true, Nat.reduceEqDiff]
  refine iq h1 ?_
  refine ri h2 ?_
  refine eX7_book_22 ?_
  try simp only [am_put_nk, am_put_nf, am_put_i, not_false_eq_true, Nat.reduceEqDiff]
  refine ri h3 ?_
  refine eX7_book_25 ?_
  try simp only [am_put_nk, am_put_nf, am_put_i, not_false_eq_true, Nat.reduceEqDiff]
  refine ip h4 ?_
  all_goals rfl
theorem qX7_book_10 {x1 : Nat} {x2 : Int32} {M : am_M} {v1 : Int32} {v2 : Int32} {v3 : Int32} {j2 : Nat} {v5 : Int32} (h1 : ¬ ((M 18 x1 1) = (-1))) (h2 : fX6_ageOf [.inr (6, x1), .inl (.int 0)] M = am_rI v1 M) (h3 : fX7_isFree [.inr (7, 0), .inl (.int v1)] M = am_rI v2 M) (h4 : ¬ (v2 = 0)) (h5 : fX6_kindOf [.inr (6, x1), .inl (.int (0 + 1))] M = am_rI v3 M) (h6 : v3 = (-1)) (h7 : j2 < 13) (h8 : (M 18 x1 3) = i3 j2) (h9 : (M 18 x1 4) = (-1)) (h10 : fX7_hasForbiddenSuccession [.inr (7, 0)] (am_put (am_put M 19 0 j2 (M 18 x1 1)) 20 0 j2 x2) = am_rI v5 (am_put (am_put M 19 0 j2 (M 18 x1 1)) 20 0 j2 x2)) (h11 : v5 = 0) : fX7_book [.inr (7, 0), .inr (6, x1), .inl (.int x2)] M = am_rI 1 (am_put (am_put M 19 0 j2 (M 18 x1 1)) 20 0 j2 x2) := by
  rw [eX7_book]
  refine eX7_book_0 ?_
  try simp only [am_put_nk, am_put_nf, am_put_i, not_false_eq_true, Nat.reduceEqDiff]
  refine eX7_book_12 ?_
  try simp only [am_put_nk, am_put_nf, am_put_i, not_false_eq_true, Nat.reduceEqDiff]
  refine iq h1 ?_
  refine ri h2 ?_
  refine eX7_book_22 ?_
  try simp only [am_put_nk, am_put_nf, am_put_i, not_false_eq_true, Nat.reduceEqDiff]
  refine ri h3 ?_
  refine eX7_book_25 ?_
  try simp only [am_put_nk, am_put_nf, am_put_i, not_false_eq_true, Nat.reduceEqDiff]
  refine iq h4 ?_
  refine iq (by decide) ?_
  refine ri h5 ?_
  refine eX7_book_12 ?_
  try simp only [am_put_nk, am_put_nf, am_put_i, not_false_eq_true, Nat.reduceEqDiff]
  refine ip h6 ?_
  refine ip (by decide) ?_
  refine iq h1 ?_
  refine ip (ixi h8 h7 (by decide)) ?_
  try rw [ixn h8 h7 (by decide)]
  refine ip (ixi h8 h7 (by decide)) ?_
  try rw [ixn h8 h7 (by decide)]
  refine ip h9 ?_
  refine ri h10 ?_
  refine eX7_book_88 ?_
  try simp only [am_put_nk, am_put_nf, am_put_i, not_false_eq_true, Nat.reduceEqDiff]
  refine ip h11 ?_
  all_goals rfl
theorem qX7_book_11 {x1 : Nat} {x2 : Int32} {M : am_M} {v1 : Int32} {v2 : Int32} {v3 : Int32} {j2 : Nat} {v5 : Int32} {M6 : am_M} (h1 : ¬ ((M 18 x1 1) = (-1))) (h2 : fX6_ageOf [.inr (6, x1), .inl (.int 0)] M = am_rI v1 M) (h3 : fX7_isFree [.inr (7, 0), .inl (.int v1)] M = am_rI v2 M) (h4 : ¬ (v2 = 0)) (h5 : fX6_kindOf [.inr (6, x1), .inl (.int (0 + 1))] M = am_rI v3 M) (h6 : v3 = (-1)) (h7 : j2 < 13) (h8 : (M 18 x1 3) = i3 j2) (h9 : (M 18 x1 4) = (-1)) (h10 : fX7_hasForbiddenSuccession [.inr (7, 0)] (am_put (am_put M 19 0 j2 (M 18 x1 1)) 20 0 j2 x2) = am_rI v5 (am_put (am_put M 19 0 j2 (M 18 x1 1)) 20 0 j2 x2)) (h11 : ¬ (v5 = 0)) (h12 : fX7_cancel [.inr (7, 0), .inl (.int x2)] (am_put (am_put M 19 0 j2 (M 18 x1 1)) 20 0 j2 x2) = am_rV M6) : fX7_book [.inr (7, 0), .inr (6, x1), .inl (.int x2)] M = am_rI 0 M6 := by
  rw [eX7_book]
  refine eX7_book_0 ?_
  try simp only [am_put_nk, am_put_nf, am_put_i, not_false_eq_true, Nat.reduceEqDiff]
  refine eX7_book_12 ?_
  try simp only [am_put_nk, am_put_nf, am_put_i, not_false_eq_true, Nat.reduceEqDiff]
  refine iq h1 ?_
  refine ri h2 ?_
  refine eX7_book_22 ?_
  try simp only [am_put_nk, am_put_nf, am_put_i, not_false_eq_true, Nat.reduceEqDiff]
  refine ri h3 ?_
  refine eX7_book_25 ?_
  try simp only [am_put_nk, am_put_nf, am_put_i, not_false_eq_true, Nat.reduceEqDiff]
  refine iq h4 ?_
  refine iq (by decide) ?_
  refine ri h5 ?_
  refine eX7_book_12 ?_
  try simp only [am_put_nk, am_put_nf, am_put_i, not_false_eq_true, Nat.reduceEqDiff]
  refine ip h6 ?_
  refine ip (by decide) ?_
  refine iq h1 ?_
  refine ip (ixi h8 h7 (by decide)) ?_
  try rw [ixn h8 h7 (by decide)]
  refine ip (ixi h8 h7 (by decide)) ?_
  try rw [ixn h8 h7 (by decide)]
  refine ip h9 ?_
  refine ri h10 ?_
  refine eX7_book_88 ?_
  try simp only [am_put_nk, am_put_nf, am_put_i, not_false_eq_true, Nat.reduceEqDiff]
  refine iq h11 ?_
  refine rv h12 ?_
  refine eX7_book_96 ?_
  try simp only [am_put_nk, am_put_nf, am_put_i, not_false_eq_true, Nat.reduceEqDiff]
  all_goals rfl
theorem qX7_book_12 {x1 : Nat} {x2 : Int32} {M : am_M} {v1 : Int32} {v2 : Int32} {v3 : Int32} {j2 : Nat} {j1 : Nat} {v6 : Int32} (h1 : ¬ ((M 18 x1 1) = (-1))) (h2 : fX6_ageOf [.inr (6, x1), .inl (.int 0)] M = am_rI v1 M) (h3 : fX7_isFree [.inr (7, 0), .inl (.int v1)] M = am_rI v2 M) (h4 : ¬ (v2 = 0)) (h5 : fX6_kindOf [.inr (6, x1), .inl (.int (0 + 1))] M = am_rI v3 M) (h6 : v3 = (-1)) (h7 : j2 < 13) (h8 : (M 18 x1 3) = i3 j2) (h9 : ¬ ((M 18 x1 4) = (-1))) (h10 : j1 < 13) (h11 : (M 18 x1 6) = i3 j1) (h12 : fX7_hasForbiddenSuccession [.inr (7, 0)] (am_put (am_put (am_put (am_put M 19 0 j2 (M 18 x1 1)) 20 0 j2 x2) 19 0 j1 (M 18 x1 4)) 20 0 j1 x2) = am_rI v6 (am_put (am_put (am_put (am_put M 19 0 j2 (M 18 x1 1)) 20 0 j2 x2) 19 0 j1 (M 18 x1 4)) 20 0 j1 x2)) (h13 : v6 = 0) : fX7_book [.inr (7, 0), .inr (6, x1), .inl (.int x2)] M = am_rI 1 (am_put (am_put (am_put (am_put M 19 0 j2 (M 18 x1 1)) 20 0 j2 x2) 19 0 j1 (M 18 x1 4)) 20 0 j1 x2) := by
  rw [eX7_book]
  refine eX7_book_0 ?_
  try simp only [am_put_nk, am_put_nf, am_put_i, not_false_eq_true, Nat.reduceEqDiff]
  refine eX7_book_12 ?_
  try simp only [am_put_nk, am_put_nf, am_put_i, not_false_eq_true, Nat.reduceEqDiff]
  refine iq h1 ?_
  refine ri h2 ?_
  refine eX7_book_22 ?_
  try simp only [am_put_nk, am_put_nf, am_put_i, not_false_eq_true, Nat.reduceEqDiff]
  refine ri h3 ?_
  refine eX7_book_25 ?_
  try simp only [am_put_nk, am_put_nf, am_put_i, not_false_eq_true, Nat.reduceEqDiff]
  refine iq h4 ?_
  refine iq (by decide) ?_
  refine ri h5 ?_
  refine eX7_book_12 ?_
  try simp only [am_put_nk, am_put_nf, am_put_i, not_false_eq_true, Nat.reduceEqDiff]
  refine ip h6 ?_
  refine ip (by decide) ?_
  refine iq h1 ?_
  refine ip (ixi h8 h7 (by decide)) ?_
  try rw [ixn h8 h7 (by decide)]
  refine ip (ixi h8 h7 (by decide)) ?_
  try rw [ixn h8 h7 (by decide)]
  refine iq h9 ?_
  refine ip (ixi h11 h10 (by decide)) ?_
  try rw [ixn h11 h10 (by decide)]
  refine ip (ixi h11 h10 (by decide)) ?_
  try rw [ixn h11 h10 (by decide)]
  refine ri h12 ?_
  refine eX7_book_88 ?_
  try simp only [am_put_nk, am_put_nf, am_put_i, not_false_eq_true, Nat.reduceEqDiff]
  refine ip h13 ?_
  all_goals rfl
theorem qX7_book_13 {x1 : Nat} {x2 : Int32} {M : am_M} {v1 : Int32} {v2 : Int32} {v3 : Int32} {j2 : Nat} {j1 : Nat} {v6 : Int32} {M7 : am_M} (h1 : ¬ ((M 18 x1 1) = (-1))) (h2 : fX6_ageOf [.inr (6, x1), .inl (.int 0)] M = am_rI v1 M) (h3 : fX7_isFree [.inr (7, 0), .inl (.int v1)] M = am_rI v2 M) (h4 : ¬ (v2 = 0)) (h5 : fX6_kindOf [.inr (6, x1), .inl (.int (0 + 1))] M = am_rI v3 M) (h6 : v3 = (-1)) (h7 : j2 < 13) (h8 : (M 18 x1 3) = i3 j2) (h9 : ¬ ((M 18 x1 4) = (-1))) (h10 : j1 < 13) (h11 : (M 18 x1 6) = i3 j1) (h12 : fX7_hasForbiddenSuccession [.inr (7, 0)] (am_put (am_put (am_put (am_put M 19 0 j2 (M 18 x1 1)) 20 0 j2 x2) 19 0 j1 (M 18 x1 4)) 20 0 j1 x2) = am_rI v6 (am_put (am_put (am_put (am_put M 19 0 j2 (M 18 x1 1)) 20 0 j2 x2) 19 0 j1 (M 18 x1 4)) 20 0 j1 x2)) (h13 : ¬ (v6 = 0)) (h14 : fX7_cancel [.inr (7, 0), .inl (.int x2)] (am_put (am_put (am_put (am_put M 19 0 j2 (M 18 x1 1)) 20 0 j2 x2) 19 0 j1 (M 18 x1 4)) 20 0 j1 x2) = am_rV M7) : fX7_book [.inr (7, 0), .inr (6, x1), .inl (.int x2)] M = am_rI 0 M7 := by
  rw [eX7_book]
  refine eX7_book_0 ?_
  try simp only [am_put_nk, am_put_nf, am_put_i, not_false_eq_true, Nat.reduceEqDiff]
  refine eX7_book_12 ?_
  try simp only [am_put_nk, am_put_nf, am_put_i, not_false_eq_true, Nat.reduceEqDiff]
  refine iq h1 ?_
  refine ri h2 ?_
  refine eX7_book_22 ?_
  try simp only [am_put_nk, am_put_nf, am_put_i, not_false_eq_true, Nat.reduceEqDiff]
  refine ri h3 ?_
  refine eX7_book_25 ?_
  try simp only [am_put_nk, am_put_nf, am_put_i, not_false_eq_true, Nat.reduceEqDiff]
  refine iq h4 ?_
  refine iq (by decide) ?_
  refine ri h5 ?_
  refine eX7_book_12 ?_
  try simp only [am_put_nk, am_put_nf, am_put_i, not_false_eq_true, Nat.reduceEqDiff]
  refine ip h6 ?_
  refine ip (by decide) ?_
  refine iq h1 ?_
  refine ip (ixi h8 h7 (by decide)) ?_
  try rw [ixn h8 h7 (by decide)]
  refine ip (ixi h8 h7 (by decide)) ?_
  try rw [ixn h8 h7 (by decide)]
  refine iq h9 ?_
  refine ip (ixi h11 h10 (by decide)) ?_
  try rw [ixn h11 h10 (by decide)]
  refine ip (ixi h11 h10 (by decide)) ?_
  try rw [ixn h11 h10 (by decide)]
  refine ri h12 ?_
  refine eX7_book_88 ?_
  try simp only [am_put_nk, am_put_nf, am_put_i, not_false_eq_true, Nat.reduceEqDiff]
  refine iq h13 ?_
  refine rv h14 ?_
  refine eX7_book_96 ?_
  try simp only [am_put_nk, am_put_nf, am_put_i, not_false_eq_true, Nat.reduceEqDiff]
  all_goals rfl
theorem qX7_book_14 {x1 : Nat} {x2 : Int32} {M : am_M} {v1 : Int32} {v2 : Int32} {v3 : Int32} {v4 : Int32} {v5 : Int32} (h1 : ¬ ((M 18 x1 1) = (-1))) (h2 : fX6_ageOf [.inr (6, x1), .inl (.int 0)] M = am_rI v1 M) (h3 : fX7_isFree [.inr (7, 0), .inl (.int v1)] M = am_rI v2 M) (h4 : ¬ (v2 = 0)) (h5 : fX6_kindOf [.inr (6, x1), .inl (.int (0 + 1))] M = am_rI v3 M) (h6 : ¬ (v3 = (-1))) (h7 : fX6_ageOf [.inr (6, x1), .inl (.int (0 + 1))] M = am_rI v4 M) (h8 : fX7_isFree [.inr (7, 0), .inl (.int v4)] M = am_rI v5 M) (h9 : v5 = 0) : fX7_book [.inr (7, 0), .inr (6, x1), .inl (.int x2)] M = am_rI 0 M := by
  rw [eX7_book]
  refine eX7_book_0 ?_
  try simp only [am_put_nk, am_put_nf, am_put_i, not_false_eq_true, Nat.reduceEqDiff]
  refine eX7_book_12 ?_
  try simp only [am_put_nk, am_put_nf, am_put_i, not_false_eq_true, Nat.reduceEqDiff]
  refine iq h1 ?_
  refine ri h2 ?_
  refine eX7_book_22 ?_
  try simp only [am_put_nk, am_put_nf, am_put_i, not_false_eq_true, Nat.reduceEqDiff]
  refine ri h3 ?_
  refine eX7_book_25 ?_
  try simp only [am_put_nk, am_put_nf, am_put_i, not_false_eq_true, Nat.reduceEqDiff]
  refine iq h4 ?_
  refine iq (by decide) ?_
  refine ri h5 ?_
  refine eX7_book_12 ?_
  try simp only [am_put_nk, am_put_nf, am_put_i, not_false_eq_true, Nat.reduceEqDiff]
  refine iq h6 ?_
  refine ri h7 ?_
  refine eX7_book_22 ?_
  try simp only [am_put_nk, am_put_nf, am_put_i, not_false_eq_true, Nat.reduceEqDiff]
  refine ri h8 ?_
  refine eX7_book_25 ?_
  try simp only [am_put_nk, am_put_nf, am_put_i, not_false_eq_true, Nat.reduceEqDiff]
  refine ip h9 ?_
  all_goals rfl
theorem qX7_book_15 {x1 : Nat} {x2 : Int32} {M : am_M} {v1 : Int32} {v2 : Int32} {v3 : Int32} {v4 : Int32} {v5 : Int32} {j2 : Nat} {v7 : Int32} (h1 : ¬ ((M 18 x1 1) = (-1))) (h2 : fX6_ageOf [.inr (6, x1), .inl (.int 0)] M = am_rI v1 M) (h3 : fX7_isFree [.inr (7, 0), .inl (.int v1)] M = am_rI v2 M) (h4 : ¬ (v2 = 0)) (h5 : fX6_kindOf [.inr (6, x1), .inl (.int (0 + 1))] M = am_rI v3 M) (h6 : ¬ (v3 = (-1))) (h7 : fX6_ageOf [.inr (6, x1), .inl (.int (0 + 1))] M = am_rI v4 M) (h8 : fX7_isFree [.inr (7, 0), .inl (.int v4)] M = am_rI v5 M) (h9 : ¬ (v5 = 0)) (h10 : j2 < 13) (h11 : (M 18 x1 3) = i3 j2) (h12 : (M 18 x1 4) = (-1)) (h13 : fX7_hasForbiddenSuccession [.inr (7, 0)] (am_put (am_put M 19 0 j2 (M 18 x1 1)) 20 0 j2 x2) = am_rI v7 (am_put (am_put M 19 0 j2 (M 18 x1 1)) 20 0 j2 x2)) (h14 : v7 = 0) : fX7_book [.inr (7, 0), .inr (6, x1), .inl (.int x2)] M = am_rI 1 (am_put (am_put M 19 0 j2 (M 18 x1 1)) 20 0 j2 x2) := by
  rw [eX7_book]
  refine eX7_book_0 ?_
  try simp only [am_put_nk, am_put_nf, am_put_i, not_false_eq_true, Nat.reduceEqDiff]
  refine eX7_book_12 ?_
  try simp only [am_put_nk, am_put_nf, am_put_i, not_false_eq_true, Nat.reduceEqDiff]
  refine iq h1 ?_
  refine ri h2 ?_
  refine eX7_book_22 ?_
  try simp only [am_put_nk, am_put_nf, am_put_i, not_false_eq_true, Nat.reduceEqDiff]
  refine ri h3 ?_
  refine eX7_book_25 ?_
  try simp only [am_put_nk, am_put_nf, am_put_i, not_false_eq_true, Nat.reduceEqDiff]
  refine iq h4 ?_
  refine iq (by decide) ?_
  refine ri h5 ?_
  refine eX7_book_12 ?_
  try simp only [am_put_nk, am_put_nf, am_put_i, not_false_eq_true, Nat.reduceEqDiff]
  refine iq h6 ?_
  refine ri h7 ?_
  refine eX7_book_22 ?_
  try simp only [am_put_nk, am_put_nf, am_put_i, not_false_eq_true, Nat.reduceEqDiff]
  refine ri h8 ?_
  refine eX7_book_25 ?_
  try simp only [am_put_nk, am_put_nf, am_put_i, not_false_eq_true, Nat.reduceEqDiff]
  refine iq h9 ?_
  refine ip (by decide) ?_
  refine iq h1 ?_
  refine ip (ixi h11 h10 (by decide)) ?_
  try rw [ixn h11 h10 (by decide)]
  refine ip (ixi h11 h10 (by decide)) ?_
  try rw [ixn h11 h10 (by decide)]
  refine ip h12 ?_
  refine ri h13 ?_
  refine eX7_book_88 ?_
  try simp only [am_put_nk, am_put_nf, am_put_i, not_false_eq_true, Nat.reduceEqDiff]
  refine ip h14 ?_
  all_goals rfl
theorem qX7_book_16 {x1 : Nat} {x2 : Int32} {M : am_M} {v1 : Int32} {v2 : Int32} {v3 : Int32} {v4 : Int32} {v5 : Int32} {j2 : Nat} {v7 : Int32} {M8 : am_M} (h1 : ¬ ((M 18 x1 1) = (-1))) (h2 : fX6_ageOf [.inr (6, x1), .inl (.int 0)] M = am_rI v1 M) (h3 : fX7_isFree [.inr (7, 0), .inl (.int v1)] M = am_rI v2 M) (h4 : ¬ (v2 = 0)) (h5 : fX6_kindOf [.inr (6, x1), .inl (.int (0 + 1))] M = am_rI v3 M) (h6 : ¬ (v3 = (-1))) (h7 : fX6_ageOf [.inr (6, x1), .inl (.int (0 + 1))] M = am_rI v4 M) (h8 : fX7_isFree [.inr (7, 0), .inl (.int v4)] M = am_rI v5 M) (h9 : ¬ (v5 = 0)) (h10 : j2 < 13) (h11 : (M 18 x1 3) = i3 j2) (h12 : (M 18 x1 4) = (-1)) (h13 : fX7_hasForbiddenSuccession [.inr (7, 0)] (am_put (am_put M 19 0 j2 (M 18 x1 1)) 20 0 j2 x2) = am_rI v7 (am_put (am_put M 19 0 j2 (M 18 x1 1)) 20 0 j2 x2)) (h14 : ¬ (v7 = 0)) (h15 : fX7_cancel [.inr (7, 0), .inl (.int x2)] (am_put (am_put M 19 0 j2 (M 18 x1 1)) 20 0 j2 x2) = am_rV M8) : fX7_book [.inr (7, 0), .inr (6, x1), .inl (.int x2)] M = am_rI 0 M8 := by
  rw [eX7_book]
  refine eX7_book_0 ?_
  try simp only [am_put_nk, am_put_nf, am_put_i, not_false_eq_true, Nat.reduceEqDiff]
  refine eX7_book_12 ?_
  try simp only [am_put_nk, am_put_nf, am_put_i, not_false_eq_true, Nat.reduceEqDiff]
  refine iq h1 ?_
  refine ri h2 ?_
  refine eX7_book_22 ?_
  try simp only [am_put_nk, am_put_nf, am_put_i, not_false_eq_true, Nat.reduceEqDiff]
  refine ri h3 ?_
  refine eX7_book_25 ?_
  try simp only [am_put_nk, am_put_nf, am_put_i, not_false_eq_true, Nat.reduceEqDiff]
  refine iq h4 ?_
  refine iq (by decide) ?_
  refine ri h5 ?_
  refine eX7_book_12 ?_
  try simp only [am_put_nk, am_put_nf, am_put_i, not_false_eq_true, Nat.reduceEqDiff]
  refine iq h6 ?_
  refine ri h7 ?_
  refine eX7_book_22 ?_
  try simp only [am_put_nk, am_put_nf, am_put_i, not_false_eq_true, Nat.reduceEqDiff]
  refine ri h8 ?_
  refine eX7_book_25 ?_
  try simp only [am_put_nk, am_put_nf, am_put_i, not_false_eq_true, Nat.reduceEqDiff]
  refine iq h9 ?_
  refine ip (by decide) ?_
  refine iq h1 ?_
  refine ip (ixi h11 h10 (by decide)) ?_
  try rw [ixn h11 h10 (by decide)]
  refine ip (ixi h11 h10 (by decide)) ?_
  try rw [ixn h11 h10 (by decide)]
  refine ip h12 ?_
  refine ri h13 ?_
  refine eX7_book_88 ?_
  try simp only [am_put_nk, am_put_nf, am_put_i, not_false_eq_true, Nat.reduceEqDiff]
  refine iq h14 ?_
  refine rv h15 ?_
  refine eX7_book_96 ?_
  try simp only [am_put_nk, am_put_nf, am_put_i, not_false_eq_true, Nat.reduceEqDiff]
  all_goals rfl
theorem qX7_book_17 {x1 : Nat} {x2 : Int32} {M : am_M} {v1 : Int32} {v2 : Int32} {v3 : Int32} {v4 : Int32} {v5 : Int32} {j2 : Nat} {j1 : Nat} {v8 : Int32} (h1 : ¬ ((M 18 x1 1) = (-1))) (h2 : fX6_ageOf [.inr (6, x1), .inl (.int 0)] M = am_rI v1 M) (h3 : fX7_isFree [.inr (7, 0), .inl (.int v1)] M = am_rI v2 M) (h4 : ¬ (v2 = 0)) (h5 : fX6_kindOf [.inr (6, x1), .inl (.int (0 + 1))] M = am_rI v3 M) (h6 : ¬ (v3 = (-1))) (h7 : fX6_ageOf [.inr (6, x1), .inl (.int (0 + 1))] M = am_rI v4 M) (h8 : fX7_isFree [.inr (7, 0), .inl (.int v4)] M = am_rI v5 M) (h9 : ¬ (v5 = 0)) (h10 : j2 < 13) (h11 : (M 18 x1 3) = i3 j2) (h12 : ¬ ((M 18 x1 4) = (-1))) (h13 : j1 < 13) (h14 : (M 18 x1 6) = i3 j1) (h15 : fX7_hasForbiddenSuccession [.inr (7, 0)] (am_put (am_put (am_put (am_put M 19 0 j2 (M 18 x1 1)) 20 0 j2 x2) 19 0 j1 (M 18 x1 4)) 20 0 j1 x2) = am_rI v8 (am_put (am_put (am_put (am_put M 19 0 j2 (M 18 x1 1)) 20 0 j2 x2) 19 0 j1 (M 18 x1 4)) 20 0 j1 x2)) (h16 : v8 = 0) : fX7_book [.inr (7, 0), .inr (6, x1), .inl (.int x2)] M = am_rI 1 (am_put (am_put (am_put (am_put M 19 0 j2 (M 18 x1 1)) 20 0 j2 x2) 19 0 j1 (M 18 x1 4)) 20 0 j1 x2) := by
  rw [eX7_book]
  refine eX7_book_0 ?_
  try simp only [am_put_nk, am_put_nf, am_put_i, not_false_eq_true, Nat.reduceEqDiff]
  refine eX7_book_12 ?_
  try simp only [am_put_nk, am_put_nf, am_put_i, not_false_eq_true, Nat.reduceEqDiff]
  refine iq h1 ?_
  refine ri h2 ?_
  refine eX7_book_22 ?_
  try simp only [am_put_nk, am_put_nf, am_put_i, not_false_eq_true, Nat.reduceEqDiff]
  refine ri h3 ?_
  refine eX7_book_25 ?_
  try simp only [am_put_nk, am_put_nf, am_put_i, not_false_eq_true, Nat.reduceEqDiff]
  refine iq h4 ?_
  refine iq (by decide) ?_
  refine ri h5 ?_
  refine eX7_book_12 ?_
  try simp only [am_put_nk, am_put_nf, am_put_i, not_false_eq_true, Nat.reduceEqDiff]
  refine iq h6 ?_
  refine ri h7 ?_
  refine eX7_book_22 ?_
  try simp only [am_put_nk, am_put_nf, am_put_i, not_false_eq_true, Nat.reduceEqDiff]
  refine ri h8 ?_
  refine eX7_book_25 ?_
  try simp only [am_put_nk, am_put_nf, am_put_i, not_false_eq_true, Nat.reduceEqDiff]
  refine iq h9 ?_
  refine ip (by decide) ?_
  refine iq h1 ?_
  refine ip (ixi h11 h10 (by decide)) ?_
  try rw [ixn h11 h10 (by decide)]
  refine ip (ixi h11 h10 (by decide)) ?_
  try rw [ixn h11 h10 (by decide)]
  refine iq h12 ?_
  refine ip (ixi h14 h13 (by decide)) ?_
  try rw [ixn h14 h13 (by decide)]
  refine ip (ixi h14 h13 (by decide)) ?_
  try rw [ixn h14 h13 (by decide)]
  refine ri h15 ?_
  refine eX7_book_88 ?_
  try simp only [am_put_nk, am_put_nf, am_put_i, not_false_eq_true, Nat.reduceEqDiff]
  refine ip h16 ?_
  all_goals rfl
theorem qX7_book_18 {x1 : Nat} {x2 : Int32} {M : am_M} {v1 : Int32} {v2 : Int32} {v3 : Int32} {v4 : Int32} {v5 : Int32} {j2 : Nat} {j1 : Nat} {v8 : Int32} {M9 : am_M} (h1 : ¬ ((M 18 x1 1) = (-1))) (h2 : fX6_ageOf [.inr (6, x1), .inl (.int 0)] M = am_rI v1 M) (h3 : fX7_isFree [.inr (7, 0), .inl (.int v1)] M = am_rI v2 M) (h4 : ¬ (v2 = 0)) (h5 : fX6_kindOf [.inr (6, x1), .inl (.int (0 + 1))] M = am_rI v3 M) (h6 : ¬ (v3 = (-1))) (h7 : fX6_ageOf [.inr (6, x1), .inl (.int (0 + 1))] M = am_rI v4 M) (h8 : fX7_isFree [.inr (7, 0), .inl (.int v4)] M = am_rI v5 M) (h9 : ¬ (v5 = 0)) (h10 : j2 < 13) (h11 : (M 18 x1 3) = i3 j2) (h12 : ¬ ((M 18 x1 4) = (-1))) (h13 : j1 < 13) (h14 : (M 18 x1 6) = i3 j1) (h15 : fX7_hasForbiddenSuccession [.inr (7, 0)] (am_put (am_put (am_put (am_put M 19 0 j2 (M 18 x1 1)) 20 0 j2 x2) 19 0 j1 (M 18 x1 4)) 20 0 j1 x2) = am_rI v8 (am_put (am_put (am_put (am_put M 19 0 j2 (M 18 x1 1)) 20 0 j2 x2) 19 0 j1 (M 18 x1 4)) 20 0 j1 x2)) (h16 : ¬ (v8 = 0)) (h17 : fX7_cancel [.inr (7, 0), .inl (.int x2)] (am_put (am_put (am_put (am_put M 19 0 j2 (M 18 x1 1)) 20 0 j2 x2) 19 0 j1 (M 18 x1 4)) 20 0 j1 x2) = am_rV M9) : fX7_book [.inr (7, 0), .inr (6, x1), .inl (.int x2)] M = am_rI 0 M9 := by
  rw [eX7_book]
  refine eX7_book_0 ?_
  try simp only [am_put_nk, am_put_nf, am_put_i, not_false_eq_true, Nat.reduceEqDiff]
  refine eX7_book_12 ?_
  try simp only [am_put_nk, am_put_nf, am_put_i, not_false_eq_true, Nat.reduceEqDiff]
  refine iq h1 ?_
  refine ri h2 ?_
  refine eX7_book_22 ?_
  try simp only [am_put_nk, am_put_nf, am_put_i, not_false_eq_true, Nat.reduceEqDiff]
  refine ri h3 ?_
  refine eX7_book_25 ?_
  try simp only [am_put_nk, am_put_nf, am_put_i, not_false_eq_true, Nat.reduceEqDiff]
  refine iq h4 ?_
  refine iq (by decide) ?_
  refine ri h5 ?_
  refine eX7_book_12 ?_
  try simp only [am_put_nk, am_put_nf, am_put_i, not_false_eq_true, Nat.reduceEqDiff]
  refine iq h6 ?_
  refine ri h7 ?_
  refine eX7_book_22 ?_
  try simp only [am_put_nk, am_put_nf, am_put_i, not_false_eq_true, Nat.reduceEqDiff]
  refine ri h8 ?_
  refine eX7_book_25 ?_
  try simp only [am_put_nk, am_put_nf, am_put_i, not_false_eq_true, Nat.reduceEqDiff]
  refine iq h9 ?_
  refine ip (by decide) ?_
  refine iq h1 ?_
  refine ip (ixi h11 h10 (by decide)) ?_
  try rw [ixn h11 h10 (by decide)]
  refine ip (ixi h11 h10 (by decide)) ?_
  try rw [ixn h11 h10 (by decide)]
  refine iq h12 ?_
  refine ip (ixi h14 h13 (by decide)) ?_
  try rw [ixn h14 h13 (by decide)]
  refine ip (ixi h14 h13 (by decide)) ?_
  try rw [ixn h14 h13 (by decide)]
  refine ri h15 ?_
  refine eX7_book_88 ?_
  try simp only [am_put_nk, am_put_nf, am_put_i, not_false_eq_true, Nat.reduceEqDiff]
  refine iq h16 ?_
  refine rv h17 ?_
  refine eX7_book_96 ?_
  try simp only [am_put_nk, am_put_nf, am_put_i, not_false_eq_true, Nat.reduceEqDiff]
  all_goals rfl
theorem qX7_isFree_0 {x1 : Int32} {M : am_M} (h1 : ¬ (1 ≤ x1 ∧ x1 ≤ 12)) : fX7_isFree [.inr (7, 0), .inl (.int x1)] M = am_rI 0 M := by
  rw [eX7_isFree]
  refine eX7_isFree_0 ?_
  try simp only [am_put_nk, am_put_nf, am_put_i, not_false_eq_true, Nat.reduceEqDiff]
  refine ri (sX9_isWithin _ _ _ _) ?_
  refine eX7_isFree_7 ?_
  try simp only [am_put_nk, am_put_nf, am_put_i, not_false_eq_true, Nat.reduceEqDiff]
  refine ip (bi_f h1) ?_
  all_goals rfl
theorem qX7_isFree_1 {x1 : Int32} {M : am_M} {j1 : Nat} (h1 : 1 ≤ x1 ∧ x1 ≤ 12) (h2 : j1 < 13) (h3 : x1 = i3 j1) (h4 : (M 19 0 j1) = (-1)) : fX7_isFree [.inr (7, 0), .inl (.int x1)] M = am_rI 1 M := by
  rw [eX7_isFree]
  refine eX7_isFree_0 ?_
  try simp only [am_put_nk, am_put_nf, am_put_i, not_false_eq_true, Nat.reduceEqDiff]
  refine ri (sX9_isWithin _ _ _ _) ?_
  refine eX7_isFree_7 ?_
  try simp only [am_put_nk, am_put_nf, am_put_i, not_false_eq_true, Nat.reduceEqDiff]
  refine iq (fun e => bi_0.mp e h1) ?_
  refine ip (ixi h3 h2 (by decide)) ?_
  try rw [ixn h3 h2 (by decide)]
  refine ip h4 ?_
  all_goals rfl
theorem qX7_isFree_2 {x1 : Int32} {M : am_M} {j1 : Nat} (h1 : 1 ≤ x1 ∧ x1 ≤ 12) (h2 : j1 < 13) (h3 : x1 = i3 j1) (h4 : ¬ ((M 19 0 j1) = (-1))) : fX7_isFree [.inr (7, 0), .inl (.int x1)] M = am_rI 0 M := by
  rw [eX7_isFree]
  refine eX7_isFree_0 ?_
  try simp only [am_put_nk, am_put_nf, am_put_i, not_false_eq_true, Nat.reduceEqDiff]
  refine ri (sX9_isWithin _ _ _ _) ?_
  refine eX7_isFree_7 ?_
  try simp only [am_put_nk, am_put_nf, am_put_i, not_false_eq_true, Nat.reduceEqDiff]
  refine iq (fun e => bi_0.mp e h1) ?_
  refine ip (ixi h3 h2 (by decide)) ?_
  try rw [ixn h3 h2 (by decide)]
  refine iq h4 ?_
  all_goals rfl
theorem qX7_hasForbiddenSuccession_0 {M : am_M} {res : am_O × am_M} (k : rX7_hasForbiddenSuccession 99900 2 [.inr (7, 0), .inl (.int 1)] [] M = some res) : fX7_hasForbiddenSuccession [.inr (7, 0)] M = some res := by
  rw [eX7_hasForbiddenSuccession]
  refine eX7_hasForbiddenSuccession_0 ?_
  try simp only [am_put_nk, am_put_nf, am_put_i, not_false_eq_true, Nat.reduceEqDiff]
  exact k
theorem mX7_hasForbiddenSuccession {n m pc : Nat} {ls st : List am_V} {M : am_M} {res : am_O × am_M} (h : rX7_hasForbiddenSuccession n pc ls st M = some res) (hm : n ≤ m) : rX7_hasForbiddenSuccession m pc ls st M = some res := by
  have h2 := am_run_mono_add h (m - n)
  rw [show n + (m - n) = m by omega] at h2
  exact h2
theorem qX7_hasForbiddenSuccession_2_0 {x1 : Nat} {M : am_M} {n : Nat} (h1 : 12 < (i3 x1)) : rX7_hasForbiddenSuccession (n + 100) 2 [.inr (7, 0), .inl (.int (i3 x1))] [] M = am_rI 0 M := by
  refine eX7_hasForbiddenSuccession_2 ?_
  try simp only [am_put_nk, am_put_nf, am_put_i, not_false_eq_true, Nat.reduceEqDiff]
  refine ip h1 ?_
  all_goals rfl
theorem qX7_hasForbiddenSuccession_2_1 {x1 : Nat} {M : am_M} {n : Nat} {res : am_O × am_M} {j1 : Nat} (h1 : ¬ (12 < (i3 x1))) (h2 : j1 < 13) (h3 : ((i3 x1) - 1) = i3 j1) (h4 : (M 19 0 j1) = (-1)) (k : rX7_hasForbiddenSuccession n 2 [.inr (7, 0), .inl (.int (i3 (x1 + 1)))] [] M = some res) : rX7_hasForbiddenSuccession (n + 100) 2 [.inr (7, 0), .inl (.int (i3 x1))] [] M = some res := by
  refine eX7_hasForbiddenSuccession_2 ?_
  try simp only [am_put_nk, am_put_nf, am_put_i, not_false_eq_true, Nat.reduceEqDiff]
  refine iq h1 ?_
  refine ip (ixi h3 h2 (by decide)) ?_
  try rw [ixn h3 h2 (by decide)]
  refine ip h4 ?_
  rw [i3_one]
  exact k
theorem qX7_hasForbiddenSuccession_2_2 {x1 : Nat} {M : am_M} {n : Nat} {res : am_O × am_M} {j1 : Nat} (h1 : ¬ (12 < (i3 x1))) (h2 : j1 < 13) (h3 : ((i3 x1) - 1) = i3 j1) (h4 : ¬ ((M 19 0 j1) = (-1))) (h5 : x1 < 13) (h6 : (M 19 0 x1) = (-1)) (k : rX7_hasForbiddenSuccession n 2 [.inr (7, 0), .inl (.int (i3 (x1 + 1)))] [] M = some res) : rX7_hasForbiddenSuccession (n + 100) 2 [.inr (7, 0), .inl (.int (i3 x1))] [] M = some res := by
  refine eX7_hasForbiddenSuccession_2 ?_
  try simp only [am_put_nk, am_put_nf, am_put_i, not_false_eq_true, Nat.reduceEqDiff]
  refine iq h1 ?_
  refine ip (ixi h3 h2 (by decide)) ?_
  try rw [ixn h3 h2 (by decide)]
  refine iq h4 ?_
  refine ip (i3_in' h5 (by decide)) ?_
  try rw [ixm h5 (by decide)]
  refine ip h6 ?_
  rw [i3_one]
  exact k
theorem qX7_hasForbiddenSuccession_2_3 {x1 : Nat} {M : am_M} {n : Nat} {res : am_O × am_M} {j1 : Nat} {j2 : Nat} (h1 : ¬ (12 < (i3 x1))) (h2 : j1 < 13) (h3 : ((i3 x1) - 1) = i3 j1) (h4 : ¬ ((M 19 0 j1) = (-1))) (h5 : x1 < 13) (h6 : ¬ ((M 19 0 x1) = (-1))) (h7 : j2 < 36) (h8 : (((M 19 0 j1) * 6) + (M 19 0 x1)) = i3 j2) (h9 : (am_b (M 21 0 j2)) = 0) (k : rX7_hasForbiddenSuccession n 2 [.inr (7, 0), .inl (.int (i3 (x1 + 1)))] [] M = some res) : rX7_hasForbiddenSuccession (n + 100) 2 [.inr (7, 0), .inl (.int (i3 x1))] [] M = some res := by
  refine eX7_hasForbiddenSuccession_2 ?_
  try simp only [am_put_nk, am_put_nf, am_put_i, not_false_eq_true, Nat.reduceEqDiff]
  refine iq h1 ?_
  refine ip (ixi h3 h2 (by decide)) ?_
  try rw [ixn h3 h2 (by decide)]
  refine iq h4 ?_
  refine ip (i3_in' h5 (by decide)) ?_
  try rw [ixm h5 (by decide)]
  refine iq h6 ?_
  refine ip (ixi h3 h2 (by decide)) ?_
  try rw [ixn h3 h2 (by decide)]
  refine ip (i3_in' h5 (by decide)) ?_
  try rw [ixm h5 (by decide)]
  refine ip (ixi h8 h7 (by decide)) ?_
  try rw [ixn h8 h7 (by decide)]
  refine ip h9 ?_
  rw [i3_one]
  exact k
theorem qX7_hasForbiddenSuccession_2_4 {x1 : Nat} {M : am_M} {n : Nat} {j1 : Nat} {j2 : Nat} (h1 : ¬ (12 < (i3 x1))) (h2 : j1 < 13) (h3 : ((i3 x1) - 1) = i3 j1) (h4 : ¬ ((M 19 0 j1) = (-1))) (h5 : x1 < 13) (h6 : ¬ ((M 19 0 x1) = (-1))) (h7 : j2 < 36) (h8 : (((M 19 0 j1) * 6) + (M 19 0 x1)) = i3 j2) (h9 : ¬ ((am_b (M 21 0 j2)) = 0)) : rX7_hasForbiddenSuccession (n + 100) 2 [.inr (7, 0), .inl (.int (i3 x1))] [] M = am_rI 1 M := by
  refine eX7_hasForbiddenSuccession_2 ?_
  try simp only [am_put_nk, am_put_nf, am_put_i, not_false_eq_true, Nat.reduceEqDiff]
  refine iq h1 ?_
  refine ip (ixi h3 h2 (by decide)) ?_
  try rw [ixn h3 h2 (by decide)]
  refine iq h4 ?_
  refine ip (i3_in' h5 (by decide)) ?_
  try rw [ixm h5 (by decide)]
  refine iq h6 ?_
  refine ip (ixi h3 h2 (by decide)) ?_
  try rw [ixn h3 h2 (by decide)]
  refine ip (i3_in' h5 (by decide)) ?_
  try rw [ixm h5 (by decide)]
  refine ip (ixi h8 h7 (by decide)) ?_
  try rw [ixn h8 h7 (by decide)]
  refine iq h9 ?_
  all_goals rfl
theorem qX10_book_0 {x1 : Int32} {M : am_M} {j1 : Nat} {j3 : Nat} (h1 : j1 < 40) (h2 : x1 = i3 j1) (h3 : j3 < 4) (h4 : (M 46 0 j1) = i3 j3) (h5 : (M 30 0 (16 * j3 + 1)) < 0) (h6 : (M 30 0 (16 * j3 + 4)) < 0) : fX10_book [.inr (10, 0), .inl (.int x1)] M = am_rI 1 M := by
  rw [eX10_book]
  refine eX10_book_0 ?_
  try simp only [am_put_nk, am_put_nf, am_put_i, not_false_eq_true, Nat.reduceEqDiff]
  refine ip (ixi h2 h1 (by decide)) ?_
  try rw [ixn h2 h1 (by decide)]
  refine ri (sX10_of _ h4 h3 rfl (by decide)) ?_
  refine eX10_book_24 ?_
  try simp only [am_put_nk, am_put_nf, am_put_i, not_false_eq_true, Nat.reduceEqDiff]
  refine ip h5 ?_
  refine iq (by decide) ?_
  refine ri (sX10_of (f := 4) _ h4 h3 (by decide) (by decide)) ?_
  refine eX10_book_24a ?_
  try simp only [am_put_nk, am_put_nf, am_put_i, not_false_eq_true, Nat.reduceEqDiff]
  refine ip h6 ?_
  refine ip (by decide) ?_
  all_goals rfl
theorem qX10_book_1 {x1 : Int32} {M : am_M} {j1 : Nat} {j3 : Nat} {v3 : Int32} {j9 : Nat} (h1 : j1 < 40) (h2 : x1 = i3 j1) (h3 : j3 < 4) (h4 : (M 46 0 j1) = i3 j3) (h5 : (M 30 0 (16 * j3 + 1)) < 0) (h6 : ¬ ((M 30 0 (16 * j3 + 4)) < 0)) (h7 : fX10_placeFor [.inr (10, 0), .inl (.int (M 30 0 (16 * j3 + 4))), .inl (.int (M 30 0 (16 * j3 + 5)))] M = am_rI v3 M) (h8 : 0 ≤ v3) (h9 : j9 < 24) (h10 : (M 10 0 36) = i3 j9) : fX10_book [.inr (10, 0), .inl (.int x1)] M = am_rI 1 (am_put (am_put (am_put (am_put (am_put (am_put M 61 0 j9 ((M 10 0 42) + (M 30 0 (16 * j3 + 6)))) 62 0 j9 (M 30 0 (16 * j3 + 4))) 63 0 j9 v3) 64 0 j9 (M 30 0 (16 * j3 + 5))) 65 0 j9 x1) 10 0 36 ((M 10 0 36) + 1)) := by
  rw [eX10_book]
  refine eX10_book_0 ?_
  try simp only [am_put_nk, am_put_nf, am_put_i, not_false_eq_true, Nat.reduceEqDiff]
  refine ip (ixi h2 h1 (by decide)) ?_
  try rw [ixn h2 h1 (by decide)]
  refine ri (sX10_of _ h4 h3 rfl (by decide)) ?_
  refine eX10_book_24 ?_
  try simp only [am_put_nk, am_put_nf, am_put_i, not_false_eq_true, Nat.reduceEqDiff]
  refine ip h5 ?_
  refine iq (by decide) ?_
  refine ri (sX10_of (f := 4) _ h4 h3 (by decide) (by decide)) ?_
  refine eX10_book_24a ?_
  try simp only [am_put_nk, am_put_nf, am_put_i, not_false_eq_true, Nat.reduceEqDiff]
  refine iq h6 ?_
  refine ri (sX10_of (f := 5) _ h4 h3 (by decide) (by decide)) ?_
  refine eX10_book_44 ?_
  try simp only [am_put_nk, am_put_nf, am_put_i, not_false_eq_true, Nat.reduceEqDiff]
  refine ri h7 ?_
  refine eX10_book_47 ?_
  try simp only [am_put_nk, am_put_nf, am_put_i, not_false_eq_true, Nat.reduceEqDiff]
  refine ip h8 ?_
  refine ri (sX10_of (f := 6) _ h4 h3 (by decide) (by decide)) ?_
  refine eX10_book_78 ?_
  try simp only [am_put_nk, am_put_nf, am_put_i, not_false_eq_true, Nat.reduceEqDiff]
  refine ip (ixi h10 h9 (by decide)) ?_
  try rw [ixn h10 h9 (by decide)]
  refine ip (ixi h10 h9 (by decide)) ?_
  try rw [ixn h10 h9 (by decide)]
  refine ip (ixi h10 h9 (by decide)) ?_
  try rw [ixn h10 h9 (by decide)]
  refine ri (sX10_of (f := 5) _ h4 h3 (by decide) (by decide)) ?_
  refine eX10_book_120 ?_
  try simp only [am_put_nk, am_put_nf, am_put_i, not_false_eq_true, Nat.reduceEqDiff]
  refine ip (ixi h10 h9 (by decide)) ?_
  try rw [ixn h10 h9 (by decide)]
  refine ip (ixi h10 h9 (by decide)) ?_
  try rw [ixn h10 h9 (by decide)]
  refine ip (by decide) ?_
  all_goals rfl
theorem qX10_book_2 {x1 : Int32} {M : am_M} {j1 : Nat} {j3 : Nat} {v3 : Int32} (h1 : j1 < 40) (h2 : x1 = i3 j1) (h3 : j3 < 4) (h4 : (M 46 0 j1) = i3 j3) (h5 : (M 30 0 (16 * j3 + 1)) < 0) (h6 : ¬ ((M 30 0 (16 * j3 + 4)) < 0)) (h7 : fX10_placeFor [.inr (10, 0), .inl (.int (M 30 0 (16 * j3 + 4))), .inl (.int (M 30 0 (16 * j3 + 5)))] M = am_rI v3 M) (h8 : ¬ (0 ≤ v3)) : fX10_book [.inr (10, 0), .inl (.int x1)] M = am_rI 0 M := by
  rw [eX10_book]
  refine eX10_book_0 ?_
  try simp only [am_put_nk, am_put_nf, am_put_i, not_false_eq_true, Nat.reduceEqDiff]
  refine ip (ixi h2 h1 (by decide)) ?_
  try rw [ixn h2 h1 (by decide)]
  refine ri (sX10_of _ h4 h3 rfl (by decide)) ?_
  refine eX10_book_24 ?_
  try simp only [am_put_nk, am_put_nf, am_put_i, not_false_eq_true, Nat.reduceEqDiff]
  refine ip h5 ?_
  refine iq (by decide) ?_
  refine ri (sX10_of (f := 4) _ h4 h3 (by decide) (by decide)) ?_
  refine eX10_book_24a ?_
  try simp only [am_put_nk, am_put_nf, am_put_i, not_false_eq_true, Nat.reduceEqDiff]
  refine iq h6 ?_
  refine ri (sX10_of (f := 5) _ h4 h3 (by decide) (by decide)) ?_
  refine eX10_book_44 ?_
  try simp only [am_put_nk, am_put_nf, am_put_i, not_false_eq_true, Nat.reduceEqDiff]
  refine ri h7 ?_
  refine eX10_book_47 ?_
  try simp only [am_put_nk, am_put_nf, am_put_i, not_false_eq_true, Nat.reduceEqDiff]
  refine iq h8 ?_
  all_goals rfl
theorem qX10_book_3 {x1 : Int32} {M : am_M} {j1 : Nat} {j3 : Nat} {v3 : Int32} {j9 : Nat} (h1 : j1 < 40) (h2 : x1 = i3 j1) (h3 : j3 < 4) (h4 : (M 46 0 j1) = i3 j3) (h5 : ¬ ((M 30 0 (16 * j3 + 1)) < 0)) (h6 : fX10_placeFor [.inr (10, 0), .inl (.int (M 30 0 (16 * j3 + 1))), .inl (.int (M 30 0 (16 * j3 + 2)))] M = am_rI v3 M) (h7 : 0 ≤ v3) (h8 : j9 < 24) (h9 : (M 10 0 36) = i3 j9) (h10 : (M 30 0 (16 * j3 + 4)) < 0) : fX10_book [.inr (10, 0), .inl (.int x1)] M = am_rI 1 (am_put (am_put (am_put (am_put (am_put (am_put M 61 0 j9 ((M 10 0 42) + (M 30 0 (16 * j3 + 3)))) 62 0 j9 (M 30 0 (16 * j3 + 1))) 63 0 j9 v3) 64 0 j9 (M 30 0 (16 * j3 + 2))) 65 0 j9 x1) 10 0 36 ((M 10 0 36) + 1)) := by
  rw [eX10_book]
  refine eX10_book_0 ?_
  try simp only [am_put_nk, am_put_nf, am_put_i, not_false_eq_true, Nat.reduceEqDiff]
  refine ip (ixi h2 h1 (by decide)) ?_
  try rw [ixn h2 h1 (by decide)]
  refine ri (sX10_of _ h4 h3 rfl (by decide)) ?_
  refine eX10_book_24 ?_
  try simp only [am_put_nk, am_put_nf, am_put_i, not_false_eq_true, Nat.reduceEqDiff]
  refine iq h5 ?_
  refine ri (sX10_of (f := 2) _ h4 h3 (by decide) (by decide)) ?_
  refine eX10_book_44 ?_
  try simp only [am_put_nk, am_put_nf, am_put_i, not_false_eq_true, Nat.reduceEqDiff]
  refine ri h6 ?_
  refine eX10_book_47 ?_
  try simp only [am_put_nk, am_put_nf, am_put_i, not_false_eq_true, Nat.reduceEqDiff]
  refine ip h7 ?_
  refine ri (sX10_of (f := 3) _ h4 h3 (by decide) (by decide)) ?_
  refine eX10_book_78 ?_
  try simp only [am_put_nk, am_put_nf, am_put_i, not_false_eq_true, Nat.reduceEqDiff]
  refine ip (ixi h9 h8 (by decide)) ?_
  try rw [ixn h9 h8 (by decide)]
  refine ip (ixi h9 h8 (by decide)) ?_
  try rw [ixn h9 h8 (by decide)]
  refine ip (ixi h9 h8 (by decide)) ?_
  try rw [ixn h9 h8 (by decide)]
  refine ri (sX10_of (f := 2) _ h4 h3 (by decide) (by decide)) ?_
  refine eX10_book_120 ?_
  try simp only [am_put_nk, am_put_nf, am_put_i, not_false_eq_true, Nat.reduceEqDiff]
  refine ip (ixi h9 h8 (by decide)) ?_
  try rw [ixn h9 h8 (by decide)]
  refine ip (ixi h9 h8 (by decide)) ?_
  try rw [ixn h9 h8 (by decide)]
  refine iq (by decide) ?_
  refine ri (sX10_of (f := 4) _ h4 h3 (by decide) (by decide)) ?_
  refine eX10_book_24b ?_
  try simp only [am_put_nk, am_put_nf, am_put_i, not_false_eq_true, Nat.reduceEqDiff]
  refine ip h10 ?_
  refine ip (by decide) ?_
  all_goals rfl
theorem qX10_book_4 {x1 : Int32} {M : am_M} {j1 : Nat} {j3 : Nat} {v3 : Int32} {j9 : Nat} {v5 : Int32} {j11 : Nat} (h1 : j1 < 40) (h2 : x1 = i3 j1) (h3 : j3 < 4) (h4 : (M 46 0 j1) = i3 j3) (h5 : ¬ ((M 30 0 (16 * j3 + 1)) < 0)) (h6 : fX10_placeFor [.inr (10, 0), .inl (.int (M 30 0 (16 * j3 + 1))), .inl (.int (M 30 0 (16 * j3 + 2)))] M = am_rI v3 M) (h7 : 0 ≤ v3) (h8 : j9 < 24) (h9 : (M 10 0 36) = i3 j9) (h10 : ¬ ((M 30 0 (16 * j3 + 4)) < 0)) (h11 : fX10_placeFor [.inr (10, 0), .inl (.int (M 30 0 (16 * j3 + 4))), .inl (.int (M 30 0 (16 * j3 + 5)))] (am_put (am_put (am_put (am_put (am_put (am_put M 61 0 j9 ((M 10 0 42) + (M 30 0 (16 * j3 + 3)))) 62 0 j9 (M 30 0 (16 * j3 + 1))) 63 0 j9 v3) 64 0 j9 (M 30 0 (16 * j3 + 2))) 65 0 j9 x1) 10 0 36 ((M 10 0 36) + 1)) = am_rI v5 (am_put (am_put (am_put (am_put (am_put (am_put M 61 0 j9 ((M 10 0 42) + (M 30 0 (16 * j3 + 3)))) 62 0 j9 (M 30 0 (16 * j3 + 1))) 63 0 j9 v3) 64 0 j9 (M 30 0 (16 * j3 + 2))) 65 0 j9 x1) 10 0 36 ((M 10 0 36) + 1))) (h12 : 0 ≤ v5) (h13 : j11 < 24) (h14 : ((M 10 0 36) + 1) = i3 j11) : fX10_book [.inr (10, 0), .inl (.int x1)] M = am_rI 1 (am_put (am_put (am_put (am_put (am_put (am_put (am_put (am_put (am_put (am_put (am_put (am_put M 61 0 j9 ((M 10 0 42) + (M 30 0 (16 * j3 + 3)))) 62 0 j9 (M 30 0 (16 * j3 + 1))) 63 0 j9 v3) 64 0 j9 (M 30 0 (16 * j3 + 2))) 65 0 j9 x1) 10 0 36 ((M 10 0 36) + 1)) 61 0 j11 ((M 10 0 42) + (M 30 0 (16 * j3 + 6)))) 62 0 j11 (M 30 0 (16 * j3 + 4))) 63 0 j11 v5) 64 0 j11 (M 30 0 (16 * j3 + 5))) 65 0 j11 x1) 10 0 36 (((M 10 0 36) + 1) + 1)) := by
  rw [eX10_book]
  refine eX10_book_0 ?_
  try simp only [am_put_nk, am_put_nf, am_put_i, not_false_eq_true, Nat.reduceEqDiff]
  refine ip (ixi h2 h1 (by decide)) ?_
  try rw [ixn h2 h1 (by decide)]
  refine ri (sX10_of _ h4 h3 rfl (by decide)) ?_
  refine eX10_book_24 ?_
  try simp only [am_put_nk, am_put_nf, am_put_i, not_false_eq_true, Nat.reduceEqDiff]
  refine iq h5 ?_
  refine ri (sX10_of (f := 2) _ h4 h3 (by decide) (by decide)) ?_
  refine eX10_book_44 ?_
  try simp only [am_put_nk, am_put_nf, am_put_i, not_false_eq_true, Nat.reduceEqDiff]
  refine ri h6 ?_
  refine eX10_book_47 ?_
  try simp only [am_put_nk, am_put_nf, am_put_i, not_false_eq_true, Nat.reduceEqDiff]
  refine ip h7 ?_
  refine ri (sX10_of (f := 3) _ h4 h3 (by decide) (by decide)) ?_
  refine eX10_book_78 ?_
  try simp only [am_put_nk, am_put_nf, am_put_i, not_false_eq_true, Nat.reduceEqDiff]
  refine ip (ixi h9 h8 (by decide)) ?_
  try rw [ixn h9 h8 (by decide)]
  refine ip (ixi h9 h8 (by decide)) ?_
  try rw [ixn h9 h8 (by decide)]
  refine ip (ixi h9 h8 (by decide)) ?_
  try rw [ixn h9 h8 (by decide)]
  refine ri (sX10_of (f := 2) _ h4 h3 (by decide) (by decide)) ?_
  refine eX10_book_120 ?_
  try simp only [am_put_nk, am_put_nf, am_put_i, not_false_eq_true, Nat.reduceEqDiff]
  refine ip (ixi h9 h8 (by decide)) ?_
  try rw [ixn h9 h8 (by decide)]
  refine ip (ixi h9 h8 (by decide)) ?_
  try rw [ixn h9 h8 (by decide)]
  refine iq (by decide) ?_
  refine ri (sX10_of (f := 4) _ h4 h3 (by decide) (by decide)) ?_
  refine eX10_book_24b ?_
  try simp only [am_put_nk, am_put_nf, am_put_i, not_false_eq_true, Nat.reduceEqDiff]
  refine iq h10 ?_
  refine ri (sX10_of (f := 5) _ h4 h3 (by decide) (by decide)) ?_
  refine eX10_book_44a ?_
  try simp only [am_put_nk, am_put_nf, am_put_i, not_false_eq_true, Nat.reduceEqDiff]
  refine ri h11 ?_
  refine eX10_book_47a ?_
  try simp only [am_put_nk, am_put_nf, am_put_i, not_false_eq_true, Nat.reduceEqDiff]
  refine ip h12 ?_
  refine ri (sX10_of (f := 6) _ h4 h3 (by decide) (by decide)) ?_
  refine eX10_book_78 ?_
  try simp only [am_put_nk, am_put_nf, am_put_i, not_false_eq_true, Nat.reduceEqDiff]
  refine ip (ixi h14 h13 (by decide)) ?_
  try rw [ixn h14 h13 (by decide)]
  refine ip (ixi h14 h13 (by decide)) ?_
  try rw [ixn h14 h13 (by decide)]
  refine ip (ixi h14 h13 (by decide)) ?_
  try rw [ixn h14 h13 (by decide)]
  refine ri (sX10_of (f := 5) _ h4 h3 (by decide) (by decide)) ?_
  refine eX10_book_120 ?_
  try simp only [am_put_nk, am_put_nf, am_put_i, not_false_eq_true, Nat.reduceEqDiff]
  refine ip (ixi h14 h13 (by decide)) ?_
  try rw [ixn h14 h13 (by decide)]
  refine ip (ixi h14 h13 (by decide)) ?_
  try rw [ixn h14 h13 (by decide)]
  refine ip (by decide) ?_
  all_goals rfl
theorem qX10_book_5 {x1 : Int32} {M : am_M} {j1 : Nat} {j3 : Nat} {v3 : Int32} {j9 : Nat} {v5 : Int32} (h1 : j1 < 40) (h2 : x1 = i3 j1) (h3 : j3 < 4) (h4 : (M 46 0 j1) = i3 j3) (h5 : ¬ ((M 30 0 (16 * j3 + 1)) < 0)) (h6 : fX10_placeFor [.inr (10, 0), .inl (.int (M 30 0 (16 * j3 + 1))), .inl (.int (M 30 0 (16 * j3 + 2)))] M = am_rI v3 M) (h7 : 0 ≤ v3) (h8 : j9 < 24) (h9 : (M 10 0 36) = i3 j9) (h10 : ¬ ((M 30 0 (16 * j3 + 4)) < 0)) (h11 : fX10_placeFor [.inr (10, 0), .inl (.int (M 30 0 (16 * j3 + 4))), .inl (.int (M 30 0 (16 * j3 + 5)))] (am_put (am_put (am_put (am_put (am_put (am_put M 61 0 j9 ((M 10 0 42) + (M 30 0 (16 * j3 + 3)))) 62 0 j9 (M 30 0 (16 * j3 + 1))) 63 0 j9 v3) 64 0 j9 (M 30 0 (16 * j3 + 2))) 65 0 j9 x1) 10 0 36 ((M 10 0 36) + 1)) = am_rI v5 (am_put (am_put (am_put (am_put (am_put (am_put M 61 0 j9 ((M 10 0 42) + (M 30 0 (16 * j3 + 3)))) 62 0 j9 (M 30 0 (16 * j3 + 1))) 63 0 j9 v3) 64 0 j9 (M 30 0 (16 * j3 + 2))) 65 0 j9 x1) 10 0 36 ((M 10 0 36) + 1))) (h12 : ¬ (0 ≤ v5)) : fX10_book [.inr (10, 0), .inl (.int x1)] M = am_rI 0 (am_put (am_put (am_put (am_put (am_put (am_put M 61 0 j9 ((M 10 0 42) + (M 30 0 (16 * j3 + 3)))) 62 0 j9 (M 30 0 (16 * j3 + 1))) 63 0 j9 v3) 64 0 j9 (M 30 0 (16 * j3 + 2))) 65 0 j9 x1) 10 0 36 ((M 10 0 36) + 1)) := by
  rw [eX10_book]
  refine eX10_book_0 ?_
  try simp only [am_put_nk, am_put_nf, am_put_i, not_false_eq_true, Nat.reduceEqDiff]
  refine ip (ixi h2 h1 (by decide)) ?_
  try rw [ixn h2 h1 (by decide)]
  refine ri (sX10_of _ h4 h3 rfl (by decide)) ?_
  refine eX10_book_24 ?_
  try simp only [am_put_nk, am_put_nf, am_put_i, not_false_eq_true, Nat.reduceEqDiff]
  refine iq h5 ?_
  refine ri (sX10_of (f := 2) _ h4 h3 (by decide) (by decide)) ?_
  refine eX10_book_44 ?_
  try simp only [am_put_nk, am_put_nf, am_put_i, not_false_eq_true, Nat.reduceEqDiff]
  refine ri h6 ?_
  refine eX10_book_47 ?_
  try simp only [am_put_nk, am_put_nf, am_put_i, not_false_eq_true, Nat.reduceEqDiff]
  refine ip h7 ?_
  refine ri (sX10_of (f := 3) _ h4 h3 (by decide) (by decide)) ?_
  refine eX10_book_78 ?_
  try simp only [am_put_nk, am_put_nf, am_put_i, not_false_eq_true, Nat.reduceEqDiff]
  refine ip (ixi h9 h8 (by decide)) ?_
  try rw [ixn h9 h8 (by decide)]
  refine ip (ixi h9 h8 (by decide)) ?_
  try rw [ixn h9 h8 (by decide)]
  refine ip (ixi h9 h8 (by decide)) ?_
  try rw [ixn h9 h8 (by decide)]
  refine ri (sX10_of (f := 2) _ h4 h3 (by decide) (by decide)) ?_
  refine eX10_book_120 ?_
  try simp only [am_put_nk, am_put_nf, am_put_i, not_false_eq_true, Nat.reduceEqDiff]
  refine ip (ixi h9 h8 (by decide)) ?_
  try rw [ixn h9 h8 (by decide)]
  refine ip (ixi h9 h8 (by decide)) ?_
  try rw [ixn h9 h8 (by decide)]
  refine iq (by decide) ?_
  refine ri (sX10_of (f := 4) _ h4 h3 (by decide) (by decide)) ?_
  refine eX10_book_24b ?_
  try simp only [am_put_nk, am_put_nf, am_put_i, not_false_eq_true, Nat.reduceEqDiff]
  refine iq h10 ?_
  refine ri (sX10_of (f := 5) _ h4 h3 (by decide) (by decide)) ?_
  refine eX10_book_44a ?_
  try simp only [am_put_nk, am_put_nf, am_put_i, not_false_eq_true, Nat.reduceEqDiff]
  refine ri h11 ?_
  refine eX10_book_47a ?_
  try simp only [am_put_nk, am_put_nf, am_put_i, not_false_eq_true, Nat.reduceEqDiff]
  refine iq h12 ?_
  all_goals rfl
theorem qX10_book_6 {x1 : Int32} {M : am_M} {j1 : Nat} {j3 : Nat} {v3 : Int32} (h1 : j1 < 40) (h2 : x1 = i3 j1) (h3 : j3 < 4) (h4 : (M 46 0 j1) = i3 j3) (h5 : ¬ ((M 30 0 (16 * j3 + 1)) < 0)) (h6 : fX10_placeFor [.inr (10, 0), .inl (.int (M 30 0 (16 * j3 + 1))), .inl (.int (M 30 0 (16 * j3 + 2)))] M = am_rI v3 M) (h7 : ¬ (0 ≤ v3)) : fX10_book [.inr (10, 0), .inl (.int x1)] M = am_rI 0 M := by
  rw [eX10_book]
  refine eX10_book_0 ?_
  try simp only [am_put_nk, am_put_nf, am_put_i, not_false_eq_true, Nat.reduceEqDiff]
  refine ip (ixi h2 h1 (by decide)) ?_
  try rw [ixn h2 h1 (by decide)]
  refine ri (sX10_of _ h4 h3 rfl (by decide)) ?_
  refine eX10_book_24 ?_
  try simp only [am_put_nk, am_put_nf, am_put_i, not_false_eq_true, Nat.reduceEqDiff]
  refine iq h5 ?_
  refine ri (sX10_of (f := 2) _ h4 h3 (by decide) (by decide)) ?_
  refine eX10_book_44 ?_
  try simp only [am_put_nk, am_put_nf, am_put_i, not_false_eq_true, Nat.reduceEqDiff]
  refine ri h6 ?_
  refine eX10_book_47 ?_
  try simp only [am_put_nk, am_put_nf, am_put_i, not_false_eq_true, Nat.reduceEqDiff]
  refine iq h7 ?_
  all_goals rfl
theorem qX10_start_0 {x1 : Int32} {x2 : Int32} {x3 : Int32} {x4 : Int32} {M : am_M} {j1 : Nat} {j2 : Nat} {j3 : Nat} (h1 : j1 < 40) (h2 : x1 = i3 j1) (h3 : j2 < 6) (h4 : x2 = i3 j2) (h5 : (M 38 0 j2) = 1) (h6 : (am_b (M 10 0 46)) = 0) (h7 : j3 < 10) (h8 : x3 = i3 j3) : fX10_start [.inr (10, 0), .inl (.int x1), .inl (.int x2), .inl (.int x3), .inl (.int x4)] M = am_rV (am_put (am_put (am_put (am_put (am_put (am_put (am_put (am_put M 48 0 j1 1) 50 0 j1 ((M 50 0 j1) + 1)) 51 0 j1 x3) 52 0 j1 0) 56 0 j1 0) 54 0 j1 1) 39 0 j2 ((M 39 0 j2) - x4)) 60 0 j3 x4) := by
  rw [eX10_start]
  refine eX10_start_0 ?_
  try simp only [am_put_nk, am_put_nf, am_put_i, not_false_eq_true, Nat.reduceEqDiff]
  refine ip (ixi h2 h1 (by decide)) ?_
  try rw [ixn h2 h1 (by decide)]
  refine ip (ixi h2 h1 (by decide)) ?_
  try rw [ixn h2 h1 (by decide)]
  refine ip (ixi h2 h1 (by decide)) ?_
  try rw [ixn h2 h1 (by decide)]
  refine ip (ixi h2 h1 (by decide)) ?_
  try rw [ixn h2 h1 (by decide)]
  refine ip (ixi h2 h1 (by decide)) ?_
  try rw [ixn h2 h1 (by decide)]
  refine ip (ixi h2 h1 (by decide)) ?_
  try rw [ixn h2 h1 (by decide)]
  refine ip (ixi h4 h3 (by decide)) ?_
  try rw [ixn h4 h3 (by decide)]
  refine ip h5 ?_
  refine ip ⟨(ixi h2 h1 (by decide)), rfl⟩ ?_
  try rw [ixn h2 h1 (by decide)]
  refine ip h6 ?_
  refine ip (ixi h4 h3 (by decide)) ?_
  try rw [ixn h4 h3 (by decide)]
  refine ip (ixi h4 h3 (by decide)) ?_
  try rw [ixn h4 h3 (by decide)]
  refine ip (ixi h8 h7 (by decide)) ?_
  try rw [ixn h8 h7 (by decide)]
  all_goals rfl
theorem qX10_start_1 {x1 : Int32} {x2 : Int32} {x3 : Int32} {x4 : Int32} {M : am_M} {j1 : Nat} {j2 : Nat} {M3 : am_M} (h1 : j1 < 40) (h2 : x1 = i3 j1) (h3 : j2 < 6) (h4 : x2 = i3 j2) (h5 : (M 38 0 j2) = 1) (h6 : ¬ ((am_b (M 10 0 46)) = 0)) (h7 : fX10_breaksOff [.inr (10, 0), .inl (.int x1), .inl (.int 3)] (am_put (am_put (am_put (am_put (am_put (am_put (am_put M 48 0 j1 1) 50 0 j1 ((M 50 0 j1) + 1)) 51 0 j1 x3) 52 0 j1 0) 56 0 j1 0) 54 0 j1 1) 10 0 46 0) = am_rV M3) : fX10_start [.inr (10, 0), .inl (.int x1), .inl (.int x2), .inl (.int x3), .inl (.int x4)] M = am_rV M3 := by
  rw [eX10_start]
  refine eX10_start_0 ?_
  try simp only [am_put_nk, am_put_nf, am_put_i, not_false_eq_true, Nat.reduceEqDiff]
  refine ip (ixi h2 h1 (by decide)) ?_
  try rw [ixn h2 h1 (by decide)]
  refine ip (ixi h2 h1 (by decide)) ?_
  try rw [ixn h2 h1 (by decide)]
  refine ip (ixi h2 h1 (by decide)) ?_
  try rw [ixn h2 h1 (by decide)]
  refine ip (ixi h2 h1 (by decide)) ?_
  try rw [ixn h2 h1 (by decide)]
  refine ip (ixi h2 h1 (by decide)) ?_
  try rw [ixn h2 h1 (by decide)]
  refine ip (ixi h2 h1 (by decide)) ?_
  try rw [ixn h2 h1 (by decide)]
  refine ip (ixi h4 h3 (by decide)) ?_
  try rw [ixn h4 h3 (by decide)]
  refine ip h5 ?_
  refine ip ⟨(ixi h2 h1 (by decide)), rfl⟩ ?_
  try rw [ixn h2 h1 (by decide)]
  refine iq h6 ?_
  refine rv h7 ?_
  refine eX10_start_77 ?_
  try simp only [am_put_nk, am_put_nf, am_put_i, not_false_eq_true, Nat.reduceEqDiff]
  all_goals rfl
theorem qX10_start_2 {x1 : Int32} {x2 : Int32} {x3 : Int32} {x4 : Int32} {M : am_M} {j1 : Nat} {j2 : Nat} {j3 : Nat} (h1 : j1 < 40) (h2 : x1 = i3 j1) (h3 : j2 < 6) (h4 : x2 = i3 j2) (h5 : ¬ ((M 38 0 j2) = 1)) (h6 : (am_b (M 10 0 46)) = 0) (h7 : j3 < 10) (h8 : x3 = i3 j3) : fX10_start [.inr (10, 0), .inl (.int x1), .inl (.int x2), .inl (.int x3), .inl (.int x4)] M = am_rV (am_put (am_put (am_put (am_put (am_put (am_put (am_put (am_put M 48 0 j1 1) 50 0 j1 ((M 50 0 j1) + 1)) 51 0 j1 x3) 52 0 j1 0) 56 0 j1 0) 54 0 j1 0) 39 0 j2 ((M 39 0 j2) - x4)) 60 0 j3 x4) := by
  rw [eX10_start]
  refine eX10_start_0 ?_
  try simp only [am_put_nk, am_put_nf, am_put_i, not_false_eq_true, Nat.reduceEqDiff]
  refine ip (ixi h2 h1 (by decide)) ?_
  try rw [ixn h2 h1 (by decide)]
  refine ip (ixi h2 h1 (by decide)) ?_
  try rw [ixn h2 h1 (by decide)]
  refine ip (ixi h2 h1 (by decide)) ?_
  try rw [ixn h2 h1 (by decide)]
  refine ip (ixi h2 h1 (by decide)) ?_
  try rw [ixn h2 h1 (by decide)]
  refine ip (ixi h2 h1 (by decide)) ?_
  try rw [ixn h2 h1 (by decide)]
  refine ip (ixi h2 h1 (by decide)) ?_
  try rw [ixn h2 h1 (by decide)]
  refine ip (ixi h4 h3 (by decide)) ?_
  try rw [ixn h4 h3 (by decide)]
  refine iq h5 ?_
  refine ip ⟨(ixi h2 h1 (by decide)), rfl⟩ ?_
  try rw [ixn h2 h1 (by decide)]
  refine ip h6 ?_
  refine ip (ixi h4 h3 (by decide)) ?_
  try rw [ixn h4 h3 (by decide)]
  refine ip (ixi h4 h3 (by decide)) ?_
  try rw [ixn h4 h3 (by decide)]
  refine ip (ixi h8 h7 (by decide)) ?_
  try rw [ixn h8 h7 (by decide)]
  all_goals rfl
theorem qX10_start_3 {x1 : Int32} {x2 : Int32} {x3 : Int32} {x4 : Int32} {M : am_M} {j1 : Nat} {j2 : Nat} {M3 : am_M} (h1 : j1 < 40) (h2 : x1 = i3 j1) (h3 : j2 < 6) (h4 : x2 = i3 j2) (h5 : ¬ ((M 38 0 j2) = 1)) (h6 : ¬ ((am_b (M 10 0 46)) = 0)) (h7 : fX10_breaksOff [.inr (10, 0), .inl (.int x1), .inl (.int 3)] (am_put (am_put (am_put (am_put (am_put (am_put (am_put M 48 0 j1 1) 50 0 j1 ((M 50 0 j1) + 1)) 51 0 j1 x3) 52 0 j1 0) 56 0 j1 0) 54 0 j1 0) 10 0 46 0) = am_rV M3) : fX10_start [.inr (10, 0), .inl (.int x1), .inl (.int x2), .inl (.int x3), .inl (.int x4)] M = am_rV M3 := by
  rw [eX10_start]
  refine eX10_start_0 ?_
  try simp only [am_put_nk, am_put_nf, am_put_i, not_false_eq_true, Nat.reduceEqDiff]
  refine ip (ixi h2 h1 (by decide)) ?_
  try rw [ixn h2 h1 (by decide)]
  refine ip (ixi h2 h1 (by decide)) ?_
  try rw [ixn h2 h1 (by decide)]
  refine ip (ixi h2 h1 (by decide)) ?_
  try rw [ixn h2 h1 (by decide)]
  refine ip (ixi h2 h1 (by decide)) ?_
  try rw [ixn h2 h1 (by decide)]
  refine ip (ixi h2 h1 (by decide)) ?_
  try rw [ixn h2 h1 (by decide)]
  refine ip (ixi h2 h1 (by decide)) ?_
  try rw [ixn h2 h1 (by decide)]
  refine ip (ixi h4 h3 (by decide)) ?_
  try rw [ixn h4 h3 (by decide)]
  refine iq h5 ?_
  refine ip ⟨(ixi h2 h1 (by decide)), rfl⟩ ?_
  try rw [ixn h2 h1 (by decide)]
  refine iq h6 ?_
  refine rv h7 ?_
  refine eX10_start_77 ?_
  try simp only [am_put_nk, am_put_nf, am_put_i, not_false_eq_true, Nat.reduceEqDiff]
  all_goals rfl
theorem qX10_nextUse_0 {x1 : Int32} {M : am_M} {res : am_O × am_M} (k : rX10_nextUse 99900 4 [.inr (10, 0), .inl (.int x1), .inl (.int (-1)), .inl (.int 0)] [] M = some res) : fX10_nextUse [.inr (10, 0), .inl (.int x1)] M = some res := by
  rw [eX10_nextUse]
  refine eX10_nextUse_0 ?_
  try simp only [am_put_nk, am_put_nf, am_put_i, not_false_eq_true, Nat.reduceEqDiff]
  exact k
theorem mX10_nextUse {n m pc : Nat} {ls st : List am_V} {M : am_M} {res : am_O × am_M} (h : rX10_nextUse n pc ls st M = some res) (hm : n ≤ m) : rX10_nextUse m pc ls st M = some res := by
  have h2 := am_run_mono_add h (m - n)
  rw [show n + (m - n) = m by omega] at h2
  exact h2
theorem qX10_nextUse_4_0 {x1 : Int32} {x2 : Int32} {x3 : Nat} {M : am_M} {n : Nat} (h1 : (M 10 0 36) ≤ (i3 x3)) : rX10_nextUse (n + 100) 4 [.inr (10, 0), .inl (.int x1), .inl (.int x2), .inl (.int (i3 x3))] [] M = am_rI x2 M := by
  refine eX10_nextUse_4 ?_
  try simp only [am_put_nk, am_put_nf, am_put_i, not_false_eq_true, Nat.reduceEqDiff]
  refine ip h1 ?_
  all_goals rfl
theorem qX10_nextUse_4_1 {x1 : Int32} {x2 : Int32} {x3 : Nat} {M : am_M} {n : Nat} {res : am_O × am_M} (h1 : ¬ ((M 10 0 36) ≤ (i3 x3))) (h2 : x3 < 24) (h3 : (M 61 0 x3) ≤ x1) (k : rX10_nextUse n 4 [.inr (10, 0), .inl (.int x1), .inl (.int x2), .inl (.int (i3 (x3 + 1)))] [] M = some res) : rX10_nextUse (n + 100) 4 [.inr (10, 0), .inl (.int x1), .inl (.int x2), .inl (.int (i3 x3))] [] M = some res := by
  refine eX10_nextUse_4 ?_
  try simp only [am_put_nk, am_put_nf, am_put_i, not_false_eq_true, Nat.reduceEqDiff]
  refine iq h1 ?_
  refine ip (i3_in' h2 (by decide)) ?_
  try rw [ixm h2 (by decide)]
  refine ip h3 ?_
  rw [i3_one]
  exact k
theorem qX10_nextUse_4_2 {x1 : Int32} {x2 : Int32} {x3 : Nat} {M : am_M} {n : Nat} {res : am_O × am_M} (h1 : ¬ ((M 10 0 36) ≤ (i3 x3))) (h2 : x3 < 24) (h3 : ¬ ((M 61 0 x3) ≤ x1)) (h4 : x2 < 0) (k : rX10_nextUse n 4 [.inr (10, 0), .inl (.int x1), .inl (.int (i3 x3)), .inl (.int (i3 (x3 + 1)))] [] M = some res) : rX10_nextUse (n + 100) 4 [.inr (10, 0), .inl (.int x1), .inl (.int x2), .inl (.int (i3 x3))] [] M = some res := by
  refine eX10_nextUse_4 ?_
  try simp only [am_put_nk, am_put_nf, am_put_i, not_false_eq_true, Nat.reduceEqDiff]
  refine iq h1 ?_
  refine ip (i3_in' h2 (by decide)) ?_
  try rw [ixm h2 (by decide)]
  refine iq h3 ?_
  refine ip h4 ?_
  rw [i3_one]
  exact k
theorem qX10_nextUse_4_3 {x1 : Int32} {x2 : Int32} {x3 : Nat} {M : am_M} {n : Nat} {res : am_O × am_M} {j1 : Nat} (h1 : ¬ ((M 10 0 36) ≤ (i3 x3))) (h2 : x3 < 24) (h3 : ¬ ((M 61 0 x3) ≤ x1)) (h4 : ¬ (x2 < 0)) (h5 : j1 < 24) (h6 : x2 = i3 j1) (h7 : (M 61 0 j1) ≤ (M 61 0 x3)) (k : rX10_nextUse n 4 [.inr (10, 0), .inl (.int x1), .inl (.int x2), .inl (.int (i3 (x3 + 1)))] [] M = some res) : rX10_nextUse (n + 100) 4 [.inr (10, 0), .inl (.int x1), .inl (.int x2), .inl (.int (i3 x3))] [] M = some res := by
  refine eX10_nextUse_4 ?_
  try simp only [am_put_nk, am_put_nf, am_put_i, not_false_eq_true, Nat.reduceEqDiff]
  refine iq h1 ?_
  refine ip (i3_in' h2 (by decide)) ?_
  try rw [ixm h2 (by decide)]
  refine iq h3 ?_
  refine iq h4 ?_
  refine ip (i3_in' h2 (by decide)) ?_
  try rw [ixm h2 (by decide)]
  refine ip (ixi h6 h5 (by decide)) ?_
  try rw [ixn h6 h5 (by decide)]
  refine ip h7 ?_
  rw [i3_one]
  exact k
theorem qX10_nextUse_4_4 {x1 : Int32} {x2 : Int32} {x3 : Nat} {M : am_M} {n : Nat} {res : am_O × am_M} {j1 : Nat} (h1 : ¬ ((M 10 0 36) ≤ (i3 x3))) (h2 : x3 < 24) (h3 : ¬ ((M 61 0 x3) ≤ x1)) (h4 : ¬ (x2 < 0)) (h5 : j1 < 24) (h6 : x2 = i3 j1) (h7 : ¬ ((M 61 0 j1) ≤ (M 61 0 x3))) (k : rX10_nextUse n 4 [.inr (10, 0), .inl (.int x1), .inl (.int (i3 x3)), .inl (.int (i3 (x3 + 1)))] [] M = some res) : rX10_nextUse (n + 100) 4 [.inr (10, 0), .inl (.int x1), .inl (.int x2), .inl (.int (i3 x3))] [] M = some res := by
  refine eX10_nextUse_4 ?_
  try simp only [am_put_nk, am_put_nf, am_put_i, not_false_eq_true, Nat.reduceEqDiff]
  refine iq h1 ?_
  refine ip (i3_in' h2 (by decide)) ?_
  try rw [ixm h2 (by decide)]
  refine iq h3 ?_
  refine iq h4 ?_
  refine ip (i3_in' h2 (by decide)) ?_
  try rw [ixm h2 (by decide)]
  refine ip (ixi h6 h5 (by decide)) ?_
  try rw [ixn h6 h5 (by decide)]
  refine iq h7 ?_
  rw [i3_one]
  exact k
theorem qX10_follows_0 {x1 : Int32} {x2 : Int32} {M : am_M} {v1 : Int32} (h1 : fX10_nextUse [.inr (10, 0), .inl (.int x2)] M = am_rI v1 M) (h2 : v1 < 0) : fX10_follows [.inr (10, 0), .inl (.int x1), .inl (.int x2)] M = am_rI 1 M := by
  rw [eX10_follows]
  refine eX10_follows_0 ?_
  try simp only [am_put_nk, am_put_nf, am_put_i, not_false_eq_true, Nat.reduceEqDiff]
  refine ri h1 ?_
  refine eX10_follows_5 ?_
  try simp only [am_put_nk, am_put_nf, am_put_i, not_false_eq_true, Nat.reduceEqDiff]
  refine ip h2 ?_
  all_goals rfl
theorem qX10_follows_1 {x1 : Int32} {x2 : Int32} {M : am_M} {v1 : Int32} {j1 : Nat} {j2 : Nat} (h1 : fX10_nextUse [.inr (10, 0), .inl (.int x2)] M = am_rI v1 M) (h2 : ¬ (v1 < 0)) (h3 : j1 < 24) (h4 : v1 = i3 j1) (h5 : j2 < 36) (h6 : ((6 * x1) + (M 62 0 j1)) = i3 j2) (h7 : (am_b (M 43 0 j2)) = 0) : fX10_follows [.inr (10, 0), .inl (.int x1), .inl (.int x2)] M = am_rI 1 M := by
  rw [eX10_follows]
  refine eX10_follows_0 ?_
  try simp only [am_put_nk, am_put_nf, am_put_i, not_false_eq_true, Nat.reduceEqDiff]
  refine ri h1 ?_
  refine eX10_follows_5 ?_
  try simp only [am_put_nk, am_put_nf, am_put_i, not_false_eq_true, Nat.reduceEqDiff]
  refine iq h2 ?_
  refine ip (ixi h4 h3 (by decide)) ?_
  try rw [ixn h4 h3 (by decide)]
  refine ip (ixi h6 h5 (by decide)) ?_
  try rw [ixn h6 h5 (by decide)]
  refine ip h7 ?_
  all_goals rfl
theorem qX10_follows_2 {x1 : Int32} {x2 : Int32} {M : am_M} {v1 : Int32} {j1 : Nat} {j2 : Nat} (h1 : fX10_nextUse [.inr (10, 0), .inl (.int x2)] M = am_rI v1 M) (h2 : ¬ (v1 < 0)) (h3 : j1 < 24) (h4 : v1 = i3 j1) (h5 : j2 < 36) (h6 : ((6 * x1) + (M 62 0 j1)) = i3 j2) (h7 : ¬ ((am_b (M 43 0 j2)) = 0)) (h8 : ((M 61 0 j1) - x2) < 2) : fX10_follows [.inr (10, 0), .inl (.int x1), .inl (.int x2)] M = am_rI 0 M := by
  rw [eX10_follows]
  refine eX10_follows_0 ?_
  try simp only [am_put_nk, am_put_nf, am_put_i, not_false_eq_true, Nat.reduceEqDiff]
  refine ri h1 ?_
  refine eX10_follows_5 ?_
  try simp only [am_put_nk, am_put_nf, am_put_i, not_false_eq_true, Nat.reduceEqDiff]
  refine iq h2 ?_
  refine ip (ixi h4 h3 (by decide)) ?_
  try rw [ixn h4 h3 (by decide)]
  refine ip (ixi h6 h5 (by decide)) ?_
  try rw [ixn h6 h5 (by decide)]
  refine iq h7 ?_
  refine ip (ixi h4 h3 (by decide)) ?_
  try rw [ixn h4 h3 (by decide)]
  refine ip h8 ?_
  all_goals rfl
theorem qX10_follows_3 {x1 : Int32} {x2 : Int32} {M : am_M} {v1 : Int32} {j1 : Nat} {j2 : Nat} (h1 : fX10_nextUse [.inr (10, 0), .inl (.int x2)] M = am_rI v1 M) (h2 : ¬ (v1 < 0)) (h3 : j1 < 24) (h4 : v1 = i3 j1) (h5 : j2 < 36) (h6 : ((6 * x1) + (M 62 0 j1)) = i3 j2) (h7 : ¬ ((am_b (M 43 0 j2)) = 0)) (h8 : ¬ (((M 61 0 j1) - x2) < 2)) : fX10_follows [.inr (10, 0), .inl (.int x1), .inl (.int x2)] M = am_rI 1 M := by
  rw [eX10_follows]
  refine eX10_follows_0 ?_
  try simp only [am_put_nk, am_put_nf, am_put_i, not_false_eq_true, Nat.reduceEqDiff]
  refine ri h1 ?_
  refine eX10_follows_5 ?_
  try simp only [am_put_nk, am_put_nf, am_put_i, not_false_eq_true, Nat.reduceEqDiff]
  refine iq h2 ?_
  refine ip (ixi h4 h3 (by decide)) ?_
  try rw [ixn h4 h3 (by decide)]
  refine ip (ixi h6 h5 (by decide)) ?_
  try rw [ixn h6 h5 (by decide)]
  refine iq h7 ?_
  refine ip (ixi h4 h3 (by decide)) ?_
  try rw [ixn h4 h3 (by decide)]
  refine iq h8 ?_
  all_goals rfl
theorem qX10_allowed_0 {M : am_M} {res : am_O × am_M} (h1 : (M 10 0 38) < 0) (k : rX10_allowed 99900 26 [.inr (10, 0), .inl (.int 0), am_D] [] M = some res) : fX10_allowed [.inr (10, 0)] M = some res := by
  rw [eX10_allowed]
  refine eX10_allowed_0 ?_
  try simp only [am_put_nk, am_put_nf, am_put_i, not_false_eq_true, Nat.reduceEqDiff]
  refine ip h1 ?_
  exact k
theorem qX10_allowed_1 {M : am_M} {v1 : Int32} (h1 : ¬ ((M 10 0 38) < 0)) (h2 : fX10_follows [.inr (10, 0), .inl (.int (M 10 0 38)), .inl (.int (M 10 0 37))] M = am_rI v1 M) (h3 : v1 = 0) : fX10_allowed [.inr (10, 0)] M = am_rI 0 M := by
  rw [eX10_allowed]
  refine eX10_allowed_0 ?_
  try simp only [am_put_nk, am_put_nf, am_put_i, not_false_eq_true, Nat.reduceEqDiff]
  refine iq h1 ?_
  refine ri h2 ?_
  refine eX10_allowed_19 ?_
  try simp only [am_put_nk, am_put_nf, am_put_i, not_false_eq_true, Nat.reduceEqDiff]
  refine ip h3 ?_
  all_goals rfl
theorem qX10_allowed_2 {M : am_M} {res : am_O × am_M} {v1 : Int32} (h1 : ¬ ((M 10 0 38) < 0)) (h2 : fX10_follows [.inr (10, 0), .inl (.int (M 10 0 38)), .inl (.int (M 10 0 37))] M = am_rI v1 M) (h3 : ¬ (v1 = 0)) (k : rX10_allowed 99800 26 [.inr (10, 0), .inl (.int 0), am_D] [] M = some res) : fX10_allowed [.inr (10, 0)] M = some res := by
  rw [eX10_allowed]
  refine eX10_allowed_0 ?_
  try simp only [am_put_nk, am_put_nf, am_put_i, not_false_eq_true, Nat.reduceEqDiff]
  refine iq h1 ?_
  refine ri h2 ?_
  refine eX10_allowed_19 ?_
  try simp only [am_put_nk, am_put_nf, am_put_i, not_false_eq_true, Nat.reduceEqDiff]
  refine iq h3 ?_
  exact k
theorem mX10_allowed {n m pc : Nat} {ls st : List am_V} {M : am_M} {res : am_O × am_M} (h : rX10_allowed n pc ls st M = some res) (hm : n ≤ m) : rX10_allowed m pc ls st M = some res := by
  have h2 := am_run_mono_add h (m - n)
  rw [show n + (m - n) = m by omega] at h2
  exact h2
theorem qX10_allowed_26_0 {x1 : Nat} {x2 : am_V} {M : am_M} {n : Nat} (h1 : (M 10 0 36) ≤ (i3 x1)) : rX10_allowed (n + 100) 26 [.inr (10, 0), .inl (.int (i3 x1)), x2] [] M = am_rI 1 M := by
  refine eX10_allowed_26 ?_
  try simp only [am_put_nk, am_put_nf, am_put_i, not_false_eq_true, Nat.reduceEqDiff]
  refine ip h1 ?_
  all_goals rfl
theorem qX10_allowed_26_1 {x1 : Nat} {x2 : am_V} {M : am_M} {n : Nat} {res : am_O × am_M} (h1 : ¬ ((M 10 0 36) ≤ (i3 x1))) (k : rX10_allowed n 36 [.inr (10, 0), .inl (.int (i3 x1)), .inl (.int 0)] [] M = some res) : rX10_allowed (n + 100) 26 [.inr (10, 0), .inl (.int (i3 x1)), x2] [] M = some res := by
  refine eX10_allowed_26 ?_
  try simp only [am_put_nk, am_put_nf, am_put_i, not_false_eq_true, Nat.reduceEqDiff]
  refine iq h1 ?_
  exact k
theorem qX10_allowed_36_0 {x1 : Nat} {x2 : Nat} {M : am_M} {n : Nat} {v1 : Int32} (h1 : (i3 x1) ≤ (i3 x2)) (h2 : x1 < 24) (h3 : fX10_follows [.inr (10, 0), .inl (.int (M 62 0 x1)), .inl (.int (M 61 0 x1))] M = am_rI v1 M) (h4 : v1 = 0) : rX10_allowed (n + 200) 36 [.inr (10, 0), .inl (.int (i3 x1)), .inl (.int (i3 x2))] [] M = am_rI 0 M := by
  refine eX10_allowed_36 ?_
  try simp only [am_put_nk, am_put_nf, am_put_i, not_false_eq_true, Nat.reduceEqDiff]
  refine ip h1 ?_
  refine ip (i3_in' h2 (by decide)) ?_
  try rw [ixm h2 (by decide)]
  refine ip (i3_in' h2 (by decide)) ?_
  try rw [ixm h2 (by decide)]
  refine ri h3 ?_
  refine eX10_allowed_80 ?_
  try simp only [am_put_nk, am_put_nf, am_put_i, not_false_eq_true, Nat.reduceEqDiff]
  refine ip h4 ?_
  all_goals rfl
theorem qX10_allowed_36_1 {x1 : Nat} {x2 : Nat} {M : am_M} {n : Nat} {res : am_O × am_M} {v1 : Int32} (h1 : (i3 x1) ≤ (i3 x2)) (h2 : x1 < 24) (h3 : fX10_follows [.inr (10, 0), .inl (.int (M 62 0 x1)), .inl (.int (M 61 0 x1))] M = am_rI v1 M) (h4 : ¬ (v1 = 0)) (k : rX10_allowed n 26 [.inr (10, 0), .inl (.int (i3 (x1 + 1))), .inl (.int (i3 x2))] [] M = some res) : rX10_allowed (n + 200) 36 [.inr (10, 0), .inl (.int (i3 x1)), .inl (.int (i3 x2))] [] M = some res := by
  refine eX10_allowed_36 ?_
  try simp only [am_put_nk, am_put_nf, am_put_i, not_false_eq_true, Nat.reduceEqDiff]
  refine ip h1 ?_
  refine ip (i3_in' h2 (by decide)) ?_
  try rw [ixm h2 (by decide)]
  refine ip (i3_in' h2 (by decide)) ?_
  try rw [ixm h2 (by decide)]
  refine ri h3 ?_
  refine eX10_allowed_80 ?_
  try simp only [am_put_nk, am_put_nf, am_put_i, not_false_eq_true, Nat.reduceEqDiff]
  refine iq h4 ?_
  rw [i3_one]
  exact k
theorem qX10_allowed_36_2 {x1 : Nat} {x2 : Nat} {M : am_M} {n : Nat} (h1 : ¬ ((i3 x1) ≤ (i3 x2))) (h2 : x1 < 24) (h3 : x2 < 24) (h4 : (M 61 0 x1) = (M 61 0 x2)) : rX10_allowed (n + 100) 36 [.inr (10, 0), .inl (.int (i3 x1)), .inl (.int (i3 x2))] [] M = am_rI 0 M := by
  refine eX10_allowed_36 ?_
  try simp only [am_put_nk, am_put_nf, am_put_i, not_false_eq_true, Nat.reduceEqDiff]
  refine iq h1 ?_
  refine ip (i3_in' h2 (by decide)) ?_
  try rw [ixm h2 (by decide)]
  refine ip (i3_in' h3 (by decide)) ?_
  try rw [ixm h3 (by decide)]
  refine ip h4 ?_
  all_goals rfl
theorem qX10_allowed_36_3 {x1 : Nat} {x2 : Nat} {M : am_M} {n : Nat} {res : am_O × am_M} (h1 : ¬ ((i3 x1) ≤ (i3 x2))) (h2 : x1 < 24) (h3 : x2 < 24) (h4 : ¬ ((M 61 0 x1) = (M 61 0 x2))) (k : rX10_allowed n 36 [.inr (10, 0), .inl (.int (i3 x1)), .inl (.int (i3 (x2 + 1)))] [] M = some res) : rX10_allowed (n + 100) 36 [.inr (10, 0), .inl (.int (i3 x1)), .inl (.int (i3 x2))] [] M = some res := by
  refine eX10_allowed_36 ?_
  try simp only [am_put_nk, am_put_nf, am_put_i, not_false_eq_true, Nat.reduceEqDiff]
  refine iq h1 ?_
  refine ip (i3_in' h2 (by decide)) ?_
  try rw [ixm h2 (by decide)]
  refine ip (i3_in' h3 (by decide)) ?_
  try rw [ixm h3 (by decide)]
  refine iq h4 ?_
  rw [i3_one]
  exact k
