/-! ===== the ways through the methods ===== -/
theorem qX9_turnDisc_0 {M : am_M} {res : am_O × am_M} (k : rX9_turnDisc 99900 2 [.inr (9, 0), .inl (.int 0)] [] M = some res) : fX9_turnDisc [.inr (9, 0)] M = some res := by
  rw [eX9_turnDisc]
  refine eX9_turnDisc_0 ?_
  exact k
theorem mX9_turnDisc {n m pc : Nat} {ls st : List am_V} {M : am_M} {res : am_O × am_M} (h : rX9_turnDisc n pc ls st M = some res) (hm : n ≤ m) : rX9_turnDisc m pc ls st M = some res := by
  have h2 := am_run_mono_add h (m - n)
  rw [show n + (m - n) = m by omega] at h2
  exact h2
theorem qX9_turnDisc_2_0 {x1 : Nat} {M : am_M} {n : Nat} {M1 : am_M} (h1 : 10 ≤ (i3 x1)) (h2 : fX7_turn [.inr (7, 0)] M = am_rV M1) : rX9_turnDisc (n + 200) 2 [.inr (9, 0), .inl (.int (i3 x1))] [] M = am_rV M1 := by
  refine eX9_turnDisc_2 ?_
  refine ip h1 ?_
  refine rv h2 ?_
  refine eX9_turnDisc_30 ?_
  all_goals rfl
theorem qX9_turnDisc_2_1 {x1 : Nat} {M : am_M} {n : Nat} {res : am_O × am_M} {M1 : am_M} (h1 : ¬ (10 ≤ (i3 x1))) (h2 : x1 < 10) (h3 : fX1_turn [.inr (1, x1)] M = am_rV M1) (k : rX9_turnDisc n 2 [.inr (9, 0), .inl (.int (i3 (x1 + 1)))] [] M1 = some res) : rX9_turnDisc (n + 200) 2 [.inr (9, 0), .inl (.int (i3 x1))] [] M = some res := by
  refine eX9_turnDisc_2 ?_
  refine iq h1 ?_
  refine ip (i3_in' h2 (by decide)) ?_
  try rw [ixm h2 (by decide)]
  refine rv h3 ?_
  refine eX9_turnDisc_17 ?_
  rw [i3_one]
  exact k
theorem qX1_turn_0 {x0 : Nat} {M : am_M} (h1 : (M 1 x0 5) = (-1)) (h2 : (M 1 x0 8) ≤ 0) : fX1_turn [.inr (1, x0)] M = am_rV M := by
  rw [eX1_turn]
  refine eX1_turn_0 ?_
  refine ip h1 ?_
  refine ip h2 ?_
  all_goals rfl
theorem qX1_turn_1 {x0 : Nat} {M : am_M} (h1 : (M 1 x0 5) = (-1)) (h2 : ¬ ((M 1 x0 8) ≤ 0)) : fX1_turn [.inr (1, x0)] M = am_rV (am_put M 1 x0 8 ((M 1 x0 8) - 1)) := by
  rw [eX1_turn]
  refine eX1_turn_0 ?_
  refine ip h1 ?_
  refine iq h2 ?_
  all_goals rfl
theorem qX1_turn_2 {x0 : Nat} {M : am_M} (h1 : ¬ ((M 1 x0 5) = (-1))) : fX1_turn [.inr (1, x0)] M = am_rV (am_put M 1 x0 7 ((M 1 x0 7) + 1)) := by
  rw [eX1_turn]
  refine eX1_turn_0 ?_
  refine iq h1 ?_
  all_goals rfl
theorem qX7_turn_0 {M : am_M} {res : am_O × am_M} (k : rX7_turn 99900 2 [.inr (7, 0), .inl (.int 0)] [] M = some res) : fX7_turn [.inr (7, 0)] M = some res := by
  rw [eX7_turn]
  refine eX7_turn_0 ?_
  exact k
theorem mX7_turn {n m pc : Nat} {ls st : List am_V} {M : am_M} {res : am_O × am_M} (h : rX7_turn n pc ls st M = some res) (hm : n ≤ m) : rX7_turn m pc ls st M = some res := by
  have h2 := am_run_mono_add h (m - n)
  rw [show n + (m - n) = m by omega] at h2
  exact h2
theorem qX7_turn_2_0 {x1 : Nat} {M : am_M} {n : Nat} (h1 : 12 ≤ (i3 x1)) : rX7_turn (n + 100) 2 [.inr (7, 0), .inl (.int (i3 x1))] [] M = am_rV (am_put (am_put M 19 0 12 (-1)) 20 0 12 (-1)) := by
  refine eX7_turn_2 ?_
  refine ip h1 ?_
  all_goals rfl
theorem qX7_turn_2_1 {x1 : Nat} {M : am_M} {n : Nat} {res : am_O × am_M} {j1 : Nat} (h1 : ¬ (12 ≤ (i3 x1))) (h2 : j1 < 13) (h3 : ((i3 x1) + 1) = i3 j1) (h4 : x1 < 13) (k : rX7_turn n 2 [.inr (7, 0), .inl (.int (i3 (x1 + 1)))] [] (am_put (am_put M 19 0 x1 (M 19 0 j1)) 20 0 x1 (M 20 0 j1)) = some res) : rX7_turn (n + 100) 2 [.inr (7, 0), .inl (.int (i3 x1))] [] M = some res := by
  refine eX7_turn_2 ?_
  refine iq h1 ?_
  refine ip (ixi h3 h2 (by decide)) ?_
  try rw [ixn h3 h2 (by decide)]
  refine ip (i3_in' h4 (by decide)) ?_
  try rw [ixm h4 (by decide)]
  refine ip (ixi h3 h2 (by decide)) ?_
  try rw [ixn h3 h2 (by decide)]
  refine ip (i3_in' h4 (by decide)) ?_
  try rw [ixm h4 (by decide)]
  rw [i3_one]
  exact k
theorem qX10_goOn_0 {M : am_M} {res : am_O × am_M} (k : rX10_goOn 99900 2 [.inr (10, 0), .inl (.int 0)] [] M = some res) : fX10_goOn [.inr (10, 0)] M = some res := by
  rw [eX10_goOn]
  refine eX10_goOn_0 ?_
  exact k
theorem mX10_goOn {n m pc : Nat} {ls st : List am_V} {M : am_M} {res : am_O × am_M} (h : rX10_goOn n pc ls st M = some res) (hm : n ≤ m) : rX10_goOn m pc ls st M = some res := by
  have h2 := am_run_mono_add h (m - n)
  rw [show n + (m - n) = m by omega] at h2
  exact h2
theorem qX10_goOn_2_0 {x1 : Nat} {M : am_M} {n : Nat} {res : am_O × am_M} (h1 : 10 ≤ (i3 x1)) (k : rX10_goOn n 35 [.inr (10, 0), .inl (.int 0)] [] M = some res) : rX10_goOn (n + 100) 2 [.inr (10, 0), .inl (.int (i3 x1))] [] M = some res := by
  refine eX10_goOn_2 ?_
  refine ip h1 ?_
  exact k
theorem qX10_goOn_2_1 {x1 : Nat} {M : am_M} {n : Nat} {res : am_O × am_M} (h1 : ¬ (10 ≤ (i3 x1))) (h2 : x1 < 10) (h3 : (M 59 0 x1) ≤ 0) (k : rX10_goOn n 2 [.inr (10, 0), .inl (.int (i3 (x1 + 1)))] [] M = some res) : rX10_goOn (n + 100) 2 [.inr (10, 0), .inl (.int (i3 x1))] [] M = some res := by
  refine eX10_goOn_2 ?_
  refine iq h1 ?_
  refine ip (i3_in' h2 (by decide)) ?_
  try rw [ixm h2 (by decide)]
  refine ip h3 ?_
  rw [i3_one]
  exact k
theorem qX10_goOn_2_2 {x1 : Nat} {M : am_M} {n : Nat} {res : am_O × am_M} (h1 : ¬ (10 ≤ (i3 x1))) (h2 : x1 < 10) (h3 : ¬ ((M 59 0 x1) ≤ 0)) (k : rX10_goOn n 2 [.inr (10, 0), .inl (.int (i3 (x1 + 1)))] [] (am_put M 59 0 x1 ((M 59 0 x1) - 1)) = some res) : rX10_goOn (n + 100) 2 [.inr (10, 0), .inl (.int (i3 x1))] [] M = some res := by
  refine eX10_goOn_2 ?_
  refine iq h1 ?_
  refine ip (i3_in' h2 (by decide)) ?_
  try rw [ixm h2 (by decide)]
  refine iq h3 ?_
  refine ip (i3_in' h2 (by decide)) ?_
  try rw [ixm h2 (by decide)]
  refine ip (i3_in' h2 (by decide)) ?_
  try rw [ixm h2 (by decide)]
  rw [i3_one]
  exact k
theorem qX10_goOn_35_0 {x1 : Nat} {M : am_M} {n : Nat} (h1 : (M 10 0 14) ≤ (i3 x1)) : rX10_goOn (n + 100) 35 [.inr (10, 0), .inl (.int (i3 x1))] [] M = am_rV M := by
  refine eX10_goOn_35 ?_
  refine ip h1 ?_
  all_goals rfl
theorem qX10_goOn_35_1 {x1 : Nat} {M : am_M} {n : Nat} {res : am_O × am_M} (h1 : ¬ ((M 10 0 14) ≤ (i3 x1))) (h2 : x1 < 40) (h3 : (M 48 0 x1) = 1) (k : rX10_goOn n 35 [.inr (10, 0), .inl (.int (i3 (x1 + 1)))] [] (am_put M 52 0 x1 ((M 52 0 x1) + 1)) = some res) : rX10_goOn (n + 100) 35 [.inr (10, 0), .inl (.int (i3 x1))] [] M = some res := by
  refine eX10_goOn_35 ?_
  refine iq h1 ?_
  refine ip (i3_in' h2 (by decide)) ?_
  try rw [ixm h2 (by decide)]
  refine ip h3 ?_
  refine ip (i3_in' h2 (by decide)) ?_
  try rw [ixm h2 (by decide)]
  refine ip (i3_in' h2 (by decide)) ?_
  try rw [ixm h2 (by decide)]
  rw [i3_one]
  exact k
theorem qX10_goOn_35_2 {x1 : Nat} {M : am_M} {n : Nat} {res : am_O × am_M} (h1 : ¬ ((M 10 0 14) ≤ (i3 x1))) (h2 : x1 < 40) (h3 : ¬ ((M 48 0 x1) = 1)) (k : rX10_goOn n 35 [.inr (10, 0), .inl (.int (i3 (x1 + 1)))] [] M = some res) : rX10_goOn (n + 100) 35 [.inr (10, 0), .inl (.int (i3 x1))] [] M = some res := by
  refine eX10_goOn_35 ?_
  refine iq h1 ?_
  refine ip (i3_in' h2 (by decide)) ?_
  try rw [ixm h2 (by decide)]
  refine iq h3 ?_
  rw [i3_one]
  exact k
