/-! ===== the ways through the methods ===== -/
theorem qX9_isOrdered_0 {x1 : Int32} {M : am_M} {res : am_O × am_M} (k : rX9_isOrdered 99900 2 [.inr (9, 0), .inl (.int x1), .inl (.int 0)] [] M = some res) : fX9_isOrdered [.inr (9, 0), .inl (.int x1)] M = some res := by
  rw [eX9_isOrdered]
  refine eX9_isOrdered_0 ?_
  exact k
theorem mX9_isOrdered {n m pc : Nat} {ls st : List am_V} {M : am_M} {res : am_O × am_M} (h : rX9_isOrdered n pc ls st M = some res) (hm : n ≤ m) : rX9_isOrdered m pc ls st M = some res := by
  have h2 := am_run_mono_add h (m - n)
  rw [show n + (m - n) = m by omega] at h2
  exact h2
theorem qX9_isOrdered_2_0 {x1 : Int32} {x2 : Nat} {M : am_M} {n : Nat} (h1 : (M 9 0 7) ≤ (i3 x2)) : rX9_isOrdered (n + 100) 2 [.inr (9, 0), .inl (.int x1), .inl (.int (i3 x2))] [] M = am_rI 0 M := by
  refine eX9_isOrdered_2 ?_
  refine ip h1 ?_
  all_goals rfl
theorem qX9_isOrdered_2_1 {x1 : Int32} {x2 : Nat} {M : am_M} {n : Nat} {res : am_O × am_M} (h1 : ¬ ((M 9 0 7) ≤ (i3 x2))) (h2 : x2 < 40) (h3 : ¬ ((M 4 x2 3) = 0 ∨ (M 4 x2 3) = 1)) (k : rX9_isOrdered n 2 [.inr (9, 0), .inl (.int x1), .inl (.int (i3 (x2 + 1)))] [] M = some res) : rX9_isOrdered (n + 200) 2 [.inr (9, 0), .inl (.int x1), .inl (.int (i3 x2))] [] M = some res := by
  refine eX9_isOrdered_2 ?_
  refine iq h1 ?_
  refine ip (i3_in' h2 (by decide)) ?_
  try rw [ixm h2 (by decide)]
  refine ri (sX4_isOpen _ _) ?_
  refine eX9_isOrdered_19 ?_
  refine ip (bi_f h3) ?_
  rw [i3_one]
  exact k
theorem qX9_isOrdered_2_2 {x1 : Int32} {x2 : Nat} {M : am_M} {n : Nat} (h1 : ¬ ((M 9 0 7) ≤ (i3 x2))) (h2 : x2 < 40) (h3 : (M 4 x2 3) = 0 ∨ (M 4 x2 3) = 1) (h4 : (M 4 x2 1) = x1) : rX9_isOrdered (n + 200) 2 [.inr (9, 0), .inl (.int x1), .inl (.int (i3 x2))] [] M = am_rI 1 M := by
  refine eX9_isOrdered_2 ?_
  refine iq h1 ?_
  refine ip (i3_in' h2 (by decide)) ?_
  try rw [ixm h2 (by decide)]
  refine ri (sX4_isOpen _ _) ?_
  refine eX9_isOrdered_19 ?_
  refine iq (fun e => bi_0.mp e h3) ?_
  refine ip (i3_in' h2 (by decide)) ?_
  try rw [ixm h2 (by decide)]
  refine ip h4 ?_
  all_goals rfl
theorem qX9_isOrdered_2_3 {x1 : Int32} {x2 : Nat} {M : am_M} {n : Nat} {res : am_O × am_M} (h1 : ¬ ((M 9 0 7) ≤ (i3 x2))) (h2 : x2 < 40) (h3 : (M 4 x2 3) = 0 ∨ (M 4 x2 3) = 1) (h4 : ¬ ((M 4 x2 1) = x1)) (k : rX9_isOrdered n 2 [.inr (9, 0), .inl (.int x1), .inl (.int (i3 (x2 + 1)))] [] M = some res) : rX9_isOrdered (n + 200) 2 [.inr (9, 0), .inl (.int x1), .inl (.int (i3 x2))] [] M = some res := by
  refine eX9_isOrdered_2 ?_
  refine iq h1 ?_
  refine ip (i3_in' h2 (by decide)) ?_
  try rw [ixm h2 (by decide)]
  refine ri (sX4_isOpen _ _) ?_
  refine eX9_isOrdered_19 ?_
  refine iq (fun e => bi_0.mp e h3) ?_
  refine ip (i3_in' h2 (by decide)) ?_
  try rw [ixm h2 (by decide)]
  refine iq h4 ?_
  rw [i3_one]
  exact k
theorem qX10_pending_0 {x1 : Int32} {M : am_M} {res : am_O × am_M} (k : rX10_pending 99900 2 [.inr (10, 0), .inl (.int x1), .inl (.int 0)] [] M = some res) : fX10_pending [.inr (10, 0), .inl (.int x1)] M = some res := by
  rw [eX10_pending]
  refine eX10_pending_0 ?_
  exact k
theorem mX10_pending {n m pc : Nat} {ls st : List am_V} {M : am_M} {res : am_O × am_M} (h : rX10_pending n pc ls st M = some res) (hm : n ≤ m) : rX10_pending m pc ls st M = some res := by
  have h2 := am_run_mono_add h (m - n)
  rw [show n + (m - n) = m by omega] at h2
  exact h2
theorem qX10_pending_2_0 {x1 : Int32} {x2 : Nat} {M : am_M} {n : Nat} (h1 : (M 10 0 14) ≤ (i3 x2)) : rX10_pending (n + 100) 2 [.inr (10, 0), .inl (.int x1), .inl (.int (i3 x2))] [] M = am_rI 0 M := by
  refine eX10_pending_2 ?_
  refine ip h1 ?_
  all_goals rfl
theorem qX10_pending_2_1 {x1 : Int32} {x2 : Nat} {M : am_M} {n : Nat} {res : am_O × am_M} (h1 : ¬ ((M 10 0 14) ≤ (i3 x2))) (h2 : x2 < 40) (h3 : (M 46 0 x2) = x1) (h4 : 1 < (M 48 0 x2)) (k : rX10_pending n 2 [.inr (10, 0), .inl (.int x1), .inl (.int (i3 (x2 + 1)))] [] M = some res) : rX10_pending (n + 100) 2 [.inr (10, 0), .inl (.int x1), .inl (.int (i3 x2))] [] M = some res := by
  refine eX10_pending_2 ?_
  refine iq h1 ?_
  refine ip (i3_in' h2 (by decide)) ?_
  try rw [ixm h2 (by decide)]
  refine ip h3 ?_
  refine ip (i3_in' h2 (by decide)) ?_
  try rw [ixm h2 (by decide)]
  refine ip h4 ?_
  rw [i3_one]
  exact k
theorem qX10_pending_2_2 {x1 : Int32} {x2 : Nat} {M : am_M} {n : Nat} (h1 : ¬ ((M 10 0 14) ≤ (i3 x2))) (h2 : x2 < 40) (h3 : (M 46 0 x2) = x1) (h4 : ¬ (1 < (M 48 0 x2))) : rX10_pending (n + 100) 2 [.inr (10, 0), .inl (.int x1), .inl (.int (i3 x2))] [] M = am_rI 1 M := by
  refine eX10_pending_2 ?_
  refine iq h1 ?_
  refine ip (i3_in' h2 (by decide)) ?_
  try rw [ixm h2 (by decide)]
  refine ip h3 ?_
  refine ip (i3_in' h2 (by decide)) ?_
  try rw [ixm h2 (by decide)]
  refine iq h4 ?_
  all_goals rfl
theorem qX10_pending_2_3 {x1 : Int32} {x2 : Nat} {M : am_M} {n : Nat} {res : am_O × am_M} (h1 : ¬ ((M 10 0 14) ≤ (i3 x2))) (h2 : x2 < 40) (h3 : ¬ ((M 46 0 x2) = x1)) (k : rX10_pending n 2 [.inr (10, 0), .inl (.int x1), .inl (.int (i3 (x2 + 1)))] [] M = some res) : rX10_pending (n + 100) 2 [.inr (10, 0), .inl (.int x1), .inl (.int (i3 x2))] [] M = some res := by
  refine eX10_pending_2 ?_
  refine iq h1 ?_
  refine ip (i3_in' h2 (by decide)) ?_
  try rw [ixm h2 (by decide)]
  refine iq h3 ?_
  rw [i3_one]
  exact k
theorem qX9_isAwaited_0 {x1 : Int32} {M : am_M} {res : am_O × am_M} (k : rX9_isAwaited 99900 2 [.inr (9, 0), .inl (.int x1), .inl (.int 0)] [] M = some res) : fX9_isAwaited [.inr (9, 0), .inl (.int x1)] M = some res := by
  rw [eX9_isAwaited]
  refine eX9_isAwaited_0 ?_
  exact k
theorem mX9_isAwaited {n m pc : Nat} {ls st : List am_V} {M : am_M} {res : am_O × am_M} (h : rX9_isAwaited n pc ls st M = some res) (hm : n ≤ m) : rX9_isAwaited m pc ls st M = some res := by
  have h2 := am_run_mono_add h (m - n)
  rw [show n + (m - n) = m by omega] at h2
  exact h2
theorem qX9_isAwaited_2_0 {x1 : Int32} {x2 : Nat} {M : am_M} {n : Nat} (h1 : (M 9 0 7) ≤ (i3 x2)) : rX9_isAwaited (n + 100) 2 [.inr (9, 0), .inl (.int x1), .inl (.int (i3 x2))] [] M = am_rI 0 M := by
  refine eX9_isAwaited_2 ?_
  refine ip h1 ?_
  all_goals rfl
theorem qX9_isAwaited_2_1 {x1 : Int32} {x2 : Nat} {M : am_M} {n : Nat} {res : am_O × am_M} (h1 : ¬ ((M 9 0 7) ≤ (i3 x2))) (h2 : x2 < 40) (h3 : ¬ ((M 4 x2 3) = 0 ∨ (M 4 x2 3) = 1)) (k : rX9_isAwaited n 2 [.inr (9, 0), .inl (.int x1), .inl (.int (i3 (x2 + 1)))] [] M = some res) : rX9_isAwaited (n + 200) 2 [.inr (9, 0), .inl (.int x1), .inl (.int (i3 x2))] [] M = some res := by
  refine eX9_isAwaited_2 ?_
  refine iq h1 ?_
  refine ip (i3_in' h2 (by decide)) ?_
  try rw [ixm h2 (by decide)]
  refine ri (sX4_isOpen _ _) ?_
  refine eX9_isAwaited_19 ?_
  refine ip (bi_f h3) ?_
  rw [i3_one]
  exact k
theorem qX9_isAwaited_2_2 {x1 : Int32} {x2 : Nat} {M : am_M} {n : Nat} (h1 : ¬ ((M 9 0 7) ≤ (i3 x2))) (h2 : x2 < 40) (h3 : (M 4 x2 3) = 0 ∨ (M 4 x2 3) = 1) (h4 : (M 4 x2 0) = x1) : rX9_isAwaited (n + 200) 2 [.inr (9, 0), .inl (.int x1), .inl (.int (i3 x2))] [] M = am_rI 1 M := by
  refine eX9_isAwaited_2 ?_
  refine iq h1 ?_
  refine ip (i3_in' h2 (by decide)) ?_
  try rw [ixm h2 (by decide)]
  refine ri (sX4_isOpen _ _) ?_
  refine eX9_isAwaited_19 ?_
  refine iq (fun e => bi_0.mp e h3) ?_
  refine ip (i3_in' h2 (by decide)) ?_
  try rw [ixm h2 (by decide)]
  refine ip h4 ?_
  all_goals rfl
theorem qX9_isAwaited_2_3 {x1 : Int32} {x2 : Nat} {M : am_M} {n : Nat} {res : am_O × am_M} (h1 : ¬ ((M 9 0 7) ≤ (i3 x2))) (h2 : x2 < 40) (h3 : (M 4 x2 3) = 0 ∨ (M 4 x2 3) = 1) (h4 : ¬ ((M 4 x2 0) = x1)) (k : rX9_isAwaited n 2 [.inr (9, 0), .inl (.int x1), .inl (.int (i3 (x2 + 1)))] [] M = some res) : rX9_isAwaited (n + 200) 2 [.inr (9, 0), .inl (.int x1), .inl (.int (i3 x2))] [] M = some res := by
  refine eX9_isAwaited_2 ?_
  refine iq h1 ?_
  refine ip (i3_in' h2 (by decide)) ?_
  try rw [ixm h2 (by decide)]
  refine ri (sX4_isOpen _ _) ?_
  refine eX9_isAwaited_19 ?_
  refine iq (fun e => bi_0.mp e h3) ?_
  refine ip (i3_in' h2 (by decide)) ?_
  try rw [ixm h2 (by decide)]
  refine iq h4 ?_
  rw [i3_one]
  exact k
theorem qX9_slotOf_0 {x1 : Int32} {M : am_M} {res : am_O × am_M} (k : rX9_slotOf 99900 2 [.inr (9, 0), .inl (.int x1), .inl (.int 0)] [] M = some res) : fX9_slotOf [.inr (9, 0), .inl (.int x1)] M = some res := by
  rw [eX9_slotOf]
  refine eX9_slotOf_0 ?_
  exact k
theorem mX9_slotOf {n m pc : Nat} {ls st : List am_V} {M : am_M} {res : am_O × am_M} (h : rX9_slotOf n pc ls st M = some res) (hm : n ≤ m) : rX9_slotOf m pc ls st M = some res := by
  have h2 := am_run_mono_add h (m - n)
  rw [show n + (m - n) = m by omega] at h2
  exact h2
theorem qX9_slotOf_2_0 {x1 : Int32} {x2 : Nat} {M : am_M} {n : Nat} (h1 : 6 ≤ (i3 x2)) : rX9_slotOf (n + 100) 2 [.inr (9, 0), .inl (.int x1), .inl (.int (i3 x2))] [] M = am_rI (-1) M := by
  refine eX9_slotOf_2 ?_
  refine ip h1 ?_
  all_goals rfl
theorem qX9_slotOf_2_1 {x1 : Int32} {x2 : Nat} {M : am_M} {n : Nat} (h1 : ¬ (6 ≤ (i3 x2))) (h2 : x2 < 6) (h3 : (M 8 x2 0) = x1) : rX9_slotOf (n + 100) 2 [.inr (9, 0), .inl (.int x1), .inl (.int (i3 x2))] [] M = am_rI (i3 x2) M := by
  refine eX9_slotOf_2 ?_
  refine iq h1 ?_
  refine ip (i3_in' h2 (by decide)) ?_
  try rw [ixm h2 (by decide)]
  refine ip h3 ?_
  all_goals rfl
theorem qX9_slotOf_2_2 {x1 : Int32} {x2 : Nat} {M : am_M} {n : Nat} {res : am_O × am_M} (h1 : ¬ (6 ≤ (i3 x2))) (h2 : x2 < 6) (h3 : ¬ ((M 8 x2 0) = x1)) (k : rX9_slotOf n 2 [.inr (9, 0), .inl (.int x1), .inl (.int (i3 (x2 + 1)))] [] M = some res) : rX9_slotOf (n + 100) 2 [.inr (9, 0), .inl (.int x1), .inl (.int (i3 x2))] [] M = some res := by
  refine eX9_slotOf_2 ?_
  refine iq h1 ?_
  refine ip (i3_in' h2 (by decide)) ?_
  try rw [ixm h2 (by decide)]
  refine iq h3 ?_
  rw [i3_one]
  exact k
theorem qX10_slotOf_0 {x1 : Int32} {M : am_M} {res : am_O × am_M} (k : rX10_slotOf 99900 2 [.inr (10, 0), .inl (.int x1), .inl (.int 0)] [] M = some res) : fX10_slotOf [.inr (10, 0), .inl (.int x1)] M = some res := by
  rw [eX10_slotOf]
  refine eX10_slotOf_0 ?_
  exact k
theorem mX10_slotOf {n m pc : Nat} {ls st : List am_V} {M : am_M} {res : am_O × am_M} (h : rX10_slotOf n pc ls st M = some res) (hm : n ≤ m) : rX10_slotOf m pc ls st M = some res := by
  have h2 := am_run_mono_add h (m - n)
  rw [show n + (m - n) = m by omega] at h2
  exact h2
theorem qX10_slotOf_2_0 {x1 : Int32} {x2 : Nat} {M : am_M} {n : Nat} (h1 : 6 ≤ (i3 x2)) : rX10_slotOf (n + 100) 2 [.inr (10, 0), .inl (.int x1), .inl (.int (i3 x2))] [] M = am_rI (-1) M := by
  refine eX10_slotOf_2 ?_
  refine ip h1 ?_
  all_goals rfl
theorem qX10_slotOf_2_1 {x1 : Int32} {x2 : Nat} {M : am_M} {n : Nat} (h1 : ¬ (6 ≤ (i3 x2))) (h2 : x2 < 6) (h3 : (M 37 0 x2) = x1) : rX10_slotOf (n + 100) 2 [.inr (10, 0), .inl (.int x1), .inl (.int (i3 x2))] [] M = am_rI (i3 x2) M := by
  refine eX10_slotOf_2 ?_
  refine iq h1 ?_
  refine ip (i3_in' h2 (by decide)) ?_
  try rw [ixm h2 (by decide)]
  refine ip h3 ?_
  all_goals rfl
theorem qX10_slotOf_2_2 {x1 : Int32} {x2 : Nat} {M : am_M} {n : Nat} {res : am_O × am_M} (h1 : ¬ (6 ≤ (i3 x2))) (h2 : x2 < 6) (h3 : ¬ ((M 37 0 x2) = x1)) (k : rX10_slotOf n 2 [.inr (10, 0), .inl (.int x1), .inl (.int (i3 (x2 + 1)))] [] M = some res) : rX10_slotOf (n + 100) 2 [.inr (10, 0), .inl (.int x1), .inl (.int (i3 x2))] [] M = some res := by
  refine eX10_slotOf_2 ?_
  refine iq h1 ?_
  refine ip (i3_in' h2 (by decide)) ?_
  try rw [ixm h2 (by decide)]
  refine iq h3 ?_
  rw [i3_one]
  exact k
theorem qX10_reserved_0 {x1 : Int32} {M : am_M} {res : am_O × am_M} (k : rX10_reserved 99900 4 [.inr (10, 0), .inl (.int x1), .inl (.int 0), .inl (.int 0)] [] M = some res) : fX10_reserved [.inr (10, 0), .inl (.int x1)] M = some res := by
  rw [eX10_reserved]
  refine eX10_reserved_0 ?_
  exact k
theorem mX10_reserved {n m pc : Nat} {ls st : List am_V} {M : am_M} {res : am_O × am_M} (h : rX10_reserved n pc ls st M = some res) (hm : n ≤ m) : rX10_reserved m pc ls st M = some res := by
  have h2 := am_run_mono_add h (m - n)
  rw [show n + (m - n) = m by omega] at h2
  exact h2
theorem qX10_reserved_4_0 {x1 : Int32} {x2 : Int32} {x3 : Nat} {M : am_M} {n : Nat} (h1 : (M 10 0 36) ≤ (i3 x3)) : rX10_reserved (n + 100) 4 [.inr (10, 0), .inl (.int x1), .inl (.int x2), .inl (.int (i3 x3))] [] M = am_rI x2 M := by
  refine eX10_reserved_4 ?_
  refine ip h1 ?_
  all_goals rfl
theorem qX10_reserved_4_1 {x1 : Int32} {x2 : Int32} {x3 : Nat} {M : am_M} {n : Nat} {res : am_O × am_M} (h1 : ¬ ((M 10 0 36) ≤ (i3 x3))) (h2 : x3 < 24) (h3 : (M 63 0 x3) = x1) (k : rX10_reserved n 4 [.inr (10, 0), .inl (.int x1), .inl (.int (x2 + (M 64 0 x3))), .inl (.int (i3 (x3 + 1)))] [] M = some res) : rX10_reserved (n + 100) 4 [.inr (10, 0), .inl (.int x1), .inl (.int x2), .inl (.int (i3 x3))] [] M = some res := by
  refine eX10_reserved_4 ?_
  refine iq h1 ?_
  refine ip (i3_in' h2 (by decide)) ?_
  try rw [ixm h2 (by decide)]
  refine ip h3 ?_
  refine ip (i3_in' h2 (by decide)) ?_
  try rw [ixm h2 (by decide)]
  rw [i3_one]
  exact k
theorem qX10_reserved_4_2 {x1 : Int32} {x2 : Int32} {x3 : Nat} {M : am_M} {n : Nat} {res : am_O × am_M} (h1 : ¬ ((M 10 0 36) ≤ (i3 x3))) (h2 : x3 < 24) (h3 : ¬ ((M 63 0 x3) = x1)) (k : rX10_reserved n 4 [.inr (10, 0), .inl (.int x1), .inl (.int x2), .inl (.int (i3 (x3 + 1)))] [] M = some res) : rX10_reserved (n + 100) 4 [.inr (10, 0), .inl (.int x1), .inl (.int x2), .inl (.int (i3 x3))] [] M = some res := by
  refine eX10_reserved_4 ?_
  refine iq h1 ?_
  refine ip (i3_in' h2 (by decide)) ?_
  try rw [ixm h2 (by decide)]
  refine iq h3 ?_
  rw [i3_one]
  exact k
theorem qX9_clock_0 {x1 : Int32} {M : am_M} (h1 : x1 < (M 9 0 8)) : fX9_clock [.inr (9, 0), .inl (.int x1)] M = am_rE "java/lang/IllegalArgumentException" M := by
  rw [eX9_clock]
  refine eX9_clock_0 ?_
  refine ip h1 ?_
  exact re rfl
theorem qX9_clock_1 {x1 : Int32} {M : am_M} (h1 : ¬ (x1 < (M 9 0 8))) : fX9_clock [.inr (9, 0), .inl (.int x1)] M = am_rV (am_put M 9 0 8 x1) := by
  rw [eX9_clock]
  refine eX9_clock_0 ?_
  refine iq h1 ?_
  refine rv rfl ?_
  refine eX9_clock_16 ?_
  all_goals rfl
theorem qX10_clock_0 {x1 : Int32} {M : am_M} (h1 : (M 10 0 41) ≤ x1) : fX10_clock [.inr (10, 0), .inl (.int x1)] M = am_rV (am_put (am_put M 10 0 45 0) 10 0 41 x1) := by
  rw [eX10_clock]
  refine eX10_clock_0 ?_
  refine ip h1 ?_
  all_goals rfl
theorem qX10_clock_1 {x1 : Int32} {M : am_M} (h1 : ¬ ((M 10 0 41) ≤ x1)) : fX10_clock [.inr (10, 0), .inl (.int x1)] M = am_rV (am_put M 10 0 45 1) := by
  rw [eX10_clock]
  refine eX10_clock_0 ?_
  refine iq h1 ?_
  all_goals rfl
theorem qL_clock_0 {x1 : Int32} {M : am_M} {M1 : am_M} (h1 : fX9_clock [.inr (9, 0), .inl (.int x1)] M = am_rE "java/lang/IllegalArgumentException" M1) : fL_clock [.inr (9, 0), .inl (.int x1)] M = am_rI 1 M1 := by
  rw [eL_clock]
  refine eL_clock_0 ?_
  exact rh h1 rfl
theorem qL_clock_1 {x1 : Int32} {M : am_M} {M1 : am_M} (h1 : fX9_clock [.inr (9, 0), .inl (.int x1)] M = am_rV M1) : fL_clock [.inr (9, 0), .inl (.int x1)] M = am_rI 0 M1 := by
  rw [eL_clock]
  refine eL_clock_0 ?_
  refine rv h1 ?_
  refine eL_clock_5 ?_
  all_goals rfl
theorem qX9_light_0 {x1 : Int32} {M : am_M} (h1 : ¬ (1 ≤ x1 ∧ x1 ≤ 65535)) : fX9_light [.inr (9, 0), .inl (.int x1)] M = am_rE "java/lang/IllegalArgumentException" M := by
  rw [eX9_light]
  refine eX9_light_0 ?_
  refine ri (sX9_isWithin _ _ _ _) ?_
  refine eX9_light_7 ?_
  exact re (if_pos (bi_f h1))
theorem qX9_light_1 {x1 : Int32} {M : am_M} (h1 : 1 ≤ x1 ∧ x1 ≤ 65535) : fX9_light [.inr (9, 0), .inl (.int x1)] M = am_rV (am_put M 9 0 9 x1) := by
  rw [eX9_light]
  refine eX9_light_0 ?_
  refine ri (sX9_isWithin _ _ _ _) ?_
  refine eX9_light_7 ?_
  refine rv (if_neg (fun e => bi_0.mp e h1)) ?_
  refine eX9_light_10 ?_
  all_goals rfl
theorem qX10_light_0 {x1 : Int32} {M : am_M} (h1 : ¬ (1 ≤ x1 ∧ x1 ≤ 65535)) : fX10_light [.inr (10, 0), .inl (.int x1)] M = am_rV (am_put M 10 0 45 1) := by
  rw [eX10_light]
  refine eX10_light_0 ?_
  refine ri (sX10_within _ _ _ _) ?_
  refine eX10_light_8 ?_
  refine ip (bi_f h1) ?_
  all_goals rfl
theorem qX10_light_1 {x1 : Int32} {M : am_M} (h1 : 1 ≤ x1 ∧ x1 ≤ 65535) : fX10_light [.inr (10, 0), .inl (.int x1)] M = am_rV (am_put (am_put M 10 0 45 0) 10 0 44 x1) := by
  rw [eX10_light]
  refine eX10_light_0 ?_
  refine ri (sX10_within _ _ _ _) ?_
  refine eX10_light_8 ?_
  refine iq (fun e => bi_0.mp e h1) ?_
  all_goals rfl
theorem qL_light_0 {x1 : Int32} {M : am_M} {M1 : am_M} (h1 : fX9_light [.inr (9, 0), .inl (.int x1)] M = am_rE "java/lang/IllegalArgumentException" M1) : fL_light [.inr (9, 0), .inl (.int x1)] M = am_rI 1 M1 := by
  rw [eL_light]
  refine eL_light_0 ?_
  exact rh h1 rfl
theorem qL_light_1 {x1 : Int32} {M : am_M} {M1 : am_M} (h1 : fX9_light [.inr (9, 0), .inl (.int x1)] M = am_rV M1) : fL_light [.inr (9, 0), .inl (.int x1)] M = am_rI 0 M1 := by
  rw [eL_light]
  refine eL_light_0 ?_
  refine rv h1 ?_
  refine eL_light_5 ?_
  all_goals rfl
theorem qX9_spoil_0 {x1 : Int32} {M : am_M} (h1 : ¬ (0 ≤ x1 ∧ x1 ≤ 1)) : fX9_spoil [.inr (9, 0), .inl (.int x1)] M = am_rE "java/lang/IllegalArgumentException" M := by
  rw [eX9_spoil]
  refine eX9_spoil_0 ?_
  refine ri (sX9_isWithin _ _ _ _) ?_
  refine eX9_spoil_6 ?_
  exact re (if_pos (bi_f h1))
theorem qX9_spoil_1 {x1 : Int32} {M : am_M} (h1 : 0 ≤ x1 ∧ x1 ≤ 1) (h2 : x1 = 0) : fX9_spoil [.inr (9, 0), .inl (.int x1)] M = am_rV (am_put M 9 0 10 1) := by
  rw [eX9_spoil]
  refine eX9_spoil_0 ?_
  refine ri (sX9_isWithin _ _ _ _) ?_
  refine eX9_spoil_6 ?_
  refine rv (if_neg (fun e => bi_0.mp e h1)) ?_
  refine eX9_spoil_9 ?_
  refine ip h2 ?_
  all_goals rfl
theorem qX9_spoil_2 {x1 : Int32} {M : am_M} (h1 : 0 ≤ x1 ∧ x1 ≤ 1) (h2 : ¬ (x1 = 0)) : fX9_spoil [.inr (9, 0), .inl (.int x1)] M = am_rV (am_put M 9 0 11 1) := by
  rw [eX9_spoil]
  refine eX9_spoil_0 ?_
  refine ri (sX9_isWithin _ _ _ _) ?_
  refine eX9_spoil_6 ?_
  refine rv (if_neg (fun e => bi_0.mp e h1)) ?_
  refine eX9_spoil_9 ?_
  refine iq h2 ?_
  all_goals rfl
theorem qX10_spoil_0 {x1 : Int32} {M : am_M} (h1 : ¬ (0 ≤ x1 ∧ x1 ≤ 1)) (h2 : x1 = 0) (h3 : x1 = 1) : fX10_spoil [.inr (10, 0), .inl (.int x1)] M = am_rV (am_put (am_put (am_put M 10 0 45 1) 10 0 46 1) 10 0 47 1) := by
  rw [eX10_spoil]
  refine eX10_spoil_0 ?_
  refine ri (sX10_within _ _ _ _) ?_
  refine eX10_spoil_7 ?_
  refine ip (bi_f h1) ?_
  refine ip h2 ?_
  refine ip h3 ?_
  all_goals rfl
theorem qX10_spoil_1 {x1 : Int32} {M : am_M} (h1 : ¬ (0 ≤ x1 ∧ x1 ≤ 1)) (h2 : x1 = 0) (h3 : ¬ (x1 = 1)) : fX10_spoil [.inr (10, 0), .inl (.int x1)] M = am_rV (am_put (am_put M 10 0 45 1) 10 0 46 1) := by
  rw [eX10_spoil]
  refine eX10_spoil_0 ?_
  refine ri (sX10_within _ _ _ _) ?_
  refine eX10_spoil_7 ?_
  refine ip (bi_f h1) ?_
  refine ip h2 ?_
  refine iq h3 ?_
  all_goals rfl
theorem qX10_spoil_2 {x1 : Int32} {M : am_M} (h1 : ¬ (0 ≤ x1 ∧ x1 ≤ 1)) (h2 : ¬ (x1 = 0)) (h3 : x1 = 1) : fX10_spoil [.inr (10, 0), .inl (.int x1)] M = am_rV (am_put (am_put M 10 0 45 1) 10 0 47 1) := by
  rw [eX10_spoil]
  refine eX10_spoil_0 ?_
  refine ri (sX10_within _ _ _ _) ?_
  refine eX10_spoil_7 ?_
  refine ip (bi_f h1) ?_
  refine iq h2 ?_
  refine ip h3 ?_
  all_goals rfl
theorem qX10_spoil_3 {x1 : Int32} {M : am_M} (h1 : ¬ (0 ≤ x1 ∧ x1 ≤ 1)) (h2 : ¬ (x1 = 0)) (h3 : ¬ (x1 = 1)) : fX10_spoil [.inr (10, 0), .inl (.int x1)] M = am_rV (am_put M 10 0 45 1) := by
  rw [eX10_spoil]
  refine eX10_spoil_0 ?_
  refine ri (sX10_within _ _ _ _) ?_
  refine eX10_spoil_7 ?_
  refine ip (bi_f h1) ?_
  refine iq h2 ?_
  refine iq h3 ?_
  all_goals rfl
theorem qX10_spoil_4 {x1 : Int32} {M : am_M} (h1 : 0 ≤ x1 ∧ x1 ≤ 1) (h2 : x1 = 0) (h3 : x1 = 1) : fX10_spoil [.inr (10, 0), .inl (.int x1)] M = am_rV (am_put (am_put (am_put M 10 0 45 0) 10 0 46 1) 10 0 47 1) := by
  rw [eX10_spoil]
  refine eX10_spoil_0 ?_
  refine ri (sX10_within _ _ _ _) ?_
  refine eX10_spoil_7 ?_
  refine iq (fun e => bi_0.mp e h1) ?_
  refine ip h2 ?_
  refine ip h3 ?_
  all_goals rfl
theorem qX10_spoil_5 {x1 : Int32} {M : am_M} (h1 : 0 ≤ x1 ∧ x1 ≤ 1) (h2 : x1 = 0) (h3 : ¬ (x1 = 1)) : fX10_spoil [.inr (10, 0), .inl (.int x1)] M = am_rV (am_put (am_put M 10 0 45 0) 10 0 46 1) := by
  rw [eX10_spoil]
  refine eX10_spoil_0 ?_
  refine ri (sX10_within _ _ _ _) ?_
  refine eX10_spoil_7 ?_
  refine iq (fun e => bi_0.mp e h1) ?_
  refine ip h2 ?_
  refine iq h3 ?_
  all_goals rfl
theorem qX10_spoil_6 {x1 : Int32} {M : am_M} (h1 : 0 ≤ x1 ∧ x1 ≤ 1) (h2 : ¬ (x1 = 0)) (h3 : x1 = 1) : fX10_spoil [.inr (10, 0), .inl (.int x1)] M = am_rV (am_put (am_put M 10 0 45 0) 10 0 47 1) := by
  rw [eX10_spoil]
  refine eX10_spoil_0 ?_
  refine ri (sX10_within _ _ _ _) ?_
  refine eX10_spoil_7 ?_
  refine iq (fun e => bi_0.mp e h1) ?_
  refine iq h2 ?_
  refine ip h3 ?_
  all_goals rfl
theorem qX10_spoil_7 {x1 : Int32} {M : am_M} (h1 : 0 ≤ x1 ∧ x1 ≤ 1) (h2 : ¬ (x1 = 0)) (h3 : ¬ (x1 = 1)) : fX10_spoil [.inr (10, 0), .inl (.int x1)] M = am_rV (am_put M 10 0 45 0) := by
  rw [eX10_spoil]
  refine eX10_spoil_0 ?_
  refine ri (sX10_within _ _ _ _) ?_
  refine eX10_spoil_7 ?_
  refine iq (fun e => bi_0.mp e h1) ?_
  refine iq h2 ?_
  refine iq h3 ?_
  all_goals rfl
theorem qL_spoil_0 {x1 : Int32} {M : am_M} {M1 : am_M} (h1 : fX9_spoil [.inr (9, 0), .inl (.int x1)] M = am_rE "java/lang/IllegalArgumentException" M1) : fL_spoil [.inr (9, 0), .inl (.int x1)] M = am_rI 1 M1 := by
  rw [eL_spoil]
  refine eL_spoil_0 ?_
  exact rh h1 rfl
theorem qL_spoil_1 {x1 : Int32} {M : am_M} {M1 : am_M} (h1 : fX9_spoil [.inr (9, 0), .inl (.int x1)] M = am_rV M1) : fL_spoil [.inr (9, 0), .inl (.int x1)] M = am_rI 0 M1 := by
  rw [eL_spoil]
  refine eL_spoil_0 ?_
  refine rv h1 ?_
  refine eL_spoil_5 ?_
  all_goals rfl
theorem qX9_idle_0 {M : am_M} : fX9_idle [.inr (9, 0)] M = am_rI (M 9 0 12) M := by
  rw [eX9_idle]
  refine eX9_idle_0 ?_
  all_goals rfl
theorem qX10_idle_0 {M : am_M} : fX10_idle [.inr (10, 0)] M = am_rI (M 10 0 43) (am_put M 10 0 45 0) := by
  rw [eX10_idle]
  refine eX10_idle_0 ?_
  all_goals rfl
theorem qX9_rack_0 {x1 : Int32} {x2 : Int32} {x3 : Int32} {x4 : Int32} {M : am_M} (h1 : ¬ (0 ≤ x1 ∧ x1 ≤ 5)) : fX9_rack [.inr (9, 0), .inl (.int x1), .inl (.int x2), .inl (.int x3), .inl (.int x4)] M = am_rE "java/lang/IllegalArgumentException" M := by
  rw [eX9_rack]
  refine eX9_rack_0 ?_
  refine ri (sX9_isWithin _ _ _ _) ?_
  refine eX9_rack_6 ?_
  refine ip (bi_f h1) ?_
  exact re rfl
theorem qX9_rack_1 {x1 : Int32} {x2 : Int32} {x3 : Int32} {x4 : Int32} {M : am_M} (h1 : 0 ≤ x1 ∧ x1 ≤ 5) (h2 : ¬ (1 ≤ x2 ∧ x2 ≤ 999999)) : fX9_rack [.inr (9, 0), .inl (.int x1), .inl (.int x2), .inl (.int x3), .inl (.int x4)] M = am_rE "java/lang/IllegalArgumentException" M := by
  rw [eX9_rack]
  refine eX9_rack_0 ?_
  refine ri (sX9_isWithin _ _ _ _) ?_
  refine eX9_rack_6 ?_
  refine iq (fun e => bi_0.mp e h1) ?_
  refine ri (sX9_isWithin _ _ _ _) ?_
  refine eX9_rack_16 ?_
  refine ip (bi_f h2) ?_
  exact re rfl
theorem qX9_rack_2 {x1 : Int32} {x2 : Int32} {x3 : Int32} {x4 : Int32} {M : am_M} (h1 : 0 ≤ x1 ∧ x1 ≤ 5) (h2 : 1 ≤ x2 ∧ x2 ≤ 999999) (h3 : ¬ (0 ≤ x3 ∧ x3 ≤ 1)) : fX9_rack [.inr (9, 0), .inl (.int x1), .inl (.int x2), .inl (.int x3), .inl (.int x4)] M = am_rE "java/lang/IllegalArgumentException" M := by
  rw [eX9_rack]
  refine eX9_rack_0 ?_
  refine ri (sX9_isWithin _ _ _ _) ?_
  refine eX9_rack_6 ?_
  refine iq (fun e => bi_0.mp e h1) ?_
  refine ri (sX9_isWithin _ _ _ _) ?_
  refine eX9_rack_16 ?_
  refine iq (fun e => bi_0.mp e h2) ?_
  refine rv rfl ?_
  refine eX9_rack_27 ?_
  refine ri (sX9_isWithin _ _ _ _) ?_
  refine eX9_rack_33 ?_
  refine ip (bi_f h3) ?_
  exact re rfl
theorem qX9_rack_3 {x1 : Int32} {x2 : Int32} {x3 : Int32} {x4 : Int32} {M : am_M} (h1 : 0 ≤ x1 ∧ x1 ≤ 5) (h2 : 1 ≤ x2 ∧ x2 ≤ 999999) (h3 : 0 ≤ x3 ∧ x3 ≤ 1) (h4 : ¬ (0 ≤ x4 ∧ x4 ≤ 100000)) : fX9_rack [.inr (9, 0), .inl (.int x1), .inl (.int x2), .inl (.int x3), .inl (.int x4)] M = am_rE "java/lang/IllegalArgumentException" M := by
  rw [eX9_rack]
  refine eX9_rack_0 ?_
  refine ri (sX9_isWithin _ _ _ _) ?_
  refine eX9_rack_6 ?_
  refine iq (fun e => bi_0.mp e h1) ?_
  refine ri (sX9_isWithin _ _ _ _) ?_
  refine eX9_rack_16 ?_
  refine iq (fun e => bi_0.mp e h2) ?_
  refine rv rfl ?_
  refine eX9_rack_27 ?_
  refine ri (sX9_isWithin _ _ _ _) ?_
  refine eX9_rack_33 ?_
  refine iq (fun e => bi_0.mp e h3) ?_
  refine ri (sX9_isWithin _ _ _ _) ?_
  refine eX9_rack_44 ?_
  refine ip (bi_f h4) ?_
  exact re rfl
theorem qX9_rack_4 {x1 : Int32} {x2 : Int32} {x3 : Int32} {x4 : Int32} {M : am_M} {j1 : Nat} (h1 : 0 ≤ x1 ∧ x1 ≤ 5) (h2 : 1 ≤ x2 ∧ x2 ≤ 999999) (h3 : 0 ≤ x3 ∧ x3 ≤ 1) (h4 : 0 ≤ x4 ∧ x4 ≤ 100000) (h5 : j1 < 6) (h6 : x1 = i3 j1) (h7 : ¬ ((M 8 j1 0) = -1)) : fX9_rack [.inr (9, 0), .inl (.int x1), .inl (.int x2), .inl (.int x3), .inl (.int x4)] M = am_rE "java/lang/IllegalStateException" M := by
  rw [eX9_rack]
  refine eX9_rack_0 ?_
  refine ri (sX9_isWithin _ _ _ _) ?_
  refine eX9_rack_6 ?_
  refine iq (fun e => bi_0.mp e h1) ?_
  refine ri (sX9_isWithin _ _ _ _) ?_
  refine eX9_rack_16 ?_
  refine iq (fun e => bi_0.mp e h2) ?_
  refine rv rfl ?_
  refine eX9_rack_27 ?_
  refine ri (sX9_isWithin _ _ _ _) ?_
  refine eX9_rack_33 ?_
  refine iq (fun e => bi_0.mp e h3) ?_
  refine ri (sX9_isWithin _ _ _ _) ?_
  refine eX9_rack_44 ?_
  refine iq (fun e => bi_0.mp e h4) ?_
  refine rv rfl ?_
  refine eX9_rack_55 ?_
  refine ip (ixi h6 h5 (by decide)) ?_
  try rw [ixn h6 h5 (by decide)]
  refine ri (sX8_isEmpty _ _) ?_
  refine eX9_rack_64 ?_
  refine ip (bi_f h7) ?_
  exact re rfl
theorem qX9_rack_5 {x1 : Int32} {x2 : Int32} {x3 : Int32} {x4 : Int32} {M : am_M} {j1 : Nat} {v2 : Int32} (h1 : 0 ≤ x1 ∧ x1 ≤ 5) (h2 : 1 ≤ x2 ∧ x2 ≤ 999999) (h3 : 0 ≤ x3 ∧ x3 ≤ 1) (h4 : 0 ≤ x4 ∧ x4 ≤ 100000) (h5 : j1 < 6) (h6 : x1 = i3 j1) (h7 : (M 8 j1 0) = -1) (h8 : fX9_slotOf [.inr (9, 0), .inl (.int x2)] M = am_rI v2 M) (h9 : v2 = (-1)) (h10 : x3 = 1) : fX9_rack [.inr (9, 0), .inl (.int x1), .inl (.int x2), .inl (.int x3), .inl (.int x4)] M = am_rV (am_put (am_put (am_put M 8 j1 0 x2) 8 j1 1 1) 8 j1 2 x4) := by
  rw [eX9_rack]
  refine eX9_rack_0 ?_
  refine ri (sX9_isWithin _ _ _ _) ?_
  refine eX9_rack_6 ?_
  refine iq (fun e => bi_0.mp e h1) ?_
  refine ri (sX9_isWithin _ _ _ _) ?_
  refine eX9_rack_16 ?_
  refine iq (fun e => bi_0.mp e h2) ?_
  refine rv rfl ?_
  refine eX9_rack_27 ?_
  refine ri (sX9_isWithin _ _ _ _) ?_
  refine eX9_rack_33 ?_
  refine iq (fun e => bi_0.mp e h3) ?_
  refine ri (sX9_isWithin _ _ _ _) ?_
  refine eX9_rack_44 ?_
  refine iq (fun e => bi_0.mp e h4) ?_
  refine rv rfl ?_
  refine eX9_rack_55 ?_
  refine ip (ixi h6 h5 (by decide)) ?_
  try rw [ixn h6 h5 (by decide)]
  refine ri (sX8_isEmpty _ _) ?_
  refine eX9_rack_64 ?_
  refine iq (fun e => bi_0.mp e h7) ?_
  refine ri h8 ?_
  refine eX9_rack_72 ?_
  refine ip h9 ?_
  refine rv rfl ?_
  refine eX9_rack_84 ?_
  refine ip (ixi h6 h5 (by decide)) ?_
  try rw [ixn h6 h5 (by decide)]
  refine ip h10 ?_
  all_goals rfl
theorem qX9_rack_6 {x1 : Int32} {x2 : Int32} {x3 : Int32} {x4 : Int32} {M : am_M} {j1 : Nat} {v2 : Int32} (h1 : 0 ≤ x1 ∧ x1 ≤ 5) (h2 : 1 ≤ x2 ∧ x2 ≤ 999999) (h3 : 0 ≤ x3 ∧ x3 ≤ 1) (h4 : 0 ≤ x4 ∧ x4 ≤ 100000) (h5 : j1 < 6) (h6 : x1 = i3 j1) (h7 : (M 8 j1 0) = -1) (h8 : fX9_slotOf [.inr (9, 0), .inl (.int x2)] M = am_rI v2 M) (h9 : v2 = (-1)) (h10 : ¬ (x3 = 1)) : fX9_rack [.inr (9, 0), .inl (.int x1), .inl (.int x2), .inl (.int x3), .inl (.int x4)] M = am_rV (am_put (am_put (am_put M 8 j1 0 x2) 8 j1 1 0) 8 j1 2 x4) := by
  rw [eX9_rack]
  refine eX9_rack_0 ?_
  refine ri (sX9_isWithin _ _ _ _) ?_
  refine eX9_rack_6 ?_
  refine iq (fun e => bi_0.mp e h1) ?_
  refine ri (sX9_isWithin _ _ _ _) ?_
  refine eX9_rack_16 ?_
  refine iq (fun e => bi_0.mp e h2) ?_
  refine rv rfl ?_
  refine eX9_rack_27 ?_
  refine ri (sX9_isWithin _ _ _ _) ?_
  refine eX9_rack_33 ?_
  refine iq (fun e => bi_0.mp e h3) ?_
  refine ri (sX9_isWithin _ _ _ _) ?_
  refine eX9_rack_44 ?_
  refine iq (fun e => bi_0.mp e h4) ?_
  refine rv rfl ?_
  refine eX9_rack_55 ?_
  refine ip (ixi h6 h5 (by decide)) ?_
  try rw [ixn h6 h5 (by decide)]
  refine ri (sX8_isEmpty _ _) ?_
  refine eX9_rack_64 ?_
  refine iq (fun e => bi_0.mp e h7) ?_
  refine ri h8 ?_
  refine eX9_rack_72 ?_
  refine ip h9 ?_
  refine rv rfl ?_
  refine eX9_rack_84 ?_
  refine ip (ixi h6 h5 (by decide)) ?_
  try rw [ixn h6 h5 (by decide)]
  refine iq h10 ?_
  all_goals rfl
theorem qX9_rack_7 {x1 : Int32} {x2 : Int32} {x3 : Int32} {x4 : Int32} {M : am_M} {j1 : Nat} {v2 : Int32} (h1 : 0 ≤ x1 ∧ x1 ≤ 5) (h2 : 1 ≤ x2 ∧ x2 ≤ 999999) (h3 : 0 ≤ x3 ∧ x3 ≤ 1) (h4 : 0 ≤ x4 ∧ x4 ≤ 100000) (h5 : j1 < 6) (h6 : x1 = i3 j1) (h7 : (M 8 j1 0) = -1) (h8 : fX9_slotOf [.inr (9, 0), .inl (.int x2)] M = am_rI v2 M) (h9 : ¬ (v2 = (-1))) : fX9_rack [.inr (9, 0), .inl (.int x1), .inl (.int x2), .inl (.int x3), .inl (.int x4)] M = am_rE "java/lang/IllegalStateException" M := by
  rw [eX9_rack]
  refine eX9_rack_0 ?_
  refine ri (sX9_isWithin _ _ _ _) ?_
  refine eX9_rack_6 ?_
  refine iq (fun e => bi_0.mp e h1) ?_
  refine ri (sX9_isWithin _ _ _ _) ?_
  refine eX9_rack_16 ?_
  refine iq (fun e => bi_0.mp e h2) ?_
  refine rv rfl ?_
  refine eX9_rack_27 ?_
  refine ri (sX9_isWithin _ _ _ _) ?_
  refine eX9_rack_33 ?_
  refine iq (fun e => bi_0.mp e h3) ?_
  refine ri (sX9_isWithin _ _ _ _) ?_
  refine eX9_rack_44 ?_
  refine iq (fun e => bi_0.mp e h4) ?_
  refine rv rfl ?_
  refine eX9_rack_55 ?_
  refine ip (ixi h6 h5 (by decide)) ?_
  try rw [ixn h6 h5 (by decide)]
  refine ri (sX8_isEmpty _ _) ?_
  refine eX9_rack_64 ?_
  refine iq (fun e => bi_0.mp e h7) ?_
  refine ri h8 ?_
  refine eX9_rack_72 ?_
  refine iq h9 ?_
  exact re rfl
theorem qX10_rack_0 {x1 : Int32} {x2 : Int32} {x3 : Int32} {x4 : Int32} {M : am_M} (h1 : ¬ (0 ≤ x1 ∧ x1 ≤ 5)) : fX10_rack [.inr (10, 0), .inl (.int x1), .inl (.int x2), .inl (.int x3), .inl (.int x4)] M = am_rV (am_put M 10 0 45 1) := by
  rw [eX10_rack]
  refine eX10_rack_0 ?_
  refine ri (sX10_within _ _ _ _) ?_
  refine eX10_rack_6 ?_
  refine ip (bi_f h1) ?_
  all_goals rfl
theorem qX10_rack_1 {x1 : Int32} {x2 : Int32} {x3 : Int32} {x4 : Int32} {M : am_M} (h1 : 0 ≤ x1 ∧ x1 ≤ 5) (h2 : ¬ (1 ≤ x2 ∧ x2 ≤ 999999)) : fX10_rack [.inr (10, 0), .inl (.int x1), .inl (.int x2), .inl (.int x3), .inl (.int x4)] M = am_rV (am_put M 10 0 45 1) := by
  rw [eX10_rack]
  refine eX10_rack_0 ?_
  refine ri (sX10_within _ _ _ _) ?_
  refine eX10_rack_6 ?_
  refine iq (fun e => bi_0.mp e h1) ?_
  refine ri (sX10_within _ _ _ _) ?_
  refine eX10_rack_16 ?_
  refine ip (bi_f h2) ?_
  all_goals rfl
theorem qX10_rack_2 {x1 : Int32} {x2 : Int32} {x3 : Int32} {x4 : Int32} {M : am_M} (h1 : 0 ≤ x1 ∧ x1 ≤ 5) (h2 : 1 ≤ x2 ∧ x2 ≤ 999999) (h3 : ¬ (0 ≤ x3 ∧ x3 ≤ 1)) : fX10_rack [.inr (10, 0), .inl (.int x1), .inl (.int x2), .inl (.int x3), .inl (.int x4)] M = am_rV (am_put M 10 0 45 1) := by
  rw [eX10_rack]
  refine eX10_rack_0 ?_
  refine ri (sX10_within _ _ _ _) ?_
  refine eX10_rack_6 ?_
  refine iq (fun e => bi_0.mp e h1) ?_
  refine ri (sX10_within _ _ _ _) ?_
  refine eX10_rack_16 ?_
  refine iq (fun e => bi_0.mp e h2) ?_
  refine ri (sX10_within _ _ _ _) ?_
  refine eX10_rack_25 ?_
  refine ip (bi_f h3) ?_
  all_goals rfl
theorem qX10_rack_3 {x1 : Int32} {x2 : Int32} {x3 : Int32} {x4 : Int32} {M : am_M} (h1 : 0 ≤ x1 ∧ x1 ≤ 5) (h2 : 1 ≤ x2 ∧ x2 ≤ 999999) (h3 : 0 ≤ x3 ∧ x3 ≤ 1) (h4 : ¬ (0 ≤ x4 ∧ x4 ≤ 100000)) : fX10_rack [.inr (10, 0), .inl (.int x1), .inl (.int x2), .inl (.int x3), .inl (.int x4)] M = am_rV (am_put M 10 0 45 1) := by
  rw [eX10_rack]
  refine eX10_rack_0 ?_
  refine ri (sX10_within _ _ _ _) ?_
  refine eX10_rack_6 ?_
  refine iq (fun e => bi_0.mp e h1) ?_
  refine ri (sX10_within _ _ _ _) ?_
  refine eX10_rack_16 ?_
  refine iq (fun e => bi_0.mp e h2) ?_
  refine ri (sX10_within _ _ _ _) ?_
  refine eX10_rack_25 ?_
  refine iq (fun e => bi_0.mp e h3) ?_
  refine ri (sX10_within _ _ _ _) ?_
  refine eX10_rack_36 ?_
  refine ip (bi_f h4) ?_
  all_goals rfl
theorem qX10_rack_4 {x1 : Int32} {x2 : Int32} {x3 : Int32} {x4 : Int32} {M : am_M} {j1 : Nat} {v2 : Int32} (h1 : 0 ≤ x1 ∧ x1 ≤ 5) (h2 : 1 ≤ x2 ∧ x2 ≤ 999999) (h3 : 0 ≤ x3 ∧ x3 ≤ 1) (h4 : 0 ≤ x4 ∧ x4 ≤ 100000) (h5 : j1 < 6) (h6 : x1 = i3 j1) (h7 : (M 37 0 j1) = 0) (h8 : fX10_slotOf [.inr (10, 0), .inl (.int x2)] M = am_rI v2 M) (h9 : v2 < 0) : fX10_rack [.inr (10, 0), .inl (.int x1), .inl (.int x2), .inl (.int x3), .inl (.int x4)] M = am_rV (am_put (am_put (am_put (am_put M 10 0 45 0) 37 0 j1 x2) 38 0 j1 x3) 39 0 j1 x4) := by
  rw [eX10_rack]
  refine eX10_rack_0 ?_
  refine ri (sX10_within _ _ _ _) ?_
  refine eX10_rack_6 ?_
  refine iq (fun e => bi_0.mp e h1) ?_
  refine ri (sX10_within _ _ _ _) ?_
  refine eX10_rack_16 ?_
  refine iq (fun e => bi_0.mp e h2) ?_
  refine ri (sX10_within _ _ _ _) ?_
  refine eX10_rack_25 ?_
  refine iq (fun e => bi_0.mp e h3) ?_
  refine ri (sX10_within _ _ _ _) ?_
  refine eX10_rack_36 ?_
  refine iq (fun e => bi_0.mp e h4) ?_
  refine ip (ixi h6 h5 (by decide)) ?_
  try rw [ixn h6 h5 (by decide)]
  refine ip h7 ?_
  refine ri h8 ?_
  refine eX10_rack_70 ?_
  refine ip h9 ?_
  refine ip (ixi h6 h5 (by decide)) ?_
  try rw [ixn h6 h5 (by decide)]
  refine ip (ixi h6 h5 (by decide)) ?_
  try rw [ixn h6 h5 (by decide)]
  refine ip (ixi h6 h5 (by decide)) ?_
  try rw [ixn h6 h5 (by decide)]
  all_goals rfl
theorem qX10_rack_5 {x1 : Int32} {x2 : Int32} {x3 : Int32} {x4 : Int32} {M : am_M} {j1 : Nat} {v2 : Int32} (h1 : 0 ≤ x1 ∧ x1 ≤ 5) (h2 : 1 ≤ x2 ∧ x2 ≤ 999999) (h3 : 0 ≤ x3 ∧ x3 ≤ 1) (h4 : 0 ≤ x4 ∧ x4 ≤ 100000) (h5 : j1 < 6) (h6 : x1 = i3 j1) (h7 : (M 37 0 j1) = 0) (h8 : fX10_slotOf [.inr (10, 0), .inl (.int x2)] M = am_rI v2 M) (h9 : ¬ (v2 < 0)) : fX10_rack [.inr (10, 0), .inl (.int x1), .inl (.int x2), .inl (.int x3), .inl (.int x4)] M = am_rV (am_put M 10 0 45 2) := by
  rw [eX10_rack]
  refine eX10_rack_0 ?_
  refine ri (sX10_within _ _ _ _) ?_
  refine eX10_rack_6 ?_
  refine iq (fun e => bi_0.mp e h1) ?_
  refine ri (sX10_within _ _ _ _) ?_
  refine eX10_rack_16 ?_
  refine iq (fun e => bi_0.mp e h2) ?_
  refine ri (sX10_within _ _ _ _) ?_
  refine eX10_rack_25 ?_
  refine iq (fun e => bi_0.mp e h3) ?_
  refine ri (sX10_within _ _ _ _) ?_
  refine eX10_rack_36 ?_
  refine iq (fun e => bi_0.mp e h4) ?_
  refine ip (ixi h6 h5 (by decide)) ?_
  try rw [ixn h6 h5 (by decide)]
  refine ip h7 ?_
  refine ri h8 ?_
  refine eX10_rack_70 ?_
  refine iq h9 ?_
  all_goals rfl
theorem qX10_rack_6 {x1 : Int32} {x2 : Int32} {x3 : Int32} {x4 : Int32} {M : am_M} {j1 : Nat} (h1 : 0 ≤ x1 ∧ x1 ≤ 5) (h2 : 1 ≤ x2 ∧ x2 ≤ 999999) (h3 : 0 ≤ x3 ∧ x3 ≤ 1) (h4 : 0 ≤ x4 ∧ x4 ≤ 100000) (h5 : j1 < 6) (h6 : x1 = i3 j1) (h7 : ¬ ((M 37 0 j1) = 0)) : fX10_rack [.inr (10, 0), .inl (.int x1), .inl (.int x2), .inl (.int x3), .inl (.int x4)] M = am_rV (am_put M 10 0 45 2) := by
  rw [eX10_rack]
  refine eX10_rack_0 ?_
  refine ri (sX10_within _ _ _ _) ?_
  refine eX10_rack_6 ?_
  refine iq (fun e => bi_0.mp e h1) ?_
  refine ri (sX10_within _ _ _ _) ?_
  refine eX10_rack_16 ?_
  refine iq (fun e => bi_0.mp e h2) ?_
  refine ri (sX10_within _ _ _ _) ?_
  refine eX10_rack_25 ?_
  refine iq (fun e => bi_0.mp e h3) ?_
  refine ri (sX10_within _ _ _ _) ?_
  refine eX10_rack_36 ?_
  refine iq (fun e => bi_0.mp e h4) ?_
  refine ip (ixi h6 h5 (by decide)) ?_
  try rw [ixn h6 h5 (by decide)]
  refine iq h7 ?_
  all_goals rfl
theorem qL_rack_0 {x1 : Int32} {x2 : Int32} {x3 : Int32} {x4 : Int32} {M : am_M} {M1 : am_M} (h1 : fX9_rack [.inr (9, 0), .inl (.int x1), .inl (.int x2), .inl (.int x3), .inl (.int x4)] M = am_rE "java/lang/IllegalArgumentException" M1) : fL_rack [.inr (9, 0), .inl (.int x1), .inl (.int x2), .inl (.int x3), .inl (.int x4)] M = am_rI 1 M1 := by
  rw [eL_rack]
  refine eL_rack_0 ?_
  exact rh h1 rfl
theorem qL_rack_1 {x1 : Int32} {x2 : Int32} {x3 : Int32} {x4 : Int32} {M : am_M} {M1 : am_M} (h1 : fX9_rack [.inr (9, 0), .inl (.int x1), .inl (.int x2), .inl (.int x3), .inl (.int x4)] M = am_rE "java/lang/IllegalStateException" M1) : fL_rack [.inr (9, 0), .inl (.int x1), .inl (.int x2), .inl (.int x3), .inl (.int x4)] M = am_rI 2 M1 := by
  rw [eL_rack]
  refine eL_rack_0 ?_
  exact rh h1 rfl
theorem qL_rack_2 {x1 : Int32} {x2 : Int32} {x3 : Int32} {x4 : Int32} {M : am_M} {M1 : am_M} (h1 : fX9_rack [.inr (9, 0), .inl (.int x1), .inl (.int x2), .inl (.int x3), .inl (.int x4)] M = am_rV M1) : fL_rack [.inr (9, 0), .inl (.int x1), .inl (.int x2), .inl (.int x3), .inl (.int x4)] M = am_rI 0 M1 := by
  rw [eL_rack]
  refine eL_rack_0 ?_
  refine rv h1 ?_
  refine eL_rack_9 ?_
  all_goals rfl
theorem qX9_removeRack_0 {x1 : Int32} {M : am_M} (h1 : ¬ (0 ≤ x1 ∧ x1 ≤ 5)) : fX9_removeRack [.inr (9, 0), .inl (.int x1)] M = am_rE "java/lang/IllegalArgumentException" M := by
  rw [eX9_removeRack]
  refine eX9_removeRack_0 ?_
  refine ri (sX9_isWithin _ _ _ _) ?_
  refine eX9_removeRack_6 ?_
  exact re (if_pos (bi_f h1))
theorem qX9_removeRack_1 {x1 : Int32} {M : am_M} {j1 : Nat} {v2 : Int32} (h1 : 0 ≤ x1 ∧ x1 ≤ 5) (h2 : j1 < 6) (h3 : x1 = i3 j1) (h4 : ¬ ((M 8 j1 0) = -1)) (h5 : fX9_isAwaited [.inr (9, 0), .inl (.int (M 8 j1 0))] M = am_rI v2 M) (h6 : v2 = 0) : fX9_removeRack [.inr (9, 0), .inl (.int x1)] M = am_rI ((am_put M 8 j1 0 (-1)) 8 j1 2) (am_put M 8 j1 0 (-1)) := by
  rw [eX9_removeRack]
  refine eX9_removeRack_0 ?_
  refine ri (sX9_isWithin _ _ _ _) ?_
  refine eX9_removeRack_6 ?_
  refine rv (if_neg (fun e => bi_0.mp e h1)) ?_
  refine eX9_removeRack_9 ?_
  refine ip (ixi h3 h2 (by decide)) ?_
  try rw [ixn h3 h2 (by decide)]
  refine ri (sX8_isEmpty _ _) ?_
  refine eX9_removeRack_18 ?_
  refine ip (bi_f h4) ?_
  refine rv rfl ?_
  refine eX9_removeRack_29 ?_
  refine ip (ixi h3 h2 (by decide)) ?_
  try rw [ixn h3 h2 (by decide)]
  refine ri h5 ?_
  refine eX9_removeRack_42 ?_
  refine ip h6 ?_
  refine rv rfl ?_
  refine eX9_removeRack_53 ?_
  refine ip (ixi h3 h2 (by decide)) ?_
  try rw [ixn h3 h2 (by decide)]
  refine ip (ixi h3 h2 (by decide)) ?_
  try rw [ixn h3 h2 (by decide)]
  all_goals rfl
theorem qX9_removeRack_2 {x1 : Int32} {M : am_M} {j1 : Nat} {v2 : Int32} (h1 : 0 ≤ x1 ∧ x1 ≤ 5) (h2 : j1 < 6) (h3 : x1 = i3 j1) (h4 : ¬ ((M 8 j1 0) = -1)) (h5 : fX9_isAwaited [.inr (9, 0), .inl (.int (M 8 j1 0))] M = am_rI v2 M) (h6 : ¬ (v2 = 0)) : fX9_removeRack [.inr (9, 0), .inl (.int x1)] M = am_rE "java/lang/IllegalStateException" M := by
  rw [eX9_removeRack]
  refine eX9_removeRack_0 ?_
  refine ri (sX9_isWithin _ _ _ _) ?_
  refine eX9_removeRack_6 ?_
  refine rv (if_neg (fun e => bi_0.mp e h1)) ?_
  refine eX9_removeRack_9 ?_
  refine ip (ixi h3 h2 (by decide)) ?_
  try rw [ixn h3 h2 (by decide)]
  refine ri (sX8_isEmpty _ _) ?_
  refine eX9_removeRack_18 ?_
  refine ip (bi_f h4) ?_
  refine rv rfl ?_
  refine eX9_removeRack_29 ?_
  refine ip (ixi h3 h2 (by decide)) ?_
  try rw [ixn h3 h2 (by decide)]
  refine ri h5 ?_
  refine eX9_removeRack_42 ?_
  refine iq h6 ?_
  exact re rfl
theorem qX9_removeRack_3 {x1 : Int32} {M : am_M} {j1 : Nat} (h1 : 0 ≤ x1 ∧ x1 ≤ 5) (h2 : j1 < 6) (h3 : x1 = i3 j1) (h4 : (M 8 j1 0) = -1) : fX9_removeRack [.inr (9, 0), .inl (.int x1)] M = am_rE "java/util/NoSuchElementException" M := by
  rw [eX9_removeRack]
  refine eX9_removeRack_0 ?_
  refine ri (sX9_isWithin _ _ _ _) ?_
  refine eX9_removeRack_6 ?_
  refine rv (if_neg (fun e => bi_0.mp e h1)) ?_
  refine eX9_removeRack_9 ?_
  refine ip (ixi h3 h2 (by decide)) ?_
  try rw [ixn h3 h2 (by decide)]
  refine ri (sX8_isEmpty _ _) ?_
  refine eX9_removeRack_18 ?_
  refine iq (fun e => bi_0.mp e h4) ?_
  exact re rfl
theorem qX10_removeRack_0 {x1 : Int32} {M : am_M} {res : am_O × am_M} (h1 : ¬ (0 ≤ x1 ∧ x1 ≤ 5)) (k : rX10_removeRack 99800 33 [.inr (10, 0), .inl (.int x1), .inl (.int 0)] [] (am_put M 10 0 45 1) = some res) : fX10_removeRack [.inr (10, 0), .inl (.int x1)] M = some res := by
  rw [eX10_removeRack]
  refine eX10_removeRack_0 ?_
  refine ri (sX10_within _ _ _ _) ?_
  refine eX10_removeRack_7 ?_
  refine ip (bi_f h1) ?_
  exact k
theorem qX10_removeRack_1 {x1 : Int32} {M : am_M} {res : am_O × am_M} {j1 : Nat} (h1 : 0 ≤ x1 ∧ x1 ≤ 5) (h2 : j1 < 6) (h3 : x1 = i3 j1) (h4 : (M 37 0 j1) = 0) (k : rX10_removeRack 99800 33 [.inr (10, 0), .inl (.int x1), .inl (.int 0)] [] (am_put M 10 0 45 2) = some res) : fX10_removeRack [.inr (10, 0), .inl (.int x1)] M = some res := by
  rw [eX10_removeRack]
  refine eX10_removeRack_0 ?_
  refine ri (sX10_within _ _ _ _) ?_
  refine eX10_removeRack_7 ?_
  refine iq (fun e => bi_0.mp e h1) ?_
  refine ip (ixi h3 h2 (by decide)) ?_
  try rw [ixn h3 h2 (by decide)]
  refine ip h4 ?_
  exact k
theorem qX10_removeRack_2 {x1 : Int32} {M : am_M} {res : am_O × am_M} {j1 : Nat} (h1 : 0 ≤ x1 ∧ x1 ≤ 5) (h2 : j1 < 6) (h3 : x1 = i3 j1) (h4 : ¬ ((M 37 0 j1) = 0)) (k : rX10_removeRack 99800 33 [.inr (10, 0), .inl (.int x1), .inl (.int 0)] [] (am_put M 10 0 45 0) = some res) : fX10_removeRack [.inr (10, 0), .inl (.int x1)] M = some res := by
  rw [eX10_removeRack]
  refine eX10_removeRack_0 ?_
  refine ri (sX10_within _ _ _ _) ?_
  refine eX10_removeRack_7 ?_
  refine iq (fun e => bi_0.mp e h1) ?_
  refine ip (ixi h3 h2 (by decide)) ?_
  try rw [ixn h3 h2 (by decide)]
  refine iq h4 ?_
  exact k
theorem mX10_removeRack {n m pc : Nat} {ls st : List am_V} {M : am_M} {res : am_O × am_M} (h : rX10_removeRack n pc ls st M = some res) (hm : n ≤ m) : rX10_removeRack m pc ls st M = some res := by
  have h2 := am_run_mono_add h (m - n)
  rw [show n + (m - n) = m by omega] at h2
  exact h2
theorem qX10_removeRack_33_0 {x1 : Int32} {x2 : Nat} {M : am_M} {n : Nat} {j1 : Nat} (h1 : (M 10 0 14) ≤ (i3 x2)) (h2 : (M 10 0 45) = 0) (h3 : j1 < 6) (h4 : x1 = i3 j1) : rX10_removeRack (n + 100) 33 [.inr (10, 0), .inl (.int x1), .inl (.int (i3 x2))] [] M = am_rI (M 39 0 j1) (am_put M 37 0 j1 0) := by
  refine eX10_removeRack_33 ?_
  refine ip h1 ?_
  refine ip h2 ?_
  refine ip (ixi h4 h3 (by decide)) ?_
  try rw [ixn h4 h3 (by decide)]
  refine ip (ixi h4 h3 (by decide)) ?_
  try rw [ixn h4 h3 (by decide)]
  all_goals rfl
theorem qX10_removeRack_33_1 {x1 : Int32} {x2 : Nat} {M : am_M} {n : Nat} (h1 : (M 10 0 14) ≤ (i3 x2)) (h2 : ¬ ((M 10 0 45) = 0)) : rX10_removeRack (n + 100) 33 [.inr (10, 0), .inl (.int x1), .inl (.int (i3 x2))] [] M = am_rI 0 M := by
  refine eX10_removeRack_33 ?_
  refine ip h1 ?_
  refine iq h2 ?_
  all_goals rfl
theorem qX10_removeRack_33_2 {x1 : Int32} {x2 : Nat} {M : am_M} {n : Nat} {res : am_O × am_M} {j1 : Nat} (h1 : ¬ ((M 10 0 14) ≤ (i3 x2))) (h2 : (M 10 0 45) = 0) (h3 : x2 < 40) (h4 : j1 < 6) (h5 : x1 = i3 j1) (h6 : (M 45 0 x2) = (M 37 0 j1)) (h7 : 1 < (M 48 0 x2)) (k : rX10_removeRack n 33 [.inr (10, 0), .inl (.int x1), .inl (.int (i3 (x2 + 1)))] [] M = some res) : rX10_removeRack (n + 100) 33 [.inr (10, 0), .inl (.int x1), .inl (.int (i3 x2))] [] M = some res := by
  refine eX10_removeRack_33 ?_
  refine iq h1 ?_
  refine ip h2 ?_
  refine ip (i3_in' h3 (by decide)) ?_
  try rw [ixm h3 (by decide)]
  refine ip (ixi h5 h4 (by decide)) ?_
  try rw [ixn h5 h4 (by decide)]
  refine ip h6 ?_
  refine ip (i3_in' h3 (by decide)) ?_
  try rw [ixm h3 (by decide)]
  refine ip h7 ?_
  rw [i3_one]
  exact k
theorem qX10_removeRack_33_3 {x1 : Int32} {x2 : Nat} {M : am_M} {n : Nat} {res : am_O × am_M} {j1 : Nat} (h1 : ¬ ((M 10 0 14) ≤ (i3 x2))) (h2 : (M 10 0 45) = 0) (h3 : x2 < 40) (h4 : j1 < 6) (h5 : x1 = i3 j1) (h6 : (M 45 0 x2) = (M 37 0 j1)) (h7 : ¬ (1 < (M 48 0 x2))) (k : rX10_removeRack n 33 [.inr (10, 0), .inl (.int x1), .inl (.int (i3 (x2 + 1)))] [] (am_put M 10 0 45 3) = some res) : rX10_removeRack (n + 100) 33 [.inr (10, 0), .inl (.int x1), .inl (.int (i3 x2))] [] M = some res := by
  refine eX10_removeRack_33 ?_
  refine iq h1 ?_
  refine ip h2 ?_
  refine ip (i3_in' h3 (by decide)) ?_
  try rw [ixm h3 (by decide)]
  refine ip (ixi h5 h4 (by decide)) ?_
  try rw [ixn h5 h4 (by decide)]
  refine ip h6 ?_
  refine ip (i3_in' h3 (by decide)) ?_
  try rw [ixm h3 (by decide)]
  refine iq h7 ?_
  rw [i3_one]
  exact k
theorem qX10_removeRack_33_4 {x1 : Int32} {x2 : Nat} {M : am_M} {n : Nat} {res : am_O × am_M} {j1 : Nat} (h1 : ¬ ((M 10 0 14) ≤ (i3 x2))) (h2 : (M 10 0 45) = 0) (h3 : x2 < 40) (h4 : j1 < 6) (h5 : x1 = i3 j1) (h6 : ¬ ((M 45 0 x2) = (M 37 0 j1))) (k : rX10_removeRack n 33 [.inr (10, 0), .inl (.int x1), .inl (.int (i3 (x2 + 1)))] [] M = some res) : rX10_removeRack (n + 100) 33 [.inr (10, 0), .inl (.int x1), .inl (.int (i3 x2))] [] M = some res := by
  refine eX10_removeRack_33 ?_
  refine iq h1 ?_
  refine ip h2 ?_
  refine ip (i3_in' h3 (by decide)) ?_
  try rw [ixm h3 (by decide)]
  refine ip (ixi h5 h4 (by decide)) ?_
  try rw [ixn h5 h4 (by decide)]
  refine iq h6 ?_
  rw [i3_one]
  exact k
theorem qX10_removeRack_33_5 {x1 : Int32} {x2 : Nat} {M : am_M} {n : Nat} (h1 : ¬ ((M 10 0 14) ≤ (i3 x2))) (h2 : ¬ ((M 10 0 45) = 0)) : rX10_removeRack (n + 100) 33 [.inr (10, 0), .inl (.int x1), .inl (.int (i3 x2))] [] M = am_rI 0 M := by
  refine eX10_removeRack_33 ?_
  refine iq h1 ?_
  refine iq h2 ?_
  refine iq h2 ?_
  all_goals rfl
theorem qL_removeRack_0 {x1 : Int32} {M : am_M} {M1 : am_M} (h1 : fX9_removeRack [.inr (9, 0), .inl (.int x1)] M = am_rE "java/lang/IllegalArgumentException" M1) : fL_removeRack [.inr (9, 0), .inl (.int x1), .inr (80, 0)] M = am_rI 1 M1 := by
  rw [eL_removeRack]
  refine eL_removeRack_0 ?_
  exact rh h1 rfl
theorem qL_removeRack_1 {x1 : Int32} {M : am_M} {M1 : am_M} (h1 : fX9_removeRack [.inr (9, 0), .inl (.int x1)] M = am_rE "java/util/NoSuchElementException" M1) : fL_removeRack [.inr (9, 0), .inl (.int x1), .inr (80, 0)] M = am_rI 2 M1 := by
  rw [eL_removeRack]
  refine eL_removeRack_0 ?_
  exact rh h1 rfl
theorem qL_removeRack_2 {x1 : Int32} {M : am_M} {M1 : am_M} (h1 : fX9_removeRack [.inr (9, 0), .inl (.int x1)] M = am_rE "java/lang/IllegalStateException" M1) : fL_removeRack [.inr (9, 0), .inl (.int x1), .inr (80, 0)] M = am_rI 3 M1 := by
  rw [eL_removeRack]
  refine eL_removeRack_0 ?_
  exact rh h1 rfl
theorem qL_removeRack_3 {x1 : Int32} {M : am_M} {v1 : Int32} {M2 : am_M} (h1 : fX9_removeRack [.inr (9, 0), .inl (.int x1)] M = am_rI v1 M2) : fL_removeRack [.inr (9, 0), .inl (.int x1), .inr (80, 0)] M = am_rI 0 (am_put (am_put M2 80 0 (2 * 0) (am_hi (Int32.toInt64 v1))) 80 0 (2 * 0 + 1) (am_lo (Int32.toInt64 v1))) := by
  rw [eL_removeRack]
  refine eL_removeRack_0 ?_
  refine ri h1 ?_
  refine eL_removeRack_7 ?_
  refine ip (by decide) ?_
  try rw [show Int32.toNatClampNeg (0 : Int32) = 0 from by decide]
  all_goals rfl
theorem qX9_reagent_0 {x1 : Int32} {x2 : Int32} {x3 : Int32} {x4 : Int32} {M : am_M} (h1 : ¬ (0 ≤ x1 ∧ x1 ≤ 7)) : fX9_reagent [.inr (9, 0), .inl (.int x1), .inl (.int x2), .inl (.int x3), .inl (.int x4)] M = am_rE "java/lang/IllegalArgumentException" M := by
  rw [eX9_reagent]
  refine eX9_reagent_0 ?_
  refine ri (sX9_isWithin _ _ _ _) ?_
  refine eX9_reagent_7 ?_
  refine ip (bi_f h1) ?_
  exact re rfl
theorem qX9_reagent_1 {x1 : Int32} {x2 : Int32} {x3 : Int32} {x4 : Int32} {M : am_M} (h1 : 0 ≤ x1 ∧ x1 ≤ 7) (h2 : ¬ (0 ≤ x2 ∧ x2 ≤ 5)) : fX9_reagent [.inr (9, 0), .inl (.int x1), .inl (.int x2), .inl (.int x3), .inl (.int x4)] M = am_rE "java/lang/IllegalArgumentException" M := by
  rw [eX9_reagent]
  refine eX9_reagent_0 ?_
  refine ri (sX9_isWithin _ _ _ _) ?_
  refine eX9_reagent_7 ?_
  refine iq (fun e => bi_0.mp e h1) ?_
  refine ri (sX9_isWithin _ _ _ _) ?_
  refine eX9_reagent_16 ?_
  refine ip (bi_f h2) ?_
  exact re rfl
theorem qX9_reagent_2 {x1 : Int32} {x2 : Int32} {x3 : Int32} {x4 : Int32} {M : am_M} (h1 : 0 ≤ x1 ∧ x1 ≤ 7) (h2 : 0 ≤ x2 ∧ x2 ≤ 5) (h3 : ¬ (0 ≤ x3 ∧ x3 ≤ 100000)) : fX9_reagent [.inr (9, 0), .inl (.int x1), .inl (.int x2), .inl (.int x3), .inl (.int x4)] M = am_rE "java/lang/IllegalArgumentException" M := by
  rw [eX9_reagent]
  refine eX9_reagent_0 ?_
  refine ri (sX9_isWithin _ _ _ _) ?_
  refine eX9_reagent_7 ?_
  refine iq (fun e => bi_0.mp e h1) ?_
  refine ri (sX9_isWithin _ _ _ _) ?_
  refine eX9_reagent_16 ?_
  refine iq (fun e => bi_0.mp e h2) ?_
  refine rv rfl ?_
  refine eX9_reagent_27 ?_
  refine ri (sX9_isWithin _ _ _ _) ?_
  refine eX9_reagent_34 ?_
  refine ip (bi_f h3) ?_
  exact re rfl
theorem qX9_reagent_3 {x1 : Int32} {x2 : Int32} {x3 : Int32} {x4 : Int32} {M : am_M} (h1 : 0 ≤ x1 ∧ x1 ≤ 7) (h2 : 0 ≤ x2 ∧ x2 ≤ 5) (h3 : 0 ≤ x3 ∧ x3 ≤ 100000) (h4 : x4 < 0) : fX9_reagent [.inr (9, 0), .inl (.int x1), .inl (.int x2), .inl (.int x3), .inl (.int x4)] M = am_rE "java/lang/IllegalArgumentException" M := by
  rw [eX9_reagent]
  refine eX9_reagent_0 ?_
  refine ri (sX9_isWithin _ _ _ _) ?_
  refine eX9_reagent_7 ?_
  refine iq (fun e => bi_0.mp e h1) ?_
  refine ri (sX9_isWithin _ _ _ _) ?_
  refine eX9_reagent_16 ?_
  refine iq (fun e => bi_0.mp e h2) ?_
  refine rv rfl ?_
  refine eX9_reagent_27 ?_
  refine ri (sX9_isWithin _ _ _ _) ?_
  refine eX9_reagent_34 ?_
  refine iq (fun e => bi_0.mp e h3) ?_
  refine ip h4 ?_
  exact re rfl
theorem qX9_reagent_4 {x1 : Int32} {x2 : Int32} {x3 : Int32} {x4 : Int32} {M : am_M} {j1 : Nat} (h1 : 0 ≤ x1 ∧ x1 ≤ 7) (h2 : 0 ≤ x2 ∧ x2 ≤ 5) (h3 : 0 ≤ x3 ∧ x3 ≤ 100000) (h4 : ¬ (x4 < 0)) (h5 : j1 < 8) (h6 : x1 = i3 j1) (h7 : (M 5 j1 2) = 0) : fX9_reagent [.inr (9, 0), .inl (.int x1), .inl (.int x2), .inl (.int x3), .inl (.int x4)] M = am_rV (am_put (am_put (am_put M 5 j1 0 x2) 5 j1 1 x3) 5 j1 3 x4) := by
  rw [eX9_reagent]
  refine eX9_reagent_0 ?_
  refine ri (sX9_isWithin _ _ _ _) ?_
  refine eX9_reagent_7 ?_
  refine iq (fun e => bi_0.mp e h1) ?_
  refine ri (sX9_isWithin _ _ _ _) ?_
  refine eX9_reagent_16 ?_
  refine iq (fun e => bi_0.mp e h2) ?_
  refine rv rfl ?_
  refine eX9_reagent_27 ?_
  refine ri (sX9_isWithin _ _ _ _) ?_
  refine eX9_reagent_34 ?_
  refine iq (fun e => bi_0.mp e h3) ?_
  refine iq h4 ?_
  refine rv rfl ?_
  refine eX9_reagent_50 ?_
  refine ip (ixi h6 h5 (by decide)) ?_
  try rw [ixn h6 h5 (by decide)]
  refine ip h7 ?_
  refine rv rfl ?_
  refine eX9_reagent_70 ?_
  refine ip (ixi h6 h5 (by decide)) ?_
  try rw [ixn h6 h5 (by decide)]
  all_goals rfl
theorem qX9_reagent_5 {x1 : Int32} {x2 : Int32} {x3 : Int32} {x4 : Int32} {M : am_M} {j1 : Nat} (h1 : 0 ≤ x1 ∧ x1 ≤ 7) (h2 : 0 ≤ x2 ∧ x2 ≤ 5) (h3 : 0 ≤ x3 ∧ x3 ≤ 100000) (h4 : ¬ (x4 < 0)) (h5 : j1 < 8) (h6 : x1 = i3 j1) (h7 : ¬ ((M 5 j1 2) = 0)) : fX9_reagent [.inr (9, 0), .inl (.int x1), .inl (.int x2), .inl (.int x3), .inl (.int x4)] M = am_rE "java/lang/IllegalStateException" M := by
  rw [eX9_reagent]
  refine eX9_reagent_0 ?_
  refine ri (sX9_isWithin _ _ _ _) ?_
  refine eX9_reagent_7 ?_
  refine iq (fun e => bi_0.mp e h1) ?_
  refine ri (sX9_isWithin _ _ _ _) ?_
  refine eX9_reagent_16 ?_
  refine iq (fun e => bi_0.mp e h2) ?_
  refine rv rfl ?_
  refine eX9_reagent_27 ?_
  refine ri (sX9_isWithin _ _ _ _) ?_
  refine eX9_reagent_34 ?_
  refine iq (fun e => bi_0.mp e h3) ?_
  refine iq h4 ?_
  refine rv rfl ?_
  refine eX9_reagent_50 ?_
  refine ip (ixi h6 h5 (by decide)) ?_
  try rw [ixn h6 h5 (by decide)]
  refine iq h7 ?_
  exact re rfl
theorem qX10_reagent_0 {x1 : Int32} {x2 : Int32} {x3 : Int32} {x4 : Int32} {M : am_M} (h1 : ¬ (0 ≤ x1 ∧ x1 ≤ 7)) : fX10_reagent [.inr (10, 0), .inl (.int x1), .inl (.int x2), .inl (.int x3), .inl (.int x4)] M = am_rV (am_put M 10 0 45 1) := by
  rw [eX10_reagent]
  refine eX10_reagent_0 ?_
  refine ri (sX10_within _ _ _ _) ?_
  refine eX10_reagent_7 ?_
  refine ip (bi_f h1) ?_
  all_goals rfl
theorem qX10_reagent_1 {x1 : Int32} {x2 : Int32} {x3 : Int32} {x4 : Int32} {M : am_M} (h1 : 0 ≤ x1 ∧ x1 ≤ 7) (h2 : ¬ (0 ≤ x2 ∧ x2 ≤ 5)) : fX10_reagent [.inr (10, 0), .inl (.int x1), .inl (.int x2), .inl (.int x3), .inl (.int x4)] M = am_rV (am_put M 10 0 45 1) := by
  rw [eX10_reagent]
  refine eX10_reagent_0 ?_
  refine ri (sX10_within _ _ _ _) ?_
  refine eX10_reagent_7 ?_
  refine iq (fun e => bi_0.mp e h1) ?_
  refine ri (sX10_within _ _ _ _) ?_
  refine eX10_reagent_16 ?_
  refine ip (bi_f h2) ?_
  all_goals rfl
theorem qX10_reagent_2 {x1 : Int32} {x2 : Int32} {x3 : Int32} {x4 : Int32} {M : am_M} (h1 : 0 ≤ x1 ∧ x1 ≤ 7) (h2 : 0 ≤ x2 ∧ x2 ≤ 5) (h3 : ¬ (0 ≤ x3 ∧ x3 ≤ 100000)) : fX10_reagent [.inr (10, 0), .inl (.int x1), .inl (.int x2), .inl (.int x3), .inl (.int x4)] M = am_rV (am_put M 10 0 45 1) := by
  rw [eX10_reagent]
  refine eX10_reagent_0 ?_
  refine ri (sX10_within _ _ _ _) ?_
  refine eX10_reagent_7 ?_
  refine iq (fun e => bi_0.mp e h1) ?_
  refine ri (sX10_within _ _ _ _) ?_
  refine eX10_reagent_16 ?_
  refine iq (fun e => bi_0.mp e h2) ?_
  refine ri (sX10_within _ _ _ _) ?_
  refine eX10_reagent_26 ?_
  refine ip (bi_f h3) ?_
  all_goals rfl
theorem qX10_reagent_3 {x1 : Int32} {x2 : Int32} {x3 : Int32} {x4 : Int32} {M : am_M} (h1 : 0 ≤ x1 ∧ x1 ≤ 7) (h2 : 0 ≤ x2 ∧ x2 ≤ 5) (h3 : 0 ≤ x3 ∧ x3 ≤ 100000) (h4 : x4 < 0) : fX10_reagent [.inr (10, 0), .inl (.int x1), .inl (.int x2), .inl (.int x3), .inl (.int x4)] M = am_rV (am_put M 10 0 45 1) := by
  rw [eX10_reagent]
  refine eX10_reagent_0 ?_
  refine ri (sX10_within _ _ _ _) ?_
  refine eX10_reagent_7 ?_
  refine iq (fun e => bi_0.mp e h1) ?_
  refine ri (sX10_within _ _ _ _) ?_
  refine eX10_reagent_16 ?_
  refine iq (fun e => bi_0.mp e h2) ?_
  refine ri (sX10_within _ _ _ _) ?_
  refine eX10_reagent_26 ?_
  refine iq (fun e => bi_0.mp e h3) ?_
  refine ip h4 ?_
  all_goals rfl
theorem qX10_reagent_4 {x1 : Int32} {x2 : Int32} {x3 : Int32} {x4 : Int32} {M : am_M} {v1 : Int32} {j1 : Nat} (h1 : 0 ≤ x1 ∧ x1 ≤ 7) (h2 : 0 ≤ x2 ∧ x2 ≤ 5) (h3 : 0 ≤ x3 ∧ x3 ≤ 100000) (h4 : ¬ (x4 < 0)) (h5 : fX10_reserved [.inr (10, 0), .inl (.int x1)] M = am_rI v1 M) (h6 : v1 ≤ 0) (h7 : j1 < 8) (h8 : x1 = i3 j1) : fX10_reagent [.inr (10, 0), .inl (.int x1), .inl (.int x2), .inl (.int x3), .inl (.int x4)] M = am_rV (am_put (am_put (am_put (am_put M 10 0 45 0) 40 0 j1 x2) 41 0 j1 x3) 42 0 j1 x4) := by
  rw [eX10_reagent]
  refine eX10_reagent_0 ?_
  refine ri (sX10_within _ _ _ _) ?_
  refine eX10_reagent_7 ?_
  refine iq (fun e => bi_0.mp e h1) ?_
  refine ri (sX10_within _ _ _ _) ?_
  refine eX10_reagent_16 ?_
  refine iq (fun e => bi_0.mp e h2) ?_
  refine ri (sX10_within _ _ _ _) ?_
  refine eX10_reagent_26 ?_
  refine iq (fun e => bi_0.mp e h3) ?_
  refine iq h4 ?_
  refine ri h5 ?_
  refine eX10_reagent_56 ?_
  refine ip h6 ?_
  refine ip (ixi h8 h7 (by decide)) ?_
  try rw [ixn h8 h7 (by decide)]
  refine ip (ixi h8 h7 (by decide)) ?_
  try rw [ixn h8 h7 (by decide)]
  refine ip (ixi h8 h7 (by decide)) ?_
  try rw [ixn h8 h7 (by decide)]
  all_goals rfl
theorem qX10_reagent_5 {x1 : Int32} {x2 : Int32} {x3 : Int32} {x4 : Int32} {M : am_M} {v1 : Int32} (h1 : 0 ≤ x1 ∧ x1 ≤ 7) (h2 : 0 ≤ x2 ∧ x2 ≤ 5) (h3 : 0 ≤ x3 ∧ x3 ≤ 100000) (h4 : ¬ (x4 < 0)) (h5 : fX10_reserved [.inr (10, 0), .inl (.int x1)] M = am_rI v1 M) (h6 : ¬ (v1 ≤ 0)) : fX10_reagent [.inr (10, 0), .inl (.int x1), .inl (.int x2), .inl (.int x3), .inl (.int x4)] M = am_rV (am_put M 10 0 45 2) := by
  rw [eX10_reagent]
  refine eX10_reagent_0 ?_
  refine ri (sX10_within _ _ _ _) ?_
  refine eX10_reagent_7 ?_
  refine iq (fun e => bi_0.mp e h1) ?_
  refine ri (sX10_within _ _ _ _) ?_
  refine eX10_reagent_16 ?_
  refine iq (fun e => bi_0.mp e h2) ?_
  refine ri (sX10_within _ _ _ _) ?_
  refine eX10_reagent_26 ?_
  refine iq (fun e => bi_0.mp e h3) ?_
  refine iq h4 ?_
  refine ri h5 ?_
  refine eX10_reagent_56 ?_
  refine iq h6 ?_
  all_goals rfl
theorem qL_reagent_0 {x1 : Int32} {x2 : Int32} {x3 : Int32} {x4 : Int32} {M : am_M} {M1 : am_M} (h1 : fX9_reagent [.inr (9, 0), .inl (.int x1), .inl (.int x2), .inl (.int x3), .inl (.int x4)] M = am_rE "java/lang/IllegalArgumentException" M1) : fL_reagent [.inr (9, 0), .inl (.int x1), .inl (.int x2), .inl (.int x3), .inl (.int x4)] M = am_rI 1 M1 := by
  rw [eL_reagent]
  refine eL_reagent_0 ?_
  exact rh h1 rfl
theorem qL_reagent_1 {x1 : Int32} {x2 : Int32} {x3 : Int32} {x4 : Int32} {M : am_M} {M1 : am_M} (h1 : fX9_reagent [.inr (9, 0), .inl (.int x1), .inl (.int x2), .inl (.int x3), .inl (.int x4)] M = am_rE "java/lang/IllegalStateException" M1) : fL_reagent [.inr (9, 0), .inl (.int x1), .inl (.int x2), .inl (.int x3), .inl (.int x4)] M = am_rI 2 M1 := by
  rw [eL_reagent]
  refine eL_reagent_0 ?_
  exact rh h1 rfl
theorem qL_reagent_2 {x1 : Int32} {x2 : Int32} {x3 : Int32} {x4 : Int32} {M : am_M} {M1 : am_M} (h1 : fX9_reagent [.inr (9, 0), .inl (.int x1), .inl (.int x2), .inl (.int x3), .inl (.int x4)] M = am_rV M1) : fL_reagent [.inr (9, 0), .inl (.int x1), .inl (.int x2), .inl (.int x3), .inl (.int x4)] M = am_rI 0 M1 := by
  rw [eL_reagent]
  refine eL_reagent_0 ?_
  refine rv h1 ?_
  refine eL_reagent_9 ?_
  all_goals rfl
theorem qX9_forbid_0 {x1 : Int32} {x2 : Int32} {M : am_M} (h1 : ¬ (0 ≤ x1 ∧ x1 ≤ 5)) : fX9_forbid [.inr (9, 0), .inl (.int x1), .inl (.int x2)] M = am_rE "java/lang/IllegalArgumentException" M := by
  rw [eX9_forbid]
  refine eX9_forbid_0 ?_
  refine ri (sX9_isWithin _ _ _ _) ?_
  refine eX9_forbid_6 ?_
  refine ip (bi_f h1) ?_
  exact re rfl
theorem qX9_forbid_1 {x1 : Int32} {x2 : Int32} {M : am_M} (h1 : 0 ≤ x1 ∧ x1 ≤ 5) (h2 : ¬ (0 ≤ x2 ∧ x2 ≤ 5)) : fX9_forbid [.inr (9, 0), .inl (.int x1), .inl (.int x2)] M = am_rE "java/lang/IllegalArgumentException" M := by
  rw [eX9_forbid]
  refine eX9_forbid_0 ?_
  refine ri (sX9_isWithin _ _ _ _) ?_
  refine eX9_forbid_6 ?_
  refine iq (fun e => bi_0.mp e h1) ?_
  refine ri (sX9_isWithin _ _ _ _) ?_
  refine eX9_forbid_15 ?_
  refine ip (bi_f h2) ?_
  exact re rfl
theorem qX9_forbid_2 {x1 : Int32} {x2 : Int32} {M : am_M} {v1 : Int32} {M2 : am_M} (h1 : 0 ≤ x1 ∧ x1 ≤ 5) (h2 : 0 ≤ x2 ∧ x2 ≤ 5) (h3 : fX7_turnSuccession [.inr (7, 0), .inl (.int x1), .inl (.int x2)] M = am_rI v1 M2) (h4 : am_b v1 = v1) : fX9_forbid [.inr (9, 0), .inl (.int x1), .inl (.int x2)] M = am_rI v1 M2 := by
  rw [eX9_forbid]
  refine eX9_forbid_0 ?_
  refine ri (sX9_isWithin _ _ _ _) ?_
  refine eX9_forbid_6 ?_
  refine iq (fun e => bi_0.mp e h1) ?_
  refine ri (sX9_isWithin _ _ _ _) ?_
  refine eX9_forbid_15 ?_
  refine iq (fun e => bi_0.mp e h2) ?_
  refine rv rfl ?_
  refine eX9_forbid_26 ?_
  refine ri h3 ?_
  refine eX9_forbid_35 ?_
  exact am_finb h4
theorem qX7_turnSuccession_0 {x1 : Int32} {x2 : Int32} {M : am_M} {j1 : Nat} (h1 : j1 < 36) (h2 : ((x1 * 6) + x2) = i3 j1) (h3 : (am_b (M 21 0 j1)) = 0) : fX7_turnSuccession [.inr (7, 0), .inl (.int x1), .inl (.int x2)] M = am_rI (am_b ((am_put M 21 0 j1 1) 21 0 j1)) (am_put M 21 0 j1 1) := by
  rw [eX7_turnSuccession]
  refine eX7_turnSuccession_0 ?_
  refine eX7_turnSuccession_7 ?_
  refine ip (ixi h2 h1 (by decide)) ?_
  try rw [ixn h2 h1 (by decide)]
  refine ip h3 ?_
  refine ip ⟨(ixi h2 h1 (by decide)), rfl⟩ ?_
  try rw [ixn h2 h1 (by decide)]
  refine ip (ixi h2 h1 (by decide)) ?_
  try rw [ixn h2 h1 (by decide)]
  exact am_finb (am_b_b _)
theorem qX7_turnSuccession_1 {x1 : Int32} {x2 : Int32} {M : am_M} {j1 : Nat} (h1 : j1 < 36) (h2 : ((x1 * 6) + x2) = i3 j1) (h3 : ¬ ((am_b (M 21 0 j1)) = 0)) : fX7_turnSuccession [.inr (7, 0), .inl (.int x1), .inl (.int x2)] M = am_rI (am_b ((am_put M 21 0 j1 0) 21 0 j1)) (am_put M 21 0 j1 0) := by
  rw [eX7_turnSuccession]
  refine eX7_turnSuccession_0 ?_
  refine eX7_turnSuccession_7 ?_
  refine ip (ixi h2 h1 (by decide)) ?_
  try rw [ixn h2 h1 (by decide)]
  refine iq h3 ?_
  refine ip ⟨(ixi h2 h1 (by decide)), rfl⟩ ?_
  try rw [ixn h2 h1 (by decide)]
  refine ip (ixi h2 h1 (by decide)) ?_
  try rw [ixn h2 h1 (by decide)]
  exact am_finb (am_b_b _)
theorem qX10_forbid_0 {x1 : Int32} {x2 : Int32} {M : am_M} (h1 : ¬ (0 ≤ x1 ∧ x1 ≤ 5)) : fX10_forbid [.inr (10, 0), .inl (.int x1), .inl (.int x2)] M = am_rI 0 (am_put M 10 0 45 1) := by
  rw [eX10_forbid]
  refine eX10_forbid_0 ?_
  refine ri (sX10_within _ _ _ _) ?_
  refine eX10_forbid_7 ?_
  refine ip (bi_f h1) ?_
  all_goals rfl
theorem qX10_forbid_1 {x1 : Int32} {x2 : Int32} {M : am_M} (h1 : 0 ≤ x1 ∧ x1 ≤ 5) (h2 : ¬ (0 ≤ x2 ∧ x2 ≤ 5)) : fX10_forbid [.inr (10, 0), .inl (.int x1), .inl (.int x2)] M = am_rI 0 (am_put M 10 0 45 1) := by
  rw [eX10_forbid]
  refine eX10_forbid_0 ?_
  refine ri (sX10_within _ _ _ _) ?_
  refine eX10_forbid_7 ?_
  refine iq (fun e => bi_0.mp e h1) ?_
  refine ri (sX10_within _ _ _ _) ?_
  refine eX10_forbid_16 ?_
  refine ip (bi_f h2) ?_
  all_goals rfl
theorem qX10_forbid_2 {x1 : Int32} {x2 : Int32} {M : am_M} {j1 : Nat} (h1 : 0 ≤ x1 ∧ x1 ≤ 5) (h2 : 0 ≤ x2 ∧ x2 ≤ 5) (h3 : j1 < 36) (h4 : ((6 * x1) + x2) = i3 j1) (h5 : (am_b (M 43 0 j1)) = 0) : fX10_forbid [.inr (10, 0), .inl (.int x1), .inl (.int x2)] M = am_rI (am_b ((am_put (am_put M 10 0 45 0) 43 0 j1 1) 43 0 j1)) (am_put (am_put M 10 0 45 0) 43 0 j1 1) := by
  rw [eX10_forbid]
  refine eX10_forbid_0 ?_
  refine ri (sX10_within _ _ _ _) ?_
  refine eX10_forbid_7 ?_
  refine iq (fun e => bi_0.mp e h1) ?_
  refine ri (sX10_within _ _ _ _) ?_
  refine eX10_forbid_16 ?_
  refine iq (fun e => bi_0.mp e h2) ?_
  refine eX10_forbid_46 ?_
  try simp only [am_put_nk, am_put_nf, not_false_eq_true, Nat.reduceEqDiff]
  refine eX10_forbid_56 ?_
  try simp only [am_put_nk, am_put_nf, not_false_eq_true, Nat.reduceEqDiff]
  refine ip (ixi h4 h3 (by decide)) ?_
  try rw [ixn h4 h3 (by decide)]
  refine ip h5 ?_
  refine ip ⟨(ixi h4 h3 (by decide)), rfl⟩ ?_
  try rw [ixn h4 h3 (by decide)]
  refine eX10_forbid_76 ?_
  try simp only [am_put_nk, am_put_nf, not_false_eq_true, Nat.reduceEqDiff]
  refine ip (ixi h4 h3 (by decide)) ?_
  try rw [ixn h4 h3 (by decide)]
  exact am_finb (am_b_b _)
theorem qX10_forbid_3 {x1 : Int32} {x2 : Int32} {M : am_M} {j1 : Nat} (h1 : 0 ≤ x1 ∧ x1 ≤ 5) (h2 : 0 ≤ x2 ∧ x2 ≤ 5) (h3 : j1 < 36) (h4 : ((6 * x1) + x2) = i3 j1) (h5 : ¬ ((am_b (M 43 0 j1)) = 0)) : fX10_forbid [.inr (10, 0), .inl (.int x1), .inl (.int x2)] M = am_rI (am_b ((am_put (am_put M 10 0 45 0) 43 0 j1 0) 43 0 j1)) (am_put (am_put M 10 0 45 0) 43 0 j1 0) := by
  rw [eX10_forbid]
  refine eX10_forbid_0 ?_
  refine ri (sX10_within _ _ _ _) ?_
  refine eX10_forbid_7 ?_
  refine iq (fun e => bi_0.mp e h1) ?_
  refine ri (sX10_within _ _ _ _) ?_
  refine eX10_forbid_16 ?_
  refine iq (fun e => bi_0.mp e h2) ?_
  refine eX10_forbid_46 ?_
  try simp only [am_put_nk, am_put_nf, not_false_eq_true, Nat.reduceEqDiff]
  refine eX10_forbid_56 ?_
  try simp only [am_put_nk, am_put_nf, not_false_eq_true, Nat.reduceEqDiff]
  refine ip (ixi h4 h3 (by decide)) ?_
  try rw [ixn h4 h3 (by decide)]
  refine iq h5 ?_
  refine ip ⟨(ixi h4 h3 (by decide)), rfl⟩ ?_
  try rw [ixn h4 h3 (by decide)]
  refine eX10_forbid_76 ?_
  try simp only [am_put_nk, am_put_nf, not_false_eq_true, Nat.reduceEqDiff]
  refine ip (ixi h4 h3 (by decide)) ?_
  try rw [ixn h4 h3 (by decide)]
  exact am_finb (am_b_b _)
theorem qL_forbid_0 {x1 : Int32} {x2 : Int32} {M : am_M} {M1 : am_M} (h1 : fX9_forbid [.inr (9, 0), .inl (.int x1), .inl (.int x2)] M = am_rE "java/lang/IllegalArgumentException" M1) : fL_forbid [.inr (9, 0), .inl (.int x1), .inl (.int x2), .inr (80, 0)] M = am_rI 1 M1 := by
  rw [eL_forbid]
  refine eL_forbid_0 ?_
  exact rh h1 rfl
theorem qL_forbid_1 {x1 : Int32} {x2 : Int32} {M : am_M} {v1 : Int32} {M2 : am_M} (h1 : fX9_forbid [.inr (9, 0), .inl (.int x1), .inl (.int x2)] M = am_rI v1 M2) (h2 : v1 = 0) : fL_forbid [.inr (9, 0), .inl (.int x1), .inl (.int x2), .inr (80, 0)] M = am_rI 0 (am_put (am_put M2 80 0 (2 * 0) (am_hi 0)) 80 0 (2 * 0 + 1) (am_lo 0)) := by
  rw [eL_forbid]
  refine eL_forbid_0 ?_
  refine ri h1 ?_
  refine eL_forbid_8 ?_
  refine ip h2 ?_
  refine ip (by decide) ?_
  try rw [show Int32.toNatClampNeg (0 : Int32) = 0 from by decide]
  all_goals rfl
theorem qL_forbid_2 {x1 : Int32} {x2 : Int32} {M : am_M} {v1 : Int32} {M2 : am_M} (h1 : fX9_forbid [.inr (9, 0), .inl (.int x1), .inl (.int x2)] M = am_rI v1 M2) (h2 : ¬ (v1 = 0)) : fL_forbid [.inr (9, 0), .inl (.int x1), .inl (.int x2), .inr (80, 0)] M = am_rI 0 (am_put (am_put M2 80 0 (2 * 0) (am_hi 1)) 80 0 (2 * 0 + 1) (am_lo 1)) := by
  rw [eL_forbid]
  refine eL_forbid_0 ?_
  refine ri h1 ?_
  refine eL_forbid_8 ?_
  refine iq h2 ?_
  refine ip (by decide) ?_
  try rw [show Int32.toNatClampNeg (0 : Int32) = 0 from by decide]
  all_goals rfl
theorem qX9_order_0 {x1 : Int32} {x2 : Int32} {x3 : Int32} {M : am_M} (h1 : ¬ (1 ≤ x1 ∧ x1 ≤ 999999)) : fX9_order [.inr (9, 0), .inl (.int x1), .inl (.int x2), .inl (.int x3)] M = am_rE "java/lang/IllegalArgumentException" M := by
  rw [eX9_order]
  refine eX9_order_0 ?_
  refine ri (sX9_isWithin _ _ _ _) ?_
  refine eX9_order_7 ?_
  refine ip (bi_f h1) ?_
  exact re rfl
theorem qX9_order_1 {x1 : Int32} {x2 : Int32} {x3 : Int32} {M : am_M} (h1 : 1 ≤ x1 ∧ x1 ≤ 999999) (h2 : ¬ (0 ≤ x2 ∧ x2 ≤ 3)) : fX9_order [.inr (9, 0), .inl (.int x1), .inl (.int x2), .inl (.int x3)] M = am_rE "java/lang/IllegalArgumentException" M := by
  rw [eX9_order]
  refine eX9_order_0 ?_
  refine ri (sX9_isWithin _ _ _ _) ?_
  refine eX9_order_7 ?_
  refine iq (fun e => bi_0.mp e h1) ?_
  refine ri (sX9_isWithin _ _ _ _) ?_
  refine eX9_order_16 ?_
  refine ip (bi_f h2) ?_
  exact re rfl
theorem qX9_order_2 {x1 : Int32} {x2 : Int32} {x3 : Int32} {M : am_M} {j1 : Nat} (h1 : 1 ≤ x1 ∧ x1 ≤ 999999) (h2 : 0 ≤ x2 ∧ x2 ≤ 3) (h3 : j1 < 4) (h4 : x2 = i3 j1) (h5 : (am_b (M 6 j1 3)) = 0) : fX9_order [.inr (9, 0), .inl (.int x1), .inl (.int x2), .inl (.int x3)] M = am_rE "java/lang/IllegalStateException" M := by
  rw [eX9_order]
  refine eX9_order_0 ?_
  refine ri (sX9_isWithin _ _ _ _) ?_
  refine eX9_order_7 ?_
  refine iq (fun e => bi_0.mp e h1) ?_
  refine ri (sX9_isWithin _ _ _ _) ?_
  refine eX9_order_16 ?_
  refine iq (fun e => bi_0.mp e h2) ?_
  refine rv rfl ?_
  refine eX9_order_27 ?_
  refine ip (ixi h4 h3 (by decide)) ?_
  try rw [ixn h4 h3 (by decide)]
  refine ip h5 ?_
  exact re rfl
theorem qX9_order_3 {x1 : Int32} {x2 : Int32} {x3 : Int32} {M : am_M} {j1 : Nat} (h1 : 1 ≤ x1 ∧ x1 ≤ 999999) (h2 : 0 ≤ x2 ∧ x2 ≤ 3) (h3 : j1 < 4) (h4 : x2 = i3 j1) (h5 : ¬ ((am_b (M 6 j1 3)) = 0)) (h6 : 40 ≤ (M 9 0 7)) : fX9_order [.inr (9, 0), .inl (.int x1), .inl (.int x2), .inl (.int x3)] M = am_rE "java/lang/IllegalStateException" M := by
  rw [eX9_order]
  refine eX9_order_0 ?_
  refine ri (sX9_isWithin _ _ _ _) ?_
  refine eX9_order_7 ?_
  refine iq (fun e => bi_0.mp e h1) ?_
  refine ri (sX9_isWithin _ _ _ _) ?_
  refine eX9_order_16 ?_
  refine iq (fun e => bi_0.mp e h2) ?_
  refine rv rfl ?_
  refine eX9_order_27 ?_
  refine ip (ixi h4 h3 (by decide)) ?_
  try rw [ixn h4 h3 (by decide)]
  refine iq h5 ?_
  refine ip h6 ?_
  exact re rfl
theorem qX9_order_4 {x1 : Int32} {x2 : Int32} {x3 : Int32} {M : am_M} {j1 : Nat} {j2 : Nat} {M3 : am_M} (h1 : 1 ≤ x1 ∧ x1 ≤ 999999) (h2 : 0 ≤ x2 ∧ x2 ≤ 3) (h3 : j1 < 4) (h4 : x2 = i3 j1) (h5 : ¬ ((am_b (M 6 j1 3)) = 0)) (h6 : ¬ (40 ≤ (M 9 0 7))) (h7 : j2 < 40) (h8 : (M 9 0 7) = i3 j2) (h9 : fX4_place [.inr (4, j2), .inl (.int x1), .inl (.int x2), .inl (.int x3)] M = am_rV M3) : fX9_order [.inr (9, 0), .inl (.int x1), .inl (.int x2), .inl (.int x3)] M = am_rI (M 9 0 7) (am_put M3 9 0 7 ((M 9 0 7) + 1)) := by
  rw [eX9_order]
  refine eX9_order_0 ?_
  refine ri (sX9_isWithin _ _ _ _) ?_
  refine eX9_order_7 ?_
  refine iq (fun e => bi_0.mp e h1) ?_
  refine ri (sX9_isWithin _ _ _ _) ?_
  refine eX9_order_16 ?_
  refine iq (fun e => bi_0.mp e h2) ?_
  refine rv rfl ?_
  refine eX9_order_27 ?_
  refine ip (ixi h4 h3 (by decide)) ?_
  try rw [ixn h4 h3 (by decide)]
  refine iq h5 ?_
  refine iq h6 ?_
  refine rv rfl ?_
  refine eX9_order_56 ?_
  refine ip (ixi h8 h7 (by decide)) ?_
  try rw [ixn h8 h7 (by decide)]
  refine rv h9 ?_
  refine eX9_order_75 ?_
  all_goals rfl
theorem qX4_place_0 {x0 : Nat} {x1 : Int32} {x2 : Int32} {x3 : Int32} {M : am_M} (h1 : am_b x3 = x3) : fX4_place [.inr (4, x0), .inl (.int x1), .inl (.int x2), .inl (.int x3)] M = am_rV (am_put (am_put (am_put M 4 x0 0 x1) 4 x0 1 x2) 4 x0 2 x3) := by
  rw [eX4_place]
  refine eX4_place_0 ?_
  refine ip h1 ?_
  all_goals rfl
theorem qX10_order_0 {x1 : Int32} {x2 : Int32} {x3 : Int32} {M : am_M} (h1 : ¬ (1 ≤ x1 ∧ x1 ≤ 999999)) : fX10_order [.inr (10, 0), .inl (.int x1), .inl (.int x2), .inl (.int x3)] M = am_rI 0 (am_put M 10 0 45 1) := by
  rw [eX10_order]
  refine eX10_order_0 ?_
  refine ri (sX10_within _ _ _ _) ?_
  refine eX10_order_8 ?_
  refine ip (bi_f h1) ?_
  all_goals rfl
theorem qX10_order_1 {x1 : Int32} {x2 : Int32} {x3 : Int32} {M : am_M} (h1 : 1 ≤ x1 ∧ x1 ≤ 999999) (h2 : ¬ (0 ≤ x2 ∧ x2 ≤ 3)) : fX10_order [.inr (10, 0), .inl (.int x1), .inl (.int x2), .inl (.int x3)] M = am_rI 0 (am_put M 10 0 45 1) := by
  rw [eX10_order]
  refine eX10_order_0 ?_
  refine ri (sX10_within _ _ _ _) ?_
  refine eX10_order_8 ?_
  refine iq (fun e => bi_0.mp e h1) ?_
  refine ri (sX10_isTest _ _) ?_
  refine eX10_order_15 ?_
  refine ip (bi_f h2) ?_
  all_goals rfl
theorem qX10_order_2 {x1 : Int32} {x2 : Int32} {x3 : Int32} {M : am_M} {j1 : Nat} (h1 : 1 ≤ x1 ∧ x1 ≤ 999999) (h2 : 0 ≤ x2 ∧ x2 ≤ 3) (h3 : j1 < 4) (h4 : x2 = i3 j1) (h5 : (am_b (M 31 0 j1)) = 0) : fX10_order [.inr (10, 0), .inl (.int x1), .inl (.int x2), .inl (.int x3)] M = am_rI 0 (am_put M 10 0 45 2) := by
  rw [eX10_order]
  refine eX10_order_0 ?_
  refine ri (sX10_within _ _ _ _) ?_
  refine eX10_order_8 ?_
  refine iq (fun e => bi_0.mp e h1) ?_
  refine ri (sX10_isTest _ _) ?_
  refine eX10_order_15 ?_
  refine iq (fun e => bi_0.mp e h2) ?_
  refine ip (ixi h4 h3 (by decide)) ?_
  try rw [ixn h4 h3 (by decide)]
  refine ip h5 ?_
  all_goals rfl
theorem qX10_order_3 {x1 : Int32} {x2 : Int32} {x3 : Int32} {M : am_M} {j1 : Nat} (h1 : 1 ≤ x1 ∧ x1 ≤ 999999) (h2 : 0 ≤ x2 ∧ x2 ≤ 3) (h3 : j1 < 4) (h4 : x2 = i3 j1) (h5 : ¬ ((am_b (M 31 0 j1)) = 0)) (h6 : (M 10 0 14) = 40) : fX10_order [.inr (10, 0), .inl (.int x1), .inl (.int x2), .inl (.int x3)] M = am_rI 0 (am_put M 10 0 45 2) := by
  rw [eX10_order]
  refine eX10_order_0 ?_
  refine ri (sX10_within _ _ _ _) ?_
  refine eX10_order_8 ?_
  refine iq (fun e => bi_0.mp e h1) ?_
  refine ri (sX10_isTest _ _) ?_
  refine eX10_order_15 ?_
  refine iq (fun e => bi_0.mp e h2) ?_
  refine ip (ixi h4 h3 (by decide)) ?_
  try rw [ixn h4 h3 (by decide)]
  refine iq h5 ?_
  refine ip h6 ?_
  all_goals rfl
theorem qX10_order_4 {x1 : Int32} {x2 : Int32} {x3 : Int32} {M : am_M} {j1 : Nat} {j2 : Nat} (h1 : 1 ≤ x1 ∧ x1 ≤ 999999) (h2 : 0 ≤ x2 ∧ x2 ≤ 3) (h3 : j1 < 4) (h4 : x2 = i3 j1) (h5 : ¬ ((am_b (M 31 0 j1)) = 0)) (h6 : ¬ ((M 10 0 14) = 40)) (h7 : j2 < 40) (h8 : (M 10 0 14) = i3 j2) (h9 : am_b x3 = x3) : fX10_order [.inr (10, 0), .inl (.int x1), .inl (.int x2), .inl (.int x3)] M = am_rI (((M 10 0 14) + 1) - 1) (am_put (am_put (am_put (am_put (am_put (am_put M 10 0 45 0) 45 0 j2 x1) 46 0 j2 x2) 47 0 j2 x3) 51 0 j2 (-1)) 10 0 14 ((M 10 0 14) + 1)) := by
  rw [eX10_order]
  refine eX10_order_0 ?_
  refine ri (sX10_within _ _ _ _) ?_
  refine eX10_order_8 ?_
  refine iq (fun e => bi_0.mp e h1) ?_
  refine ri (sX10_isTest _ _) ?_
  refine eX10_order_15 ?_
  refine iq (fun e => bi_0.mp e h2) ?_
  refine ip (ixi h4 h3 (by decide)) ?_
  try rw [ixn h4 h3 (by decide)]
  refine iq h5 ?_
  refine iq h6 ?_
  refine ip (ixi h8 h7 (by decide)) ?_
  try rw [ixn h8 h7 (by decide)]
  refine ip (ixi h8 h7 (by decide)) ?_
  try rw [ixn h8 h7 (by decide)]
  refine ip ⟨(ixi h8 h7 (by decide)), h9⟩ ?_
  try rw [ixn h8 h7 (by decide)]
  refine ip (ixi h8 h7 (by decide)) ?_
  try rw [ixn h8 h7 (by decide)]
  all_goals rfl
theorem qL_order_0 {x1 : Int32} {x2 : Int32} {x3 : Int32} {M : am_M} {M1 : am_M} (h1 : fX9_order [.inr (9, 0), .inl (.int x1), .inl (.int x2), .inl (.int x3)] M = am_rE "java/lang/IllegalArgumentException" M1) : fL_order [.inr (9, 0), .inl (.int x1), .inl (.int x2), .inl (.int x3), .inr (80, 0)] M = am_rI 1 M1 := by
  rw [eL_order]
  refine eL_order_0 ?_
  exact rh h1 rfl
theorem qL_order_1 {x1 : Int32} {x2 : Int32} {x3 : Int32} {M : am_M} {M1 : am_M} (h1 : fX9_order [.inr (9, 0), .inl (.int x1), .inl (.int x2), .inl (.int x3)] M = am_rE "java/lang/IllegalStateException" M1) : fL_order [.inr (9, 0), .inl (.int x1), .inl (.int x2), .inl (.int x3), .inr (80, 0)] M = am_rI 2 M1 := by
  rw [eL_order]
  refine eL_order_0 ?_
  exact rh h1 rfl
theorem qL_order_2 {x1 : Int32} {x2 : Int32} {x3 : Int32} {M : am_M} {v1 : Int32} {M2 : am_M} (h1 : fX9_order [.inr (9, 0), .inl (.int x1), .inl (.int x2), .inl (.int x3)] M = am_rI v1 M2) : fL_order [.inr (9, 0), .inl (.int x1), .inl (.int x2), .inl (.int x3), .inr (80, 0)] M = am_rI 0 (am_put (am_put M2 80 0 (2 * 0) (am_hi (Int32.toInt64 v1))) 80 0 (2 * 0 + 1) (am_lo (Int32.toInt64 v1))) := by
  rw [eL_order]
  refine eL_order_0 ?_
  refine ri h1 ?_
  refine eL_order_10 ?_
  refine ip (by decide) ?_
  try rw [show Int32.toNatClampNeg (0 : Int32) = 0 from by decide]
  all_goals rfl
