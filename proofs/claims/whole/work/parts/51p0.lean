/-! ===== the ways through the methods ===== -/
theorem qX1_start_0 {x0 : Nat} {x1 : Int32} {x2 : Int32} {M : am_M} (h1 : am_b x2 = x2) : fX1_start [.inr (1, x0), .inl (.int x1), .inl (.int x2)] M = am_rV (am_put (am_put (am_put (am_put (am_put M 1 x0 5 x1) 1 x0 6 x2) 1 x0 7 0) 1 x0 1 0) 1 x0 4 0) := by
  rw [eX1_start]
  refine eX1_start_0 ?_
  try simp only [am_put_nk, am_put_nf, am_put_i, not_false_eq_true, Nat.reduceEqDiff]
  refine ip h1 ?_
  all_goals rfl
