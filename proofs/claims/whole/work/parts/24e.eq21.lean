/-! ===== the runs, piece by piece ===== -/
def rL_spoil (n pc : Nat) (ls st : List am_V) (M : am_M) : am_R := am_run [fX9_spoil] [(0, 5, "java/lang/IllegalArgumentException", .int 1)] 1 am_X0 pL_spoil n pc ls st M
def gL_spoil (k : Nat → List am_V → List am_V → am_M → am_R) (pc : Nat) (ls st : List am_V) (M : am_M) : am_R := am_go [fX9_spoil] [(0, 5, "java/lang/IllegalArgumentException", .int 1)] 1 am_X0 pL_spoil [5] k 100 pc ls st M
theorem uL_spoil {n pc : Nat} {ls st : List am_V} {M : am_M} {res : am_O × am_M} (h : gL_spoil (rL_spoil n) pc ls st M = some res) : rL_spoil (n + 100) pc ls st M = some res := am_go_ok h
theorem eL_spoil (x1 : Int32) (M : am_M) : fL_spoil [.inr (9, 0), .inl (.int x1)] M = rL_spoil 100000 0 [.inr (9, 0), .inl (.int x1), am_D] [] M := am_meth_eq rfl rfl
set_option maxRecDepth 20000 in
theorem gL_spoil_0 (k : Nat → List am_V → List am_V → am_M → am_R) (x1 : Int32) (M : am_M) : gL_spoil k 0 [.inr (9, 0), .inl (.int x1), am_D] [] M =
  am_ret [(0, 5, "java/lang/IllegalArgumentException", .int 1)] 2 [] (k 5 [.inr (9, 0), .inl (.int x1), am_D]) (fX9_spoil [.inr (9, 0), .inl (.int x1)] M) := (rfl)
theorem eL_spoil_0 {n : Nat} {x1 : Int32} {M : am_M} {res : am_O × am_M} (h : (am_ret [(0, 5, "java/lang/IllegalArgumentException", .int 1)] 2 [] (rL_spoil n 5 [.inr (9, 0), .inl (.int x1), am_D]) (fX9_spoil [.inr (9, 0), .inl (.int x1)] M)) = some res) : rL_spoil (n + 100) 0 [.inr (9, 0), .inl (.int x1), am_D] [] M = some res := uL_spoil ((gL_spoil_0 (rL_spoil n) x1 M).trans h)
set_option maxRecDepth 20000 in
theorem gL_spoil_5 (k : Nat → List am_V → List am_V → am_M → am_R) (x1 : Int32) (M : am_M) : gL_spoil k 5 [.inr (9, 0), .inl (.int x1), am_D] [] M =
  some (.inl (some (.inl (.int 0))), M) := (rfl)
theorem eL_spoil_5 {n : Nat} {x1 : Int32} {M : am_M} {res : am_O × am_M} (h : (some (.inl (some (.inl (.int 0))), M)) = some res) : rL_spoil (n + 100) 5 [.inr (9, 0), .inl (.int x1), am_D] [] M = some res := uL_spoil ((gL_spoil_5 (rL_spoil n) x1 M).trans h)
def rL_state (n pc : Nat) (ls st : List am_V) (M : am_M) : am_R := am_run [fX9_state] [(0, 10, "java/lang/IllegalArgumentException", .int 1)] 1 am_X0 pL_state n pc ls st M
def gL_state (k : Nat → List am_V → List am_V → am_M → am_R) (pc : Nat) (ls st : List am_V) (M : am_M) : am_R := am_go [fX9_state] [(0, 10, "java/lang/IllegalArgumentException", .int 1)] 1 am_X0 pL_state [8] k 100 pc ls st M
theorem uL_state {n pc : Nat} {ls st : List am_V} {M : am_M} {res : am_O × am_M} (h : gL_state (rL_state n) pc ls st M = some res) : rL_state (n + 100) pc ls st M = some res := am_go_ok h
theorem eL_state (x1 : Int32) (x2 : Int32) (M : am_M) : fL_state [.inr (9, 0), .inl (.int x1), .inl (.int x2), .inr (80, 0)] M = rL_state 100000 0 [.inr (9, 0), .inl (.int x1), .inl (.int x2), .inr (80, 0), am_D] [] M := am_meth_eq rfl rfl
set_option maxRecDepth 20000 in
theorem gL_state_0 (k : Nat → List am_V → List am_V → am_M → am_R) (x1 : Int32) (x2 : Int32) (M : am_M) : gL_state k 0 [.inr (9, 0), .inl (.int x1), .inl (.int x2), .inr (80, 0), am_D] [] M =
  am_ret [(0, 10, "java/lang/IllegalArgumentException", .int 1)] 5 [.inl (.int 0), .inr (80, 0)] (k 8 [.inr (9, 0), .inl (.int x1), .inl (.int x2), .inr (80, 0), am_D]) (fX9_state [.inr (9, 0), .inl (.int x1), .inl (.int x2)] M) := (rfl)
theorem eL_state_0 {n : Nat} {x1 : Int32} {x2 : Int32} {M : am_M} {res : am_O × am_M} (h : (am_ret [(0, 10, "java/lang/IllegalArgumentException", .int 1)] 5 [.inl (.int 0), .inr (80, 0)] (rL_state n 8 [.inr (9, 0), .inl (.int x1), .inl (.int x2), .inr (80, 0), am_D]) (fX9_state [.inr (9, 0), .inl (.int x1), .inl (.int x2)] M)) = some res) : rL_state (n + 100) 0 [.inr (9, 0), .inl (.int x1), .inl (.int x2), .inr (80, 0), am_D] [] M = some res := uL_state ((gL_state_0 (rL_state n) x1 x2 M).trans h)
set_option maxRecDepth 20000 in
theorem gL_state_8 (k : Nat → List am_V → List am_V → am_M → am_R) (x1 : Int32) (x2 : Int32) (y0 : Int32) (y1 : Int32) (M : am_M) : gL_state k 8 [.inr (9, 0), .inl (.int x1), .inl (.int x2), .inr (80, 0), am_D] [.inl (.int y0), .inl (.int y1), .inr (80, 0)] M =
  if am_in y1 1 then
   some (.inl (some (.inl (.int 0))), (am_put (am_put M 80 0 (2 * (Int32.toNatClampNeg y1)) (am_hi (Int32.toInt64 y0))) 80 0 (2 * (Int32.toNatClampNeg y1) + 1) (am_lo (Int32.toInt64 y0))))
  else none := (rfl)
theorem eL_state_8 {n : Nat} {x1 : Int32} {x2 : Int32} {y0 : Int32} {y1 : Int32} {M : am_M} {res : am_O × am_M} (h : (if am_in y1 1 then
   some (.inl (some (.inl (.int 0))), (am_put (am_put M 80 0 (2 * (Int32.toNatClampNeg y1)) (am_hi (Int32.toInt64 y0))) 80 0 (2 * (Int32.toNatClampNeg y1) + 1) (am_lo (Int32.toInt64 y0))))
  else none) = some res) : rL_state (n + 100) 8 [.inr (9, 0), .inl (.int x1), .inl (.int x2), .inr (80, 0), am_D] [.inl (.int y0), .inl (.int y1), .inr (80, 0)] M = some res := uL_state ((gL_state_8 (rL_state n) x1 x2 y0 y1 M).trans h)
def rL_cuvette (n pc : Nat) (ls st : List am_V) (M : am_M) : am_R := am_run [fX9_cuvette] [(0, 10, "java/lang/IllegalArgumentException", .int 1)] 1 am_X0 pL_cuvette n pc ls st M
def gL_cuvette (k : Nat → List am_V → List am_V → am_M → am_R) (pc : Nat) (ls st : List am_V) (M : am_M) : am_R := am_go [fX9_cuvette] [(0, 10, "java/lang/IllegalArgumentException", .int 1)] 1 am_X0 pL_cuvette [8] k 100 pc ls st M
theorem uL_cuvette {n pc : Nat} {ls st : List am_V} {M : am_M} {res : am_O × am_M} (h : gL_cuvette (rL_cuvette n) pc ls st M = some res) : rL_cuvette (n + 100) pc ls st M = some res := am_go_ok h
theorem eL_cuvette (x1 : Int32) (x2 : Int32) (M : am_M) : fL_cuvette [.inr (9, 0), .inl (.int x1), .inl (.int x2), .inr (80, 0)] M = rL_cuvette 100000 0 [.inr (9, 0), .inl (.int x1), .inl (.int x2), .inr (80, 0), am_D] [] M := am_meth_eq rfl rfl
set_option maxRecDepth 20000 in
theorem gL_cuvette_0 (k : Nat → List am_V → List am_V → am_M → am_R) (x1 : Int32) (x2 : Int32) (M : am_M) : gL_cuvette k 0 [.inr (9, 0), .inl (.int x1), .inl (.int x2), .inr (80, 0), am_D] [] M =
  am_ret [(0, 10, "java/lang/IllegalArgumentException", .int 1)] 5 [.inl (.int 0), .inr (80, 0)] (k 8 [.inr (9, 0), .inl (.int x1), .inl (.int x2), .inr (80, 0), am_D]) (fX9_cuvette [.inr (9, 0), .inl (.int x1), .inl (.int x2)] M) := (rfl)
theorem eL_cuvette_0 {n : Nat} {x1 : Int32} {x2 : Int32} {M : am_M} {res : am_O × am_M} (h : (am_ret [(0, 10, "java/lang/IllegalArgumentException", .int 1)] 5 [.inl (.int 0), .inr (80, 0)] (rL_cuvette n 8 [.inr (9, 0), .inl (.int x1), .inl (.int x2), .inr (80, 0), am_D]) (fX9_cuvette [.inr (9, 0), .inl (.int x1), .inl (.int x2)] M)) = some res) : rL_cuvette (n + 100) 0 [.inr (9, 0), .inl (.int x1), .inl (.int x2), .inr (80, 0), am_D] [] M = some res := uL_cuvette ((gL_cuvette_0 (rL_cuvette n) x1 x2 M).trans h)
set_option maxRecDepth 20000 in
theorem gL_cuvette_8 (k : Nat → List am_V → List am_V → am_M → am_R) (x1 : Int32) (x2 : Int32) (y0 : Int32) (y1 : Int32) (M : am_M) : gL_cuvette k 8 [.inr (9, 0), .inl (.int x1), .inl (.int x2), .inr (80, 0), am_D] [.inl (.int y0), .inl (.int y1), .inr (80, 0)] M =
  if am_in y1 1 then
   some (.inl (some (.inl (.int 0))), (am_put (am_put M 80 0 (2 * (Int32.toNatClampNeg y1)) (am_hi (Int32.toInt64 y0))) 80 0 (2 * (Int32.toNatClampNeg y1) + 1) (am_lo (Int32.toInt64 y0))))
  else none := (rfl)
theorem eL_cuvette_8 {n : Nat} {x1 : Int32} {x2 : Int32} {y0 : Int32} {y1 : Int32} {M : am_M} {res : am_O × am_M} (h : (if am_in y1 1 then
   some (.inl (some (.inl (.int 0))), (am_put (am_put M 80 0 (2 * (Int32.toNatClampNeg y1)) (am_hi (Int32.toInt64 y0))) 80 0 (2 * (Int32.toNatClampNeg y1) + 1) (am_lo (Int32.toInt64 y0))))
  else none) = some res) : rL_cuvette (n + 100) 8 [.inr (9, 0), .inl (.int x1), .inl (.int x2), .inr (80, 0), am_D] [.inl (.int y0), .inl (.int y1), .inr (80, 0)] M = some res := uL_cuvette ((gL_cuvette_8 (rL_cuvette n) x1 x2 y0 y1 M).trans h)
def rL_volume (n pc : Nat) (ls st : List am_V) (M : am_M) : am_R := am_run [fX9_volume] [(0, 10, "java/lang/IllegalArgumentException", .int 1), (0, 10, "java/util/NoSuchElementException", .int 2)] 1 am_X0 pL_volume n pc ls st M
def gL_volume (k : Nat → List am_V → List am_V → am_M → am_R) (pc : Nat) (ls st : List am_V) (M : am_M) : am_R := am_go [fX9_volume] [(0, 10, "java/lang/IllegalArgumentException", .int 1), (0, 10, "java/util/NoSuchElementException", .int 2)] 1 am_X0 pL_volume [8] k 100 pc ls st M
theorem uL_volume {n pc : Nat} {ls st : List am_V} {M : am_M} {res : am_O × am_M} (h : gL_volume (rL_volume n) pc ls st M = some res) : rL_volume (n + 100) pc ls st M = some res := am_go_ok h
theorem eL_volume (x1 : Int32) (x2 : Int32) (M : am_M) : fL_volume [.inr (9, 0), .inl (.int x1), .inl (.int x2), .inr (80, 0)] M = rL_volume 100000 0 [.inr (9, 0), .inl (.int x1), .inl (.int x2), .inr (80, 0), am_D] [] M := am_meth_eq rfl rfl
set_option maxRecDepth 20000 in
theorem gL_volume_0 (k : Nat → List am_V → List am_V → am_M → am_R) (x1 : Int32) (x2 : Int32) (M : am_M) : gL_volume k 0 [.inr (9, 0), .inl (.int x1), .inl (.int x2), .inr (80, 0), am_D] [] M =
  am_ret [(0, 10, "java/lang/IllegalArgumentException", .int 1), (0, 10, "java/util/NoSuchElementException", .int 2)] 5 [.inl (.int 0), .inr (80, 0)] (k 8 [.inr (9, 0), .inl (.int x1), .inl (.int x2), .inr (80, 0), am_D]) (fX9_volume [.inr (9, 0), .inl (.int x1), .inl (.int x2)] M) := (rfl)
theorem eL_volume_0 {n : Nat} {x1 : Int32} {x2 : Int32} {M : am_M} {res : am_O × am_M} (h : (am_ret [(0, 10, "java/lang/IllegalArgumentException", .int 1), (0, 10, "java/util/NoSuchElementException", .int 2)] 5 [.inl (.int 0), .inr (80, 0)] (rL_volume n 8 [.inr (9, 0), .inl (.int x1), .inl (.int x2), .inr (80, 0), am_D]) (fX9_volume [.inr (9, 0), .inl (.int x1), .inl (.int x2)] M)) = some res) : rL_volume (n + 100) 0 [.inr (9, 0), .inl (.int x1), .inl (.int x2), .inr (80, 0), am_D] [] M = some res := uL_volume ((gL_volume_0 (rL_volume n) x1 x2 M).trans h)
set_option maxRecDepth 20000 in
theorem gL_volume_8 (k : Nat → List am_V → List am_V → am_M → am_R) (x1 : Int32) (x2 : Int32) (y0 : Int32) (y1 : Int32) (M : am_M) : gL_volume k 8 [.inr (9, 0), .inl (.int x1), .inl (.int x2), .inr (80, 0), am_D] [.inl (.int y0), .inl (.int y1), .inr (80, 0)] M =
  if am_in y1 1 then
   some (.inl (some (.inl (.int 0))), (am_put (am_put M 80 0 (2 * (Int32.toNatClampNeg y1)) (am_hi (Int32.toInt64 y0))) 80 0 (2 * (Int32.toNatClampNeg y1) + 1) (am_lo (Int32.toInt64 y0))))
  else none := (rfl)
theorem eL_volume_8 {n : Nat} {x1 : Int32} {x2 : Int32} {y0 : Int32} {y1 : Int32} {M : am_M} {res : am_O × am_M} (h : (if am_in y1 1 then
   some (.inl (some (.inl (.int 0))), (am_put (am_put M 80 0 (2 * (Int32.toNatClampNeg y1)) (am_hi (Int32.toInt64 y0))) 80 0 (2 * (Int32.toNatClampNeg y1) + 1) (am_lo (Int32.toInt64 y0))))
  else none) = some res) : rL_volume (n + 100) 8 [.inr (9, 0), .inl (.int x1), .inl (.int x2), .inr (80, 0), am_D] [.inl (.int y0), .inl (.int y1), .inr (80, 0)] M = some res := uL_volume ((gL_volume_8 (rL_volume n) x1 x2 y0 y1 M).trans h)
def rL_trend (n pc : Nat) (ls st : List am_V) (M : am_M) : am_R := am_run [fX9_trend] [(0, 10, "java/lang/IllegalArgumentException", .int 1), (0, 10, "java/lang/IndexOutOfBoundsException", .int 2)] 1 am_X0 pL_trend n pc ls st M
def gL_trend (k : Nat → List am_V → List am_V → am_M → am_R) (pc : Nat) (ls st : List am_V) (M : am_M) : am_R := am_go [fX9_trend] [(0, 10, "java/lang/IllegalArgumentException", .int 1), (0, 10, "java/lang/IndexOutOfBoundsException", .int 2)] 1 am_X0 pL_trend [8] k 100 pc ls st M
theorem uL_trend {n pc : Nat} {ls st : List am_V} {M : am_M} {res : am_O × am_M} (h : gL_trend (rL_trend n) pc ls st M = some res) : rL_trend (n + 100) pc ls st M = some res := am_go_ok h
theorem eL_trend (x1 : Int32) (x2 : Int32) (M : am_M) : fL_trend [.inr (9, 0), .inl (.int x1), .inl (.int x2), .inr (80, 0)] M = rL_trend 100000 0 [.inr (9, 0), .inl (.int x1), .inl (.int x2), .inr (80, 0), am_D] [] M := am_meth_eq rfl rfl
set_option maxRecDepth 20000 in
theorem gL_trend_0 (k : Nat → List am_V → List am_V → am_M → am_R) (x1 : Int32) (x2 : Int32) (M : am_M) : gL_trend k 0 [.inr (9, 0), .inl (.int x1), .inl (.int x2), .inr (80, 0), am_D] [] M =
  am_ret [(0, 10, "java/lang/IllegalArgumentException", .int 1), (0, 10, "java/lang/IndexOutOfBoundsException", .int 2)] 5 [.inl (.int 0), .inr (80, 0)] (k 8 [.inr (9, 0), .inl (.int x1), .inl (.int x2), .inr (80, 0), am_D]) (fX9_trend [.inr (9, 0), .inl (.int x1), .inl (.int x2)] M) := (rfl)
theorem eL_trend_0 {n : Nat} {x1 : Int32} {x2 : Int32} {M : am_M} {res : am_O × am_M} (h : (am_ret [(0, 10, "java/lang/IllegalArgumentException", .int 1), (0, 10, "java/lang/IndexOutOfBoundsException", .int 2)] 5 [.inl (.int 0), .inr (80, 0)] (rL_trend n 8 [.inr (9, 0), .inl (.int x1), .inl (.int x2), .inr (80, 0), am_D]) (fX9_trend [.inr (9, 0), .inl (.int x1), .inl (.int x2)] M)) = some res) : rL_trend (n + 100) 0 [.inr (9, 0), .inl (.int x1), .inl (.int x2), .inr (80, 0), am_D] [] M = some res := uL_trend ((gL_trend_0 (rL_trend n) x1 x2 M).trans h)
set_option maxRecDepth 20000 in
theorem gL_trend_8 (k : Nat → List am_V → List am_V → am_M → am_R) (x1 : Int32) (x2 : Int32) (y0 : Int32) (y1 : Int32) (M : am_M) : gL_trend k 8 [.inr (9, 0), .inl (.int x1), .inl (.int x2), .inr (80, 0), am_D] [.inl (.int y0), .inl (.int y1), .inr (80, 0)] M =
  if am_in y1 1 then
   some (.inl (some (.inl (.int 0))), (am_put (am_put M 80 0 (2 * (Int32.toNatClampNeg y1)) (am_hi (Int32.toInt64 y0))) 80 0 (2 * (Int32.toNatClampNeg y1) + 1) (am_lo (Int32.toInt64 y0))))
  else none := (rfl)
theorem eL_trend_8 {n : Nat} {x1 : Int32} {x2 : Int32} {y0 : Int32} {y1 : Int32} {M : am_M} {res : am_O × am_M} (h : (if am_in y1 1 then
   some (.inl (some (.inl (.int 0))), (am_put (am_put M 80 0 (2 * (Int32.toNatClampNeg y1)) (am_hi (Int32.toInt64 y0))) 80 0 (2 * (Int32.toNatClampNeg y1) + 1) (am_lo (Int32.toInt64 y0))))
  else none) = some res) : rL_trend (n + 100) 8 [.inr (9, 0), .inl (.int x1), .inl (.int x2), .inr (80, 0), am_D] [.inl (.int y0), .inl (.int y1), .inr (80, 0)] M = some res := uL_trend ((gL_trend_8 (rL_trend n) x1 x2 y0 y1 M).trans h)
def rL_rules (n pc : Nat) (ls st : List am_V) (M : am_M) : am_R := am_run [fX9_rules] [(0, 9, "java/lang/IllegalArgumentException", .int 1)] 1 am_X0 pL_rules n pc ls st M
def gL_rules (k : Nat → List am_V → List am_V → am_M → am_R) (pc : Nat) (ls st : List am_V) (M : am_M) : am_R := am_go [fX9_rules] [(0, 9, "java/lang/IllegalArgumentException", .int 1)] 1 am_X0 pL_rules [7] k 100 pc ls st M
theorem uL_rules {n pc : Nat} {ls st : List am_V} {M : am_M} {res : am_O × am_M} (h : gL_rules (rL_rules n) pc ls st M = some res) : rL_rules (n + 100) pc ls st M = some res := am_go_ok h
theorem eL_rules (x1 : Int32) (M : am_M) : fL_rules [.inr (9, 0), .inl (.int x1), .inr (80, 0)] M = rL_rules 100000 0 [.inr (9, 0), .inl (.int x1), .inr (80, 0), am_D] [] M := am_meth_eq rfl rfl
set_option maxRecDepth 20000 in
theorem gL_rules_0 (k : Nat → List am_V → List am_V → am_M → am_R) (x1 : Int32) (M : am_M) : gL_rules k 0 [.inr (9, 0), .inl (.int x1), .inr (80, 0), am_D] [] M =
  am_ret [(0, 9, "java/lang/IllegalArgumentException", .int 1)] 4 [.inl (.int 0), .inr (80, 0)] (k 7 [.inr (9, 0), .inl (.int x1), .inr (80, 0), am_D]) (fX9_rules [.inr (9, 0), .inl (.int x1)] M) := (rfl)
theorem eL_rules_0 {n : Nat} {x1 : Int32} {M : am_M} {res : am_O × am_M} (h : (am_ret [(0, 9, "java/lang/IllegalArgumentException", .int 1)] 4 [.inl (.int 0), .inr (80, 0)] (rL_rules n 7 [.inr (9, 0), .inl (.int x1), .inr (80, 0), am_D]) (fX9_rules [.inr (9, 0), .inl (.int x1)] M)) = some res) : rL_rules (n + 100) 0 [.inr (9, 0), .inl (.int x1), .inr (80, 0), am_D] [] M = some res := uL_rules ((gL_rules_0 (rL_rules n) x1 M).trans h)
set_option maxRecDepth 20000 in
theorem gL_rules_7 (k : Nat → List am_V → List am_V → am_M → am_R) (x1 : Int32) (y0 : Int32) (y1 : Int32) (M : am_M) : gL_rules k 7 [.inr (9, 0), .inl (.int x1), .inr (80, 0), am_D] [.inl (.int y0), .inl (.int y1), .inr (80, 0)] M =
  if am_in y1 1 then
   some (.inl (some (.inl (.int 0))), (am_put (am_put M 80 0 (2 * (Int32.toNatClampNeg y1)) (am_hi (Int32.toInt64 y0))) 80 0 (2 * (Int32.toNatClampNeg y1) + 1) (am_lo (Int32.toInt64 y0))))
  else none := (rfl)
theorem eL_rules_7 {n : Nat} {x1 : Int32} {y0 : Int32} {y1 : Int32} {M : am_M} {res : am_O × am_M} (h : (if am_in y1 1 then
   some (.inl (some (.inl (.int 0))), (am_put (am_put M 80 0 (2 * (Int32.toNatClampNeg y1)) (am_hi (Int32.toInt64 y0))) 80 0 (2 * (Int32.toNatClampNeg y1) + 1) (am_lo (Int32.toInt64 y0))))
  else none) = some res) : rL_rules (n + 100) 7 [.inr (9, 0), .inl (.int x1), .inr (80, 0), am_D] [.inl (.int y0), .inl (.int y1), .inr (80, 0)] M = some res := uL_rules ((gL_rules_7 (rL_rules n) x1 y0 y1 M).trans h)
def rL_host (n pc : Nat) (ls st : List am_V) (M : am_M) : am_R := am_run [fX9_host] [(0, 9, "java/lang/IndexOutOfBoundsException", .int 1)] 1 am_X0 pL_host n pc ls st M
def gL_host (k : Nat → List am_V → List am_V → am_M → am_R) (pc : Nat) (ls st : List am_V) (M : am_M) : am_R := am_go [fX9_host] [(0, 9, "java/lang/IndexOutOfBoundsException", .int 1)] 1 am_X0 pL_host [7] k 100 pc ls st M
theorem uL_host {n pc : Nat} {ls st : List am_V} {M : am_M} {res : am_O × am_M} (h : gL_host (rL_host n) pc ls st M = some res) : rL_host (n + 100) pc ls st M = some res := am_go_ok h
theorem eL_host (x1 : Int32) (M : am_M) : fL_host [.inr (9, 0), .inl (.int x1), .inr (80, 0)] M = rL_host 100000 0 [.inr (9, 0), .inl (.int x1), .inr (80, 0), am_D] [] M := am_meth_eq rfl rfl
set_option maxRecDepth 20000 in
theorem gL_host_0 (k : Nat → List am_V → List am_V → am_M → am_R) (x1 : Int32) (M : am_M) : gL_host k 0 [.inr (9, 0), .inl (.int x1), .inr (80, 0), am_D] [] M =
  am_ret [(0, 9, "java/lang/IndexOutOfBoundsException", .int 1)] 4 [.inl (.int 0), .inr (80, 0)] (k 7 [.inr (9, 0), .inl (.int x1), .inr (80, 0), am_D]) (fX9_host [.inr (9, 0), .inl (.int x1)] M) := (rfl)
theorem eL_host_0 {n : Nat} {x1 : Int32} {M : am_M} {res : am_O × am_M} (h : (am_ret [(0, 9, "java/lang/IndexOutOfBoundsException", .int 1)] 4 [.inl (.int 0), .inr (80, 0)] (rL_host n 7 [.inr (9, 0), .inl (.int x1), .inr (80, 0), am_D]) (fX9_host [.inr (9, 0), .inl (.int x1)] M)) = some res) : rL_host (n + 100) 0 [.inr (9, 0), .inl (.int x1), .inr (80, 0), am_D] [] M = some res := uL_host ((gL_host_0 (rL_host n) x1 M).trans h)
set_option maxRecDepth 20000 in
theorem gL_host_7 (k : Nat → List am_V → List am_V → am_M → am_R) (x1 : Int32) (y0 : Int32) (y1 : Int32) (M : am_M) : gL_host k 7 [.inr (9, 0), .inl (.int x1), .inr (80, 0), am_D] [.inl (.int y0), .inl (.int y1), .inr (80, 0)] M =
  if am_in y1 1 then
   some (.inl (some (.inl (.int 0))), (am_put (am_put M 80 0 (2 * (Int32.toNatClampNeg y1)) (am_hi (Int32.toInt64 y0))) 80 0 (2 * (Int32.toNatClampNeg y1) + 1) (am_lo (Int32.toInt64 y0))))
  else none := (rfl)
theorem eL_host_7 {n : Nat} {x1 : Int32} {y0 : Int32} {y1 : Int32} {M : am_M} {res : am_O × am_M} (h : (if am_in y1 1 then
   some (.inl (some (.inl (.int 0))), (am_put (am_put M 80 0 (2 * (Int32.toNatClampNeg y1)) (am_hi (Int32.toInt64 y0))) 80 0 (2 * (Int32.toNatClampNeg y1) + 1) (am_lo (Int32.toInt64 y0))))
  else none) = some res) : rL_host (n + 100) 7 [.inr (9, 0), .inl (.int x1), .inr (80, 0), am_D] [.inl (.int y0), .inl (.int y1), .inr (80, 0)] M = some res := uL_host ((gL_host_7 (rL_host n) x1 y0 y1 M).trans h)
def rL_took (n pc : Nat) (ls st : List am_V) (M : am_M) : am_R := am_run [fX9_took] [(0, 9, "java/lang/IllegalArgumentException", .int 1)] 1 am_X0 pL_took n pc ls st M
def gL_took (k : Nat → List am_V → List am_V → am_M → am_R) (pc : Nat) (ls st : List am_V) (M : am_M) : am_R := am_go [fX9_took] [(0, 9, "java/lang/IllegalArgumentException", .int 1)] 1 am_X0 pL_took [7] k 100 pc ls st M
theorem uL_took {n pc : Nat} {ls st : List am_V} {M : am_M} {res : am_O × am_M} (h : gL_took (rL_took n) pc ls st M = some res) : rL_took (n + 100) pc ls st M = some res := am_go_ok h
theorem eL_took (x1 : Int32) (M : am_M) : fL_took [.inr (9, 0), .inl (.int x1), .inr (80, 0)] M = rL_took 100000 0 [.inr (9, 0), .inl (.int x1), .inr (80, 0), am_D] [] M := am_meth_eq rfl rfl
set_option maxRecDepth 20000 in
theorem gL_took_0 (k : Nat → List am_V → List am_V → am_M → am_R) (x1 : Int32) (M : am_M) : gL_took k 0 [.inr (9, 0), .inl (.int x1), .inr (80, 0), am_D] [] M =
  am_ret [(0, 9, "java/lang/IllegalArgumentException", .int 1)] 4 [.inl (.int 0), .inr (80, 0)] (k 7 [.inr (9, 0), .inl (.int x1), .inr (80, 0), am_D]) (fX9_took [.inr (9, 0), .inl (.int x1)] M) := (rfl)
theorem eL_took_0 {n : Nat} {x1 : Int32} {M : am_M} {res : am_O × am_M} (h : (am_ret [(0, 9, "java/lang/IllegalArgumentException", .int 1)] 4 [.inl (.int 0), .inr (80, 0)] (rL_took n 7 [.inr (9, 0), .inl (.int x1), .inr (80, 0), am_D]) (fX9_took [.inr (9, 0), .inl (.int x1)] M)) = some res) : rL_took (n + 100) 0 [.inr (9, 0), .inl (.int x1), .inr (80, 0), am_D] [] M = some res := uL_took ((gL_took_0 (rL_took n) x1 M).trans h)
set_option maxRecDepth 20000 in
theorem gL_took_7 (k : Nat → List am_V → List am_V → am_M → am_R) (x1 : Int32) (y0 : Int32) (y1 : Int32) (M : am_M) : gL_took k 7 [.inr (9, 0), .inl (.int x1), .inr (80, 0), am_D] [.inl (.int y0), .inl (.int y1), .inr (80, 0)] M =
  if am_in y1 1 then
   some (.inl (some (.inl (.int 0))), (am_put (am_put M 80 0 (2 * (Int32.toNatClampNeg y1)) (am_hi (Int32.toInt64 y0))) 80 0 (2 * (Int32.toNatClampNeg y1) + 1) (am_lo (Int32.toInt64 y0))))
  else none := (rfl)
theorem eL_took_7 {n : Nat} {x1 : Int32} {y0 : Int32} {y1 : Int32} {M : am_M} {res : am_O × am_M} (h : (if am_in y1 1 then
   some (.inl (some (.inl (.int 0))), (am_put (am_put M 80 0 (2 * (Int32.toNatClampNeg y1)) (am_hi (Int32.toInt64 y0))) 80 0 (2 * (Int32.toNatClampNeg y1) + 1) (am_lo (Int32.toInt64 y0))))
  else none) = some res) : rL_took (n + 100) 7 [.inr (9, 0), .inl (.int x1), .inr (80, 0), am_D] [.inl (.int y0), .inl (.int y1), .inr (80, 0)] M = some res := uL_took ((gL_took_7 (rL_took n) x1 y0 y1 M).trans h)
