/-! ===== the runs, piece by piece ===== -/
def rL_seal (n pc : Nat) (ls st : List am_V) (M : am_M) : am_R := am_run [fX9_seal] [(0, 16, "java/lang/IllegalArgumentException", .int 1)] 1 am_X0 pL_seal n pc ls st M
def gL_seal (k : Nat → List am_V → List am_V → am_M → am_R) (pc : Nat) (ls st : List am_V) (M : am_M) : am_R := am_go [fX9_seal] [(0, 16, "java/lang/IllegalArgumentException", .int 1)] 1 am_X0 pL_seal [7] k 100 pc ls st M
theorem uL_seal {n pc : Nat} {ls st : List am_V} {M : am_M} {res : am_O × am_M} (h : gL_seal (rL_seal n) pc ls st M = some res) : rL_seal (n + 100) pc ls st M = some res := am_go_ok h
theorem eL_seal (x1 : Int32) (M : am_M) : fL_seal [.inr (9, 0), .inl (.int x1), .inr (80, 0)] M = rL_seal 100000 0 [.inr (9, 0), .inl (.int x1), .inr (80, 0), am_D] [] M := am_meth_eq rfl rfl
set_option maxRecDepth 20000 in
theorem gL_seal_0 (k : Nat → List am_V → List am_V → am_M → am_R) (x1 : Int32) (M : am_M) : gL_seal k 0 [.inr (9, 0), .inl (.int x1), .inr (80, 0), am_D] [] M =
  am_ret [(0, 16, "java/lang/IllegalArgumentException", .int 1)] 4 [.inl (.int 0), .inr (80, 0)] (k 7 [.inr (9, 0), .inl (.int x1), .inr (80, 0), am_D]) (fX9_seal [.inr (9, 0), .inl (.int x1)] M) := (rfl)
theorem eL_seal_0 {n : Nat} {x1 : Int32} {M : am_M} {res : am_O × am_M} (h : (am_ret [(0, 16, "java/lang/IllegalArgumentException", .int 1)] 4 [.inl (.int 0), .inr (80, 0)] (rL_seal n 7 [.inr (9, 0), .inl (.int x1), .inr (80, 0), am_D]) (fX9_seal [.inr (9, 0), .inl (.int x1)] M)) = some res) : rL_seal (n + 100) 0 [.inr (9, 0), .inl (.int x1), .inr (80, 0), am_D] [] M = some res := uL_seal ((gL_seal_0 (rL_seal n) x1 M).trans h)
set_option maxRecDepth 20000 in
theorem gL_seal_7 (k : Nat → List am_V → List am_V → am_M → am_R) (x1 : Int32) (y0 : Int32) (y1 : Int32) (M : am_M) : gL_seal k 7 [.inr (9, 0), .inl (.int x1), .inr (80, 0), am_D] [.inl (.int y0), .inl (.int y1), .inr (80, 0)] M =
  if y0 = 0 then
   if am_in y1 1 then
    some (.inl (some (.inl (.int 0))), (am_put (am_put M 80 0 (2 * (Int32.toNatClampNeg y1)) (am_hi 0)) 80 0 (2 * (Int32.toNatClampNeg y1) + 1) (am_lo 0)))
   else none
  else if am_in y1 1 then
   some (.inl (some (.inl (.int 0))), (am_put (am_put M 80 0 (2 * (Int32.toNatClampNeg y1)) (am_hi 1)) 80 0 (2 * (Int32.toNatClampNeg y1) + 1) (am_lo 1)))
  else none := (rfl)
theorem eL_seal_7 {n : Nat} {x1 : Int32} {y0 : Int32} {y1 : Int32} {M : am_M} {res : am_O × am_M} (h : (if y0 = 0 then
   if am_in y1 1 then
    some (.inl (some (.inl (.int 0))), (am_put (am_put M 80 0 (2 * (Int32.toNatClampNeg y1)) (am_hi 0)) 80 0 (2 * (Int32.toNatClampNeg y1) + 1) (am_lo 0)))
   else none
  else if am_in y1 1 then
   some (.inl (some (.inl (.int 0))), (am_put (am_put M 80 0 (2 * (Int32.toNatClampNeg y1)) (am_hi 1)) 80 0 (2 * (Int32.toNatClampNeg y1) + 1) (am_lo 1)))
  else none) = some res) : rL_seal (n + 100) 7 [.inr (9, 0), .inl (.int x1), .inr (80, 0), am_D] [.inl (.int y0), .inl (.int y1), .inr (80, 0)] M = some res := uL_seal ((gL_seal_7 (rL_seal n) x1 y0 y1 M).trans h)
def rL_rack (n pc : Nat) (ls st : List am_V) (M : am_M) : am_R := am_run [fX9_rack] [(0, 9, "java/lang/IllegalArgumentException", .int 1), (0, 9, "java/lang/IllegalStateException", .int 2)] 1 am_X0 pL_rack n pc ls st M
def gL_rack (k : Nat → List am_V → List am_V → am_M → am_R) (pc : Nat) (ls st : List am_V) (M : am_M) : am_R := am_go [fX9_rack] [(0, 9, "java/lang/IllegalArgumentException", .int 1), (0, 9, "java/lang/IllegalStateException", .int 2)] 1 am_X0 pL_rack [9] k 100 pc ls st M
theorem uL_rack {n pc : Nat} {ls st : List am_V} {M : am_M} {res : am_O × am_M} (h : gL_rack (rL_rack n) pc ls st M = some res) : rL_rack (n + 100) pc ls st M = some res := am_go_ok h
theorem eL_rack (x1 : Int32) (x2 : Int32) (x3 : Int32) (x4 : Int32) (M : am_M) : fL_rack [.inr (9, 0), .inl (.int x1), .inl (.int x2), .inl (.int x3), .inl (.int x4)] M = rL_rack 100000 0 [.inr (9, 0), .inl (.int x1), .inl (.int x2), .inl (.int x3), .inl (.int x4), am_D] [] M := am_meth_eq rfl rfl
set_option maxRecDepth 20000 in
theorem gL_rack_0 (k : Nat → List am_V → List am_V → am_M → am_R) (x1 : Int32) (x2 : Int32) (x3 : Int32) (x4 : Int32) (M : am_M) : gL_rack k 0 [.inr (9, 0), .inl (.int x1), .inl (.int x2), .inl (.int x3), .inl (.int x4), am_D] [] M =
  am_ret [(0, 9, "java/lang/IllegalArgumentException", .int 1), (0, 9, "java/lang/IllegalStateException", .int 2)] 6 [] (k 9 [.inr (9, 0), .inl (.int x1), .inl (.int x2), .inl (.int x3), .inl (.int x4), am_D]) (fX9_rack [.inr (9, 0), .inl (.int x1), .inl (.int x2), .inl (.int x3), .inl (.int x4)] M) := (rfl)
theorem eL_rack_0 {n : Nat} {x1 : Int32} {x2 : Int32} {x3 : Int32} {x4 : Int32} {M : am_M} {res : am_O × am_M} (h : (am_ret [(0, 9, "java/lang/IllegalArgumentException", .int 1), (0, 9, "java/lang/IllegalStateException", .int 2)] 6 [] (rL_rack n 9 [.inr (9, 0), .inl (.int x1), .inl (.int x2), .inl (.int x3), .inl (.int x4), am_D]) (fX9_rack [.inr (9, 0), .inl (.int x1), .inl (.int x2), .inl (.int x3), .inl (.int x4)] M)) = some res) : rL_rack (n + 100) 0 [.inr (9, 0), .inl (.int x1), .inl (.int x2), .inl (.int x3), .inl (.int x4), am_D] [] M = some res := uL_rack ((gL_rack_0 (rL_rack n) x1 x2 x3 x4 M).trans h)
set_option maxRecDepth 20000 in
theorem gL_rack_9 (k : Nat → List am_V → List am_V → am_M → am_R) (x1 : Int32) (x2 : Int32) (x3 : Int32) (x4 : Int32) (M : am_M) : gL_rack k 9 [.inr (9, 0), .inl (.int x1), .inl (.int x2), .inl (.int x3), .inl (.int x4), am_D] [] M =
  some (.inl (some (.inl (.int 0))), M) := (rfl)
theorem eL_rack_9 {n : Nat} {x1 : Int32} {x2 : Int32} {x3 : Int32} {x4 : Int32} {M : am_M} {res : am_O × am_M} (h : (some (.inl (some (.inl (.int 0))), M)) = some res) : rL_rack (n + 100) 9 [.inr (9, 0), .inl (.int x1), .inl (.int x2), .inl (.int x3), .inl (.int x4), am_D] [] M = some res := uL_rack ((gL_rack_9 (rL_rack n) x1 x2 x3 x4 M).trans h)
def rL_removeRack (n pc : Nat) (ls st : List am_V) (M : am_M) : am_R := am_run [fX9_removeRack] [(0, 9, "java/lang/IllegalArgumentException", .int 1), (0, 9, "java/util/NoSuchElementException", .int 2), (0, 9, "java/lang/IllegalStateException", .int 3)] 1 am_X0 pL_removeRack n pc ls st M
def gL_removeRack (k : Nat → List am_V → List am_V → am_M → am_R) (pc : Nat) (ls st : List am_V) (M : am_M) : am_R := am_go [fX9_removeRack] [(0, 9, "java/lang/IllegalArgumentException", .int 1), (0, 9, "java/util/NoSuchElementException", .int 2), (0, 9, "java/lang/IllegalStateException", .int 3)] 1 am_X0 pL_removeRack [7] k 100 pc ls st M
theorem uL_removeRack {n pc : Nat} {ls st : List am_V} {M : am_M} {res : am_O × am_M} (h : gL_removeRack (rL_removeRack n) pc ls st M = some res) : rL_removeRack (n + 100) pc ls st M = some res := am_go_ok h
theorem eL_removeRack (x1 : Int32) (M : am_M) : fL_removeRack [.inr (9, 0), .inl (.int x1), .inr (80, 0)] M = rL_removeRack 100000 0 [.inr (9, 0), .inl (.int x1), .inr (80, 0), am_D] [] M := am_meth_eq rfl rfl
set_option maxRecDepth 20000 in
theorem gL_removeRack_0 (k : Nat → List am_V → List am_V → am_M → am_R) (x1 : Int32) (M : am_M) : gL_removeRack k 0 [.inr (9, 0), .inl (.int x1), .inr (80, 0), am_D] [] M =
  am_ret [(0, 9, "java/lang/IllegalArgumentException", .int 1), (0, 9, "java/util/NoSuchElementException", .int 2), (0, 9, "java/lang/IllegalStateException", .int 3)] 4 [.inl (.int 0), .inr (80, 0)] (k 7 [.inr (9, 0), .inl (.int x1), .inr (80, 0), am_D]) (fX9_removeRack [.inr (9, 0), .inl (.int x1)] M) := (rfl)
theorem eL_removeRack_0 {n : Nat} {x1 : Int32} {M : am_M} {res : am_O × am_M} (h : (am_ret [(0, 9, "java/lang/IllegalArgumentException", .int 1), (0, 9, "java/util/NoSuchElementException", .int 2), (0, 9, "java/lang/IllegalStateException", .int 3)] 4 [.inl (.int 0), .inr (80, 0)] (rL_removeRack n 7 [.inr (9, 0), .inl (.int x1), .inr (80, 0), am_D]) (fX9_removeRack [.inr (9, 0), .inl (.int x1)] M)) = some res) : rL_removeRack (n + 100) 0 [.inr (9, 0), .inl (.int x1), .inr (80, 0), am_D] [] M = some res := uL_removeRack ((gL_removeRack_0 (rL_removeRack n) x1 M).trans h)
set_option maxRecDepth 20000 in
theorem gL_removeRack_7 (k : Nat → List am_V → List am_V → am_M → am_R) (x1 : Int32) (y0 : Int32) (y1 : Int32) (M : am_M) : gL_removeRack k 7 [.inr (9, 0), .inl (.int x1), .inr (80, 0), am_D] [.inl (.int y0), .inl (.int y1), .inr (80, 0)] M =
  if am_in y1 1 then
   some (.inl (some (.inl (.int 0))), (am_put (am_put M 80 0 (2 * (Int32.toNatClampNeg y1)) (am_hi (Int32.toInt64 y0))) 80 0 (2 * (Int32.toNatClampNeg y1) + 1) (am_lo (Int32.toInt64 y0))))
  else none := (rfl)
theorem eL_removeRack_7 {n : Nat} {x1 : Int32} {y0 : Int32} {y1 : Int32} {M : am_M} {res : am_O × am_M} (h : (if am_in y1 1 then
   some (.inl (some (.inl (.int 0))), (am_put (am_put M 80 0 (2 * (Int32.toNatClampNeg y1)) (am_hi (Int32.toInt64 y0))) 80 0 (2 * (Int32.toNatClampNeg y1) + 1) (am_lo (Int32.toInt64 y0))))
  else none) = some res) : rL_removeRack (n + 100) 7 [.inr (9, 0), .inl (.int x1), .inr (80, 0), am_D] [.inl (.int y0), .inl (.int y1), .inr (80, 0)] M = some res := uL_removeRack ((gL_removeRack_7 (rL_removeRack n) x1 y0 y1 M).trans h)
def rL_reagent (n pc : Nat) (ls st : List am_V) (M : am_M) : am_R := am_run [fX9_reagent] [(0, 9, "java/lang/IllegalArgumentException", .int 1), (0, 9, "java/lang/IllegalStateException", .int 2)] 1 am_X0 pL_reagent n pc ls st M
def gL_reagent (k : Nat → List am_V → List am_V → am_M → am_R) (pc : Nat) (ls st : List am_V) (M : am_M) : am_R := am_go [fX9_reagent] [(0, 9, "java/lang/IllegalArgumentException", .int 1), (0, 9, "java/lang/IllegalStateException", .int 2)] 1 am_X0 pL_reagent [9] k 100 pc ls st M
theorem uL_reagent {n pc : Nat} {ls st : List am_V} {M : am_M} {res : am_O × am_M} (h : gL_reagent (rL_reagent n) pc ls st M = some res) : rL_reagent (n + 100) pc ls st M = some res := am_go_ok h
theorem eL_reagent (x1 : Int32) (x2 : Int32) (x3 : Int32) (x4 : Int32) (M : am_M) : fL_reagent [.inr (9, 0), .inl (.int x1), .inl (.int x2), .inl (.int x3), .inl (.int x4)] M = rL_reagent 100000 0 [.inr (9, 0), .inl (.int x1), .inl (.int x2), .inl (.int x3), .inl (.int x4), am_D] [] M := am_meth_eq rfl rfl
set_option maxRecDepth 20000 in
theorem gL_reagent_0 (k : Nat → List am_V → List am_V → am_M → am_R) (x1 : Int32) (x2 : Int32) (x3 : Int32) (x4 : Int32) (M : am_M) : gL_reagent k 0 [.inr (9, 0), .inl (.int x1), .inl (.int x2), .inl (.int x3), .inl (.int x4), am_D] [] M =
  am_ret [(0, 9, "java/lang/IllegalArgumentException", .int 1), (0, 9, "java/lang/IllegalStateException", .int 2)] 6 [] (k 9 [.inr (9, 0), .inl (.int x1), .inl (.int x2), .inl (.int x3), .inl (.int x4), am_D]) (fX9_reagent [.inr (9, 0), .inl (.int x1), .inl (.int x2), .inl (.int x3), .inl (.int x4)] M) := (rfl)
theorem eL_reagent_0 {n : Nat} {x1 : Int32} {x2 : Int32} {x3 : Int32} {x4 : Int32} {M : am_M} {res : am_O × am_M} (h : (am_ret [(0, 9, "java/lang/IllegalArgumentException", .int 1), (0, 9, "java/lang/IllegalStateException", .int 2)] 6 [] (rL_reagent n 9 [.inr (9, 0), .inl (.int x1), .inl (.int x2), .inl (.int x3), .inl (.int x4), am_D]) (fX9_reagent [.inr (9, 0), .inl (.int x1), .inl (.int x2), .inl (.int x3), .inl (.int x4)] M)) = some res) : rL_reagent (n + 100) 0 [.inr (9, 0), .inl (.int x1), .inl (.int x2), .inl (.int x3), .inl (.int x4), am_D] [] M = some res := uL_reagent ((gL_reagent_0 (rL_reagent n) x1 x2 x3 x4 M).trans h)
set_option maxRecDepth 20000 in
theorem gL_reagent_9 (k : Nat → List am_V → List am_V → am_M → am_R) (x1 : Int32) (x2 : Int32) (x3 : Int32) (x4 : Int32) (M : am_M) : gL_reagent k 9 [.inr (9, 0), .inl (.int x1), .inl (.int x2), .inl (.int x3), .inl (.int x4), am_D] [] M =
  some (.inl (some (.inl (.int 0))), M) := (rfl)
theorem eL_reagent_9 {n : Nat} {x1 : Int32} {x2 : Int32} {x3 : Int32} {x4 : Int32} {M : am_M} {res : am_O × am_M} (h : (some (.inl (some (.inl (.int 0))), M)) = some res) : rL_reagent (n + 100) 9 [.inr (9, 0), .inl (.int x1), .inl (.int x2), .inl (.int x3), .inl (.int x4), am_D] [] M = some res := uL_reagent ((gL_reagent_9 (rL_reagent n) x1 x2 x3 x4 M).trans h)
def rL_forbid (n pc : Nat) (ls st : List am_V) (M : am_M) : am_R := am_run [fX9_forbid] [(0, 17, "java/lang/IllegalArgumentException", .int 1)] 1 am_X0 pL_forbid n pc ls st M
def gL_forbid (k : Nat → List am_V → List am_V → am_M → am_R) (pc : Nat) (ls st : List am_V) (M : am_M) : am_R := am_go [fX9_forbid] [(0, 17, "java/lang/IllegalArgumentException", .int 1)] 1 am_X0 pL_forbid [8] k 100 pc ls st M
theorem uL_forbid {n pc : Nat} {ls st : List am_V} {M : am_M} {res : am_O × am_M} (h : gL_forbid (rL_forbid n) pc ls st M = some res) : rL_forbid (n + 100) pc ls st M = some res := am_go_ok h
theorem eL_forbid (x1 : Int32) (x2 : Int32) (M : am_M) : fL_forbid [.inr (9, 0), .inl (.int x1), .inl (.int x2), .inr (80, 0)] M = rL_forbid 100000 0 [.inr (9, 0), .inl (.int x1), .inl (.int x2), .inr (80, 0), am_D] [] M := am_meth_eq rfl rfl
set_option maxRecDepth 20000 in
theorem gL_forbid_0 (k : Nat → List am_V → List am_V → am_M → am_R) (x1 : Int32) (x2 : Int32) (M : am_M) : gL_forbid k 0 [.inr (9, 0), .inl (.int x1), .inl (.int x2), .inr (80, 0), am_D] [] M =
  am_ret [(0, 17, "java/lang/IllegalArgumentException", .int 1)] 5 [.inl (.int 0), .inr (80, 0)] (k 8 [.inr (9, 0), .inl (.int x1), .inl (.int x2), .inr (80, 0), am_D]) (fX9_forbid [.inr (9, 0), .inl (.int x1), .inl (.int x2)] M) := (rfl)
theorem eL_forbid_0 {n : Nat} {x1 : Int32} {x2 : Int32} {M : am_M} {res : am_O × am_M} (h : (am_ret [(0, 17, "java/lang/IllegalArgumentException", .int 1)] 5 [.inl (.int 0), .inr (80, 0)] (rL_forbid n 8 [.inr (9, 0), .inl (.int x1), .inl (.int x2), .inr (80, 0), am_D]) (fX9_forbid [.inr (9, 0), .inl (.int x1), .inl (.int x2)] M)) = some res) : rL_forbid (n + 100) 0 [.inr (9, 0), .inl (.int x1), .inl (.int x2), .inr (80, 0), am_D] [] M = some res := uL_forbid ((gL_forbid_0 (rL_forbid n) x1 x2 M).trans h)
set_option maxRecDepth 20000 in
theorem gL_forbid_8 (k : Nat → List am_V → List am_V → am_M → am_R) (x1 : Int32) (x2 : Int32) (y0 : Int32) (y1 : Int32) (M : am_M) : gL_forbid k 8 [.inr (9, 0), .inl (.int x1), .inl (.int x2), .inr (80, 0), am_D] [.inl (.int y0), .inl (.int y1), .inr (80, 0)] M =
  if y0 = 0 then
   if am_in y1 1 then
    some (.inl (some (.inl (.int 0))), (am_put (am_put M 80 0 (2 * (Int32.toNatClampNeg y1)) (am_hi 0)) 80 0 (2 * (Int32.toNatClampNeg y1) + 1) (am_lo 0)))
   else none
  else if am_in y1 1 then
   some (.inl (some (.inl (.int 0))), (am_put (am_put M 80 0 (2 * (Int32.toNatClampNeg y1)) (am_hi 1)) 80 0 (2 * (Int32.toNatClampNeg y1) + 1) (am_lo 1)))
  else none := (rfl)
theorem eL_forbid_8 {n : Nat} {x1 : Int32} {x2 : Int32} {y0 : Int32} {y1 : Int32} {M : am_M} {res : am_O × am_M} (h : (if y0 = 0 then
   if am_in y1 1 then
    some (.inl (some (.inl (.int 0))), (am_put (am_put M 80 0 (2 * (Int32.toNatClampNeg y1)) (am_hi 0)) 80 0 (2 * (Int32.toNatClampNeg y1) + 1) (am_lo 0)))
   else none
  else if am_in y1 1 then
   some (.inl (some (.inl (.int 0))), (am_put (am_put M 80 0 (2 * (Int32.toNatClampNeg y1)) (am_hi 1)) 80 0 (2 * (Int32.toNatClampNeg y1) + 1) (am_lo 1)))
  else none) = some res) : rL_forbid (n + 100) 8 [.inr (9, 0), .inl (.int x1), .inl (.int x2), .inr (80, 0), am_D] [.inl (.int y0), .inl (.int y1), .inr (80, 0)] M = some res := uL_forbid ((gL_forbid_8 (rL_forbid n) x1 x2 y0 y1 M).trans h)
def rL_order (n pc : Nat) (ls st : List am_V) (M : am_M) : am_R := am_run [fX9_order] [(0, 12, "java/lang/IllegalArgumentException", .int 1), (0, 12, "java/lang/IllegalStateException", .int 2)] 1 am_X0 pL_order n pc ls st M
def gL_order (k : Nat → List am_V → List am_V → am_M → am_R) (pc : Nat) (ls st : List am_V) (M : am_M) : am_R := am_go [fX9_order] [(0, 12, "java/lang/IllegalArgumentException", .int 1), (0, 12, "java/lang/IllegalStateException", .int 2)] 1 am_X0 pL_order [10] k 100 pc ls st M
theorem uL_order {n pc : Nat} {ls st : List am_V} {M : am_M} {res : am_O × am_M} (h : gL_order (rL_order n) pc ls st M = some res) : rL_order (n + 100) pc ls st M = some res := am_go_ok h
theorem eL_order (x1 : Int32) (x2 : Int32) (x3 : Int32) (M : am_M) : fL_order [.inr (9, 0), .inl (.int x1), .inl (.int x2), .inl (.int x3), .inr (80, 0)] M = rL_order 100000 0 [.inr (9, 0), .inl (.int x1), .inl (.int x2), .inl (.int x3), .inr (80, 0), am_D] [] M := am_meth_eq rfl rfl
set_option maxRecDepth 20000 in
theorem gL_order_0 (k : Nat → List am_V → List am_V → am_M → am_R) (x1 : Int32) (x2 : Int32) (x3 : Int32) (M : am_M) : gL_order k 0 [.inr (9, 0), .inl (.int x1), .inl (.int x2), .inl (.int x3), .inr (80, 0), am_D] [] M =
  am_ret [(0, 12, "java/lang/IllegalArgumentException", .int 1), (0, 12, "java/lang/IllegalStateException", .int 2)] 7 [.inl (.int 0), .inr (80, 0)] (k 10 [.inr (9, 0), .inl (.int x1), .inl (.int x2), .inl (.int x3), .inr (80, 0), am_D]) (fX9_order [.inr (9, 0), .inl (.int x1), .inl (.int x2), .inl (.int x3)] M) := (rfl)
theorem eL_order_0 {n : Nat} {x1 : Int32} {x2 : Int32} {x3 : Int32} {M : am_M} {res : am_O × am_M} (h : (am_ret [(0, 12, "java/lang/IllegalArgumentException", .int 1), (0, 12, "java/lang/IllegalStateException", .int 2)] 7 [.inl (.int 0), .inr (80, 0)] (rL_order n 10 [.inr (9, 0), .inl (.int x1), .inl (.int x2), .inl (.int x3), .inr (80, 0), am_D]) (fX9_order [.inr (9, 0), .inl (.int x1), .inl (.int x2), .inl (.int x3)] M)) = some res) : rL_order (n + 100) 0 [.inr (9, 0), .inl (.int x1), .inl (.int x2), .inl (.int x3), .inr (80, 0), am_D] [] M = some res := uL_order ((gL_order_0 (rL_order n) x1 x2 x3 M).trans h)
set_option maxRecDepth 20000 in
theorem gL_order_10 (k : Nat → List am_V → List am_V → am_M → am_R) (x1 : Int32) (x2 : Int32) (x3 : Int32) (y0 : Int32) (y1 : Int32) (M : am_M) : gL_order k 10 [.inr (9, 0), .inl (.int x1), .inl (.int x2), .inl (.int x3), .inr (80, 0), am_D] [.inl (.int y0), .inl (.int y1), .inr (80, 0)] M =
  if am_in y1 1 then
   some (.inl (some (.inl (.int 0))), (am_put (am_put M 80 0 (2 * (Int32.toNatClampNeg y1)) (am_hi (Int32.toInt64 y0))) 80 0 (2 * (Int32.toNatClampNeg y1) + 1) (am_lo (Int32.toInt64 y0))))
  else none := (rfl)
theorem eL_order_10 {n : Nat} {x1 : Int32} {x2 : Int32} {x3 : Int32} {y0 : Int32} {y1 : Int32} {M : am_M} {res : am_O × am_M} (h : (if am_in y1 1 then
   some (.inl (some (.inl (.int 0))), (am_put (am_put M 80 0 (2 * (Int32.toNatClampNeg y1)) (am_hi (Int32.toInt64 y0))) 80 0 (2 * (Int32.toNatClampNeg y1) + 1) (am_lo (Int32.toInt64 y0))))
  else none) = some res) : rL_order (n + 100) 10 [.inr (9, 0), .inl (.int x1), .inl (.int x2), .inl (.int x3), .inr (80, 0), am_D] [.inl (.int y0), .inl (.int y1), .inr (80, 0)] M = some res := uL_order ((gL_order_10 (rL_order n) x1 x2 x3 y0 y1 M).trans h)
def rL_clock (n pc : Nat) (ls st : List am_V) (M : am_M) : am_R := am_run [fX9_clock] [(0, 5, "java/lang/IllegalArgumentException", .int 1)] 1 am_X0 pL_clock n pc ls st M
def gL_clock (k : Nat → List am_V → List am_V → am_M → am_R) (pc : Nat) (ls st : List am_V) (M : am_M) : am_R := am_go [fX9_clock] [(0, 5, "java/lang/IllegalArgumentException", .int 1)] 1 am_X0 pL_clock [5] k 100 pc ls st M
theorem uL_clock {n pc : Nat} {ls st : List am_V} {M : am_M} {res : am_O × am_M} (h : gL_clock (rL_clock n) pc ls st M = some res) : rL_clock (n + 100) pc ls st M = some res := am_go_ok h
theorem eL_clock (x1 : Int32) (M : am_M) : fL_clock [.inr (9, 0), .inl (.int x1)] M = rL_clock 100000 0 [.inr (9, 0), .inl (.int x1), am_D] [] M := am_meth_eq rfl rfl
set_option maxRecDepth 20000 in
theorem gL_clock_0 (k : Nat → List am_V → List am_V → am_M → am_R) (x1 : Int32) (M : am_M) : gL_clock k 0 [.inr (9, 0), .inl (.int x1), am_D] [] M =
  am_ret [(0, 5, "java/lang/IllegalArgumentException", .int 1)] 2 [] (k 5 [.inr (9, 0), .inl (.int x1), am_D]) (fX9_clock [.inr (9, 0), .inl (.int x1)] M) := (rfl)
theorem eL_clock_0 {n : Nat} {x1 : Int32} {M : am_M} {res : am_O × am_M} (h : (am_ret [(0, 5, "java/lang/IllegalArgumentException", .int 1)] 2 [] (rL_clock n 5 [.inr (9, 0), .inl (.int x1), am_D]) (fX9_clock [.inr (9, 0), .inl (.int x1)] M)) = some res) : rL_clock (n + 100) 0 [.inr (9, 0), .inl (.int x1), am_D] [] M = some res := uL_clock ((gL_clock_0 (rL_clock n) x1 M).trans h)
set_option maxRecDepth 20000 in
theorem gL_clock_5 (k : Nat → List am_V → List am_V → am_M → am_R) (x1 : Int32) (M : am_M) : gL_clock k 5 [.inr (9, 0), .inl (.int x1), am_D] [] M =
  some (.inl (some (.inl (.int 0))), M) := (rfl)
theorem eL_clock_5 {n : Nat} {x1 : Int32} {M : am_M} {res : am_O × am_M} (h : (some (.inl (some (.inl (.int 0))), M)) = some res) : rL_clock (n + 100) 5 [.inr (9, 0), .inl (.int x1), am_D] [] M = some res := uL_clock ((gL_clock_5 (rL_clock n) x1 M).trans h)
def rL_light (n pc : Nat) (ls st : List am_V) (M : am_M) : am_R := am_run [fX9_light] [(0, 5, "java/lang/IllegalArgumentException", .int 1)] 1 am_X0 pL_light n pc ls st M
def gL_light (k : Nat → List am_V → List am_V → am_M → am_R) (pc : Nat) (ls st : List am_V) (M : am_M) : am_R := am_go [fX9_light] [(0, 5, "java/lang/IllegalArgumentException", .int 1)] 1 am_X0 pL_light [5] k 100 pc ls st M
theorem uL_light {n pc : Nat} {ls st : List am_V} {M : am_M} {res : am_O × am_M} (h : gL_light (rL_light n) pc ls st M = some res) : rL_light (n + 100) pc ls st M = some res := am_go_ok h
theorem eL_light (x1 : Int32) (M : am_M) : fL_light [.inr (9, 0), .inl (.int x1)] M = rL_light 100000 0 [.inr (9, 0), .inl (.int x1), am_D] [] M := am_meth_eq rfl rfl
set_option maxRecDepth 20000 in
theorem gL_light_0 (k : Nat → List am_V → List am_V → am_M → am_R) (x1 : Int32) (M : am_M) : gL_light k 0 [.inr (9, 0), .inl (.int x1), am_D] [] M =
  am_ret [(0, 5, "java/lang/IllegalArgumentException", .int 1)] 2 [] (k 5 [.inr (9, 0), .inl (.int x1), am_D]) (fX9_light [.inr (9, 0), .inl (.int x1)] M) := (rfl)
theorem eL_light_0 {n : Nat} {x1 : Int32} {M : am_M} {res : am_O × am_M} (h : (am_ret [(0, 5, "java/lang/IllegalArgumentException", .int 1)] 2 [] (rL_light n 5 [.inr (9, 0), .inl (.int x1), am_D]) (fX9_light [.inr (9, 0), .inl (.int x1)] M)) = some res) : rL_light (n + 100) 0 [.inr (9, 0), .inl (.int x1), am_D] [] M = some res := uL_light ((gL_light_0 (rL_light n) x1 M).trans h)
set_option maxRecDepth 20000 in
theorem gL_light_5 (k : Nat → List am_V → List am_V → am_M → am_R) (x1 : Int32) (M : am_M) : gL_light k 5 [.inr (9, 0), .inl (.int x1), am_D] [] M =
  some (.inl (some (.inl (.int 0))), M) := (rfl)
theorem eL_light_5 {n : Nat} {x1 : Int32} {M : am_M} {res : am_O × am_M} (h : (some (.inl (some (.inl (.int 0))), M)) = some res) : rL_light (n + 100) 5 [.inr (9, 0), .inl (.int x1), am_D] [] M = some res := uL_light ((gL_light_5 (rL_light n) x1 M).trans h)
