/-! ===== the runs, piece by piece ===== -/
def rL_seal (n pc : Nat) (ls st : List am_V) (M : am_M) : am_R := am_run [fX9_seal] [(0, 16, "java/lang/IllegalArgumentException", .int 1)] 1 am_X0 pL_seal n pc ls st M
def gL_seal (F0 : am_F) (k : Nat → List am_V → List am_V → am_M → am_R) (pc : Nat) (ls st : List am_V) (M : am_M) : am_R := am_go [F0] [(0, 16, "java/lang/IllegalArgumentException", .int 1)] 1 am_X0 pL_seal [7] k 100 pc ls st M
theorem uL_seal {n pc : Nat} {ls st : List am_V} {M : am_M} {res : am_O × am_M} (h : gL_seal fX9_seal (rL_seal n) pc ls st M = some res) : rL_seal (n + 100) pc ls st M = some res := am_go_ok h
theorem eL_seal (x1 : Int32) (M : am_M) : fL_seal [.inr (9, 0), .inl (.int x1), .inr (80, 0)] M = rL_seal 100000 0 [.inr (9, 0), .inl (.int x1), .inr (80, 0), am_D] [] M := am_meth_eq rfl rfl
set_option maxRecDepth 20000 in
theorem gL_seal_0 (F0 : am_F) (k : Nat → List am_V → List am_V → am_M → am_R) (x1 : Int32) (M : am_M) : gL_seal F0 k 0 [.inr (9, 0), .inl (.int x1), .inr (80, 0), am_D] [] M =
  am_ret [(0, 16, "java/lang/IllegalArgumentException", .int 1)] 4 [.inl (.int 0), .inr (80, 0)] (k 7 [.inr (9, 0), .inl (.int x1), .inr (80, 0), am_D]) (F0 [.inr (9, 0), .inl (.int x1)] M) := (rfl)
theorem eL_seal_0 {n : Nat} {x1 : Int32} {M : am_M} {res : am_O × am_M} (h : (am_ret [(0, 16, "java/lang/IllegalArgumentException", .int 1)] 4 [.inl (.int 0), .inr (80, 0)] (rL_seal n 7 [.inr (9, 0), .inl (.int x1), .inr (80, 0), am_D]) (fX9_seal [.inr (9, 0), .inl (.int x1)] M)) = some res) : rL_seal (n + 100) 0 [.inr (9, 0), .inl (.int x1), .inr (80, 0), am_D] [] M = some res := uL_seal ((gL_seal_0 fX9_seal (rL_seal n) x1 M).trans h)
set_option maxRecDepth 20000 in
theorem gL_seal_7 (F0 : am_F) (k : Nat → List am_V → List am_V → am_M → am_R) (x1 : Int32) (y0 : Int32) (y1 : Int32) (M : am_M) : gL_seal F0 k 7 [.inr (9, 0), .inl (.int x1), .inr (80, 0), am_D] [.inl (.int y0), .inl (.int y1), .inr (80, 0)] M =
  if y0 = 0 then
   if am_in y1 1 then
    some (.inl (some (.inl (.int 0))), (am_put (am_put M 80 0 (2 * (Int32.toNatClampNeg y1)) (am_hi 0)) 80 0 (2 * (Int32.toNatClampNeg y1) + 1) (am_lo 0)))
   else none
  else if am_in y1 1 then
   some (.inl (some (.inl (.int 0))), (am_put (am_put M 80 0 (2 * (Int32.toNatClampNeg y1)) (am_hi 1)) 80 0 (2 * (Int32.toNatClampNeg y1) + 1) (am_lo 1)))
  else none := (rfl)
theorem eL_seal_7 {n : Nat} {x1 : Int32} {y0 : Int32} {y1 : Int32} {M : am_M} {res : am_O × am_M} (h : (if y0 = 0 then
   if am_in y1 1 then
    some (.inl (some (.inl (.int 0))), (am_put (am_put M 80 0 (2 * (Int32.toNatClampNeg y1)) (am_hi 0)) 80 0 (2 * (Int32.toNatClampNeg y1) + 1) (am_lo 0)))
   else none
  else if am_in y1 1 then
   some (.inl (some (.inl (.int 0))), (am_put (am_put M 80 0 (2 * (Int32.toNatClampNeg y1)) (am_hi 1)) 80 0 (2 * (Int32.toNatClampNeg y1) + 1) (am_lo 1)))
  else none) = some res) : rL_seal (n + 100) 7 [.inr (9, 0), .inl (.int x1), .inr (80, 0), am_D] [.inl (.int y0), .inl (.int y1), .inr (80, 0)] M = some res := uL_seal ((gL_seal_7 fX9_seal (rL_seal n) x1 y0 y1 M).trans h)
def rL_rack (n pc : Nat) (ls st : List am_V) (M : am_M) : am_R := am_run [fX9_rack] [(0, 9, "java/lang/IllegalArgumentException", .int 1), (0, 9, "java/lang/IllegalStateException", .int 2)] 1 am_X0 pL_rack n pc ls st M
def gL_rack (F0 : am_F) (k : Nat → List am_V → List am_V → am_M → am_R) (pc : Nat) (ls st : List am_V) (M : am_M) : am_R := am_go [F0] [(0, 9, "java/lang/IllegalArgumentException", .int 1), (0, 9, "java/lang/IllegalStateException", .int 2)] 1 am_X0 pL_rack [9] k 100 pc ls st M
theorem uL_rack {n pc : Nat} {ls st : List am_V} {M : am_M} {res : am_O × am_M} (h : gL_rack fX9_rack (rL_rack n) pc ls st M = some res) : rL_rack (n + 100) pc ls st M = some res := am_go_ok h
theorem eL_rack (x1 : Int32) (x2 : Int32) (x3 : Int32) (x4 : Int32) (M : am_M) : fL_rack [.inr (9, 0), .inl (.int x1), .inl (.int x2), .inl (.int x3), .inl (.int x4)] M = rL_rack 100000 0 [.inr (9, 0), .inl (.int x1), .inl (.int x2), .inl (.int x3), .inl (.int x4), am_D] [] M := am_meth_eq rfl rfl
set_option maxRecDepth 20000 in
theorem gL_rack_0 (F0 : am_F) (k : Nat → List am_V → List am_V → am_M → am_R) (x1 : Int32) (x2 : Int32) (x3 : Int32) (x4 : Int32) (M : am_M) : gL_rack F0 k 0 [.inr (9, 0), .inl (.int x1), .inl (.int x2), .inl (.int x3), .inl (.int x4), am_D] [] M =
  am_ret [(0, 9, "java/lang/IllegalArgumentException", .int 1), (0, 9, "java/lang/IllegalStateException", .int 2)] 6 [] (k 9 [.inr (9, 0), .inl (.int x1), .inl (.int x2), .inl (.int x3), .inl (.int x4), am_D]) (F0 [.inr (9, 0), .inl (.int x1), .inl (.int x2), .inl (.int x3), .inl (.int x4)] M) := (rfl)
theorem eL_rack_0 {n : Nat} {x1 : Int32} {x2 : Int32} {x3 : Int32} {x4 : Int32} {M : am_M} {res : am_O × am_M} (h : (am_ret [(0, 9, "java/lang/IllegalArgumentException", .int 1), (0, 9, "java/lang/IllegalStateException", .int 2)] 6 [] (rL_rack n 9 [.inr (9, 0), .inl (.int x1), .inl (.int x2), .inl (.int x3), .inl (.int x4), am_D]) (fX9_rack [.inr (9, 0), .inl (.int x1), .inl (.int x2), .inl (.int x3), .inl (.int x4)] M)) = some res) : rL_rack (n + 100) 0 [.inr (9, 0), .inl (.int x1), .inl (.int x2), .inl (.int x3), .inl (.int x4), am_D] [] M = some res := uL_rack ((gL_rack_0 fX9_rack (rL_rack n) x1 x2 x3 x4 M).trans h)
set_option maxRecDepth 20000 in
theorem gL_rack_9 (F0 : am_F) (k : Nat → List am_V → List am_V → am_M → am_R) (x1 : Int32) (x2 : Int32) (x3 : Int32) (x4 : Int32) (M : am_M) : gL_rack F0 k 9 [.inr (9, 0), .inl (.int x1), .inl (.int x2), .inl (.int x3), .inl (.int x4), am_D] [] M =
  some (.inl (some (.inl (.int 0))), M) := (rfl)
theorem eL_rack_9 {n : Nat} {x1 : Int32} {x2 : Int32} {x3 : Int32} {x4 : Int32} {M : am_M} {res : am_O × am_M} (h : (some (.inl (some (.inl (.int 0))), M)) = some res) : rL_rack (n + 100) 9 [.inr (9, 0), .inl (.int x1), .inl (.int x2), .inl (.int x3), .inl (.int x4), am_D] [] M = some res := uL_rack ((gL_rack_9 fX9_rack (rL_rack n) x1 x2 x3 x4 M).trans h)
def rL_removeRack (n pc : Nat) (ls st : List am_V) (M : am_M) : am_R := am_run [fX9_removeRack] [(0, 9, "java/lang/IllegalArgumentException", .int 1), (0, 9, "java/util/NoSuchElementException", .int 2), (0, 9, "java/lang/IllegalStateException", .int 3)] 1 am_X0 pL_removeRack n pc ls st M
def gL_removeRack (F0 : am_F) (k : Nat → List am_V → List am_V → am_M → am_R) (pc : Nat) (ls st : List am_V) (M : am_M) : am_R := am_go [F0] [(0, 9, "java/lang/IllegalArgumentException", .int 1), (0, 9, "java/util/NoSuchElementException", .int 2), (0, 9, "java/lang/IllegalStateException", .int 3)] 1 am_X0 pL_removeRack [7] k 100 pc ls st M
theorem uL_removeRack {n pc : Nat} {ls st : List am_V} {M : am_M} {res : am_O × am_M} (h : gL_removeRack fX9_removeRack (rL_removeRack n) pc ls st M = some res) : rL_removeRack (n + 100) pc ls st M = some res := am_go_ok h
theorem eL_removeRack (x1 : Int32) (M : am_M) : fL_removeRack [.inr (9, 0), .inl (.int x1), .inr (80, 0)] M = rL_removeRack 100000 0 [.inr (9, 0), .inl (.int x1), .inr (80, 0), am_D] [] M := am_meth_eq rfl rfl
set_option maxRecDepth 20000 in
theorem gL_removeRack_0 (F0 : am_F) (k : Nat → List am_V → List am_V → am_M → am_R) (x1 : Int32) (M : am_M) : gL_removeRack F0 k 0 [.inr (9, 0), .inl (.int x1), .inr (80, 0), am_D] [] M =
  am_ret [(0, 9, "java/lang/IllegalArgumentException", .int 1), (0, 9, "java/util/NoSuchElementException", .int 2), (0, 9, "java/lang/IllegalStateException", .int 3)] 4 [.inl (.int 0), .inr (80, 0)] (k 7 [.inr (9, 0), .inl (.int x1), .inr (80, 0), am_D]) (F0 [.inr (9, 0), .inl (.int x1)] M) := (rfl)
theorem eL_removeRack_0 {n : Nat} {x1 : Int32} {M : am_M} {res : am_O × am_M} (h : (am_ret [(0, 9, "java/lang/IllegalArgumentException", .int 1), (0, 9, "java/util/NoSuchElementException", .int 2), (0, 9, "java/lang/IllegalStateException", .int 3)] 4 [.inl (.int 0), .inr (80, 0)] (rL_removeRack n 7 [.inr (9, 0), .inl (.int x1), .inr (80, 0), am_D]) (fX9_removeRack [.inr (9, 0), .inl (.int x1)] M)) = some res) : rL_removeRack (n + 100) 0 [.inr (9, 0), .inl (.int x1), .inr (80, 0), am_D] [] M = some res := uL_removeRack ((gL_removeRack_0 fX9_removeRack (rL_removeRack n) x1 M).trans h)
set_option maxRecDepth 20000 in
theorem gL_removeRack_7 (F0 : am_F) (k : Nat → List am_V → List am_V → am_M → am_R) (x1 : Int32) (y0 : Int32) (y1 : Int32) (M : am_M) : gL_removeRack F0 k 7 [.inr (9, 0), .inl (.int x1), .inr (80, 0), am_D] [.inl (.int y0), .inl (.int y1), .inr (80, 0)] M =
  if am_in y1 1 then
   some (.inl (some (.inl (.int 0))), (am_put (am_put M 80 0 (2 * (Int32.toNatClampNeg y1)) (am_hi (Int32.toInt64 y0))) 80 0 (2 * (Int32.toNatClampNeg y1) + 1) (am_lo (Int32.toInt64 y0))))
  else none := (rfl)
theorem eL_removeRack_7 {n : Nat} {x1 : Int32} {y0 : Int32} {y1 : Int32} {M : am_M} {res : am_O × am_M} (h : (if am_in y1 1 then
   some (.inl (some (.inl (.int 0))), (am_put (am_put M 80 0 (2 * (Int32.toNatClampNeg y1)) (am_hi (Int32.toInt64 y0))) 80 0 (2 * (Int32.toNatClampNeg y1) + 1) (am_lo (Int32.toInt64 y0))))
  else none) = some res) : rL_removeRack (n + 100) 7 [.inr (9, 0), .inl (.int x1), .inr (80, 0), am_D] [.inl (.int y0), .inl (.int y1), .inr (80, 0)] M = some res := uL_removeRack ((gL_removeRack_7 fX9_removeRack (rL_removeRack n) x1 y0 y1 M).trans h)
def rL_reagent (n pc : Nat) (ls st : List am_V) (M : am_M) : am_R := am_run [fX9_reagent] [(0, 9, "java/lang/IllegalArgumentException", .int 1), (0, 9, "java/lang/IllegalStateException", .int 2)] 1 am_X0 pL_reagent n pc ls st M
def gL_reagent (F0 : am_F) (k : Nat → List am_V → List am_V → am_M → am_R) (pc : Nat) (ls st : List am_V) (M : am_M) : am_R := am_go [F0] [(0, 9, "java/lang/IllegalArgumentException", .int 1), (0, 9, "java/lang/IllegalStateException", .int 2)] 1 am_X0 pL_reagent [9] k 100 pc ls st M
theorem uL_reagent {n pc : Nat} {ls st : List am_V} {M : am_M} {res : am_O × am_M} (h : gL_reagent fX9_reagent (rL_reagent n) pc ls st M = some res) : rL_reagent (n + 100) pc ls st M = some res := am_go_ok h
theorem eL_reagent (x1 : Int32) (x2 : Int32) (x3 : Int32) (x4 : Int32) (M : am_M) : fL_reagent [.inr (9, 0), .inl (.int x1), .inl (.int x2), .inl (.int x3), .inl (.int x4)] M = rL_reagent 100000 0 [.inr (9, 0), .inl (.int x1), .inl (.int x2), .inl (.int x3), .inl (.int x4), am_D] [] M := am_meth_eq rfl rfl
set_option maxRecDepth 20000 in
theorem gL_reagent_0 (F0 : am_F) (k : Nat → List am_V → List am_V → am_M → am_R) (x1 : Int32) (x2 : Int32) (x3 : Int32) (x4 : Int32) (M : am_M) : gL_reagent F0 k 0 [.inr (9, 0), .inl (.int x1), .inl (.int x2), .inl (.int x3), .inl (.int x4), am_D] [] M =
  am_ret [(0, 9, "java/lang/IllegalArgumentException", .int 1), (0, 9, "java/lang/IllegalStateException", .int 2)] 6 [] (k 9 [.inr (9, 0), .inl (.int x1), .inl (.int x2), .inl (.int x3), .inl (.int x4), am_D]) (F0 [.inr (9, 0), .inl (.int x1), .inl (.int x2), .inl (.int x3), .inl (.int x4)] M) := (rfl)
theorem eL_reagent_0 {n : Nat} {x1 : Int32} {x2 : Int32} {x3 : Int32} {x4 : Int32} {M : am_M} {res : am_O × am_M} (h : (am_ret [(0, 9, "java/lang/IllegalArgumentException", .int 1), (0, 9, "java/lang/IllegalStateException", .int 2)] 6 [] (rL_reagent n 9 [.inr (9, 0), .inl (.int x1), .inl (.int x2), .inl (.int x3), .inl (.int x4), am_D]) (fX9_reagent [.inr (9, 0), .inl (.int x1), .inl (.int x2), .inl (.int x3), .inl (.int x4)] M)) = some res) : rL_reagent (n + 100) 0 [.inr (9, 0), .inl (.int x1), .inl (.int x2), .inl (.int x3), .inl (.int x4), am_D] [] M = some res := uL_reagent ((gL_reagent_0 fX9_reagent (rL_reagent n) x1 x2 x3 x4 M).trans h)
set_option maxRecDepth 20000 in
theorem gL_reagent_9 (F0 : am_F) (k : Nat → List am_V → List am_V → am_M → am_R) (x1 : Int32) (x2 : Int32) (x3 : Int32) (x4 : Int32) (M : am_M) : gL_reagent F0 k 9 [.inr (9, 0), .inl (.int x1), .inl (.int x2), .inl (.int x3), .inl (.int x4), am_D] [] M =
  some (.inl (some (.inl (.int 0))), M) := (rfl)
theorem eL_reagent_9 {n : Nat} {x1 : Int32} {x2 : Int32} {x3 : Int32} {x4 : Int32} {M : am_M} {res : am_O × am_M} (h : (some (.inl (some (.inl (.int 0))), M)) = some res) : rL_reagent (n + 100) 9 [.inr (9, 0), .inl (.int x1), .inl (.int x2), .inl (.int x3), .inl (.int x4), am_D] [] M = some res := uL_reagent ((gL_reagent_9 fX9_reagent (rL_reagent n) x1 x2 x3 x4 M).trans h)
def rL_forbid (n pc : Nat) (ls st : List am_V) (M : am_M) : am_R := am_run [fX9_forbid] [(0, 17, "java/lang/IllegalArgumentException", .int 1)] 1 am_X0 pL_forbid n pc ls st M
def gL_forbid (F0 : am_F) (k : Nat → List am_V → List am_V → am_M → am_R) (pc : Nat) (ls st : List am_V) (M : am_M) : am_R := am_go [F0] [(0, 17, "java/lang/IllegalArgumentException", .int 1)] 1 am_X0 pL_forbid [8] k 100 pc ls st M
theorem uL_forbid {n pc : Nat} {ls st : List am_V} {M : am_M} {res : am_O × am_M} (h : gL_forbid fX9_forbid (rL_forbid n) pc ls st M = some res) : rL_forbid (n + 100) pc ls st M = some res := am_go_ok h
theorem eL_forbid (x1 : Int32) (x2 : Int32) (M : am_M) : fL_forbid [.inr (9, 0), .inl (.int x1), .inl (.int x2), .inr (80, 0)] M = rL_forbid 100000 0 [.inr (9, 0), .inl (.int x1), .inl (.int x2), .inr (80, 0), am_D] [] M := am_meth_eq rfl rfl
set_option maxRecDepth 20000 in
theorem gL_forbid_0 (F0 : am_F) (k : Nat → List am_V → List am_V → am_M → am_R) (x1 : Int32) (x2 : Int32) (M : am_M) : gL_forbid F0 k 0 [.inr (9, 0), .inl (.int x1), .inl (.int x2), .inr (80, 0), am_D] [] M =
  am_ret [(0, 17, "java/lang/IllegalArgumentException", .int 1)] 5 [.inl (.int 0), .inr (80, 0)] (k 8 [.inr (9, 0), .inl (.int x1), .inl (.int x2), .inr (80, 0), am_D]) (F0 [.inr (9, 0), .inl (.int x1), .inl (.int x2)] M) := (rfl)
theorem eL_forbid_0 {n : Nat} {x1 : Int32} {x2 : Int32} {M : am_M} {res : am_O × am_M} (h : (am_ret [(0, 17, "java/lang/IllegalArgumentException", .int 1)] 5 [.inl (.int 0), .inr (80, 0)] (rL_forbid n 8 [.inr (9, 0), .inl (.int x1), .inl (.int x2), .inr (80, 0), am_D]) (fX9_forbid [.inr (9, 0), .inl (.int x1), .inl (.int x2)] M)) = some res) : rL_forbid (n + 100) 0 [.inr (9, 0), .inl (.int x1), .inl (.int x2), .inr (80, 0), am_D] [] M = some res := uL_forbid ((gL_forbid_0 fX9_forbid (rL_forbid n) x1 x2 M).trans h)
set_option maxRecDepth 20000 in
theorem gL_forbid_8 (F0 : am_F) (k : Nat → List am_V → List am_V → am_M → am_R) (x1 : Int32) (x2 : Int32) (y0 : Int32) (y1 : Int32) (M : am_M) : gL_forbid F0 k 8 [.inr (9, 0), .inl (.int x1), .inl (.int x2), .inr (80, 0), am_D] [.inl (.int y0), .inl (.int y1), .inr (80, 0)] M =
  if y0 = 0 then
   if am_in y1 1 then
    some (.inl (some (.inl (.int 0))), (am_put (am_put M 80 0 (2 * (Int32.toNatClampNeg y1)) (am_hi 0)) 80 0 (2 * (Int32.toNatClampNeg y1) + 1) (am_lo 0)))
   else none
  else if am_in y1 1 then
   some (.inl (some (.inl (.int 0))), (am_put (am_put M 80 0 (2 * (Int32.toNatClampNeg y1)) (am_hi 1)) 80 0 (2 * (Int32.toNatClampNeg y1) + 1) (am_lo 1)))
  else none := (rfl)
theorem eL_forbid_8 {n : Nat} {x1 : Int32} {x2 : Int32} {y0 : Int32} {y1 : Int32} {M : am_M} {res : am_O × am_M} (h : (if y0 = 0 then
   if am_in y1 1 then
    some (.inl (some (.inl (.int 0))), (am_put (am_put M 80 0 (2 * (Int32.toNatClampNeg y1)) (am_hi 0)) 80 0 (2 * (Int32.toNatClampNeg y1) + 1) (am_lo 0)))
   else none
  else if am_in y1 1 then
   some (.inl (some (.inl (.int 0))), (am_put (am_put M 80 0 (2 * (Int32.toNatClampNeg y1)) (am_hi 1)) 80 0 (2 * (Int32.toNatClampNeg y1) + 1) (am_lo 1)))
  else none) = some res) : rL_forbid (n + 100) 8 [.inr (9, 0), .inl (.int x1), .inl (.int x2), .inr (80, 0), am_D] [.inl (.int y0), .inl (.int y1), .inr (80, 0)] M = some res := uL_forbid ((gL_forbid_8 fX9_forbid (rL_forbid n) x1 x2 y0 y1 M).trans h)
def rL_order (n pc : Nat) (ls st : List am_V) (M : am_M) : am_R := am_run [fX9_order] [(0, 12, "java/lang/IllegalArgumentException", .int 1), (0, 12, "java/lang/IllegalStateException", .int 2)] 1 am_X0 pL_order n pc ls st M
def gL_order (F0 : am_F) (k : Nat → List am_V → List am_V → am_M → am_R) (pc : Nat) (ls st : List am_V) (M : am_M) : am_R := am_go [F0] [(0, 12, "java/lang/IllegalArgumentException", .int 1), (0, 12, "java/lang/IllegalStateException", .int 2)] 1 am_X0 pL_order [10] k 100 pc ls st M
theorem uL_order {n pc : Nat} {ls st : List am_V} {M : am_M} {res : am_O × am_M} (h : gL_order fX9_order (rL_order n) pc ls st M = some res) : rL_order (n + 100) pc ls st M = some res := am_go_ok h
theorem eL_order (x1 : Int32) (x2 : Int32) (x3 : Int32) (M : am_M) : fL_order [.inr (9, 0), .inl (.int x1), .inl (.int x2), .inl (.int x3), .inr (80, 0)] M = rL_order 100000 0 [.inr (9, 0), .inl (.int x1), .inl (.int x2), .inl (.int x3), .inr (80, 0), am_D] [] M := am_meth_eq rfl rfl
set_option maxRecDepth 20000 in
theorem gL_order_0 (F0 : am_F) (k : Nat → List am_V → List am_V → am_M → am_R) (x1 : Int32) (x2 : Int32) (x3 : Int32) (M : am_M) : gL_order F0 k 0 [.inr (9, 0), .inl (.int x1), .inl (.int x2), .inl (.int x3), .inr (80, 0), am_D] [] M =
  am_ret [(0, 12, "java/lang/IllegalArgumentException", .int 1), (0, 12, "java/lang/IllegalStateException", .int 2)] 7 [.inl (.int 0), .inr (80, 0)] (k 10 [.inr (9, 0), .inl (.int x1), .inl (.int x2), .inl (.int x3), .inr (80, 0), am_D]) (F0 [.inr (9, 0), .inl (.int x1), .inl (.int x2), .inl (.int x3)] M) := (rfl)
theorem eL_order_0 {n : Nat} {x1 : Int32} {x2 : Int32} {x3 : Int32} {M : am_M} {res : am_O × am_M} (h : (am_ret [(0, 12, "java/lang/IllegalArgumentException", .int 1), (0, 12, "java/lang/IllegalStateException", .int 2)] 7 [.inl (.int 0), .inr (80, 0)] (rL_order n 10 [.inr (9, 0), .inl (.int x1), .inl (.int x2), .inl (.int x3), .inr (80, 0), am_D]) (fX9_order [.inr (9, 0), .inl (.int x1), .inl (.int x2), .inl (.int x3)] M)) = some res) : rL_order (n + 100) 0 [.inr (9, 0), .inl (.int x1), .inl (.int x2), .inl (.int x3), .inr (80, 0), am_D] [] M = some res := uL_order ((gL_order_0 fX9_order (rL_order n) x1 x2 x3 M).trans h)
set_option maxRecDepth 20000 in
theorem gL_order_10 (F0 : am_F) (k : Nat → List am_V → List am_V → am_M → am_R) (x1 : Int32) (x2 : Int32) (x3 : Int32) (y0 : Int32) (y1 : Int32) (M : am_M) : gL_order F0 k 10 [.inr (9, 0), .inl (.int x1), .inl (.int x2), .inl (.int x3), .inr (80, 0), am_D] [.inl (.int y0), .inl (.int y1), .inr (80, 0)] M =
  if am_in y1 1 then
   some (.inl (some (.inl (.int 0))), (am_put (am_put M 80 0 (2 * (Int32.toNatClampNeg y1)) (am_hi (Int32.toInt64 y0))) 80 0 (2 * (Int32.toNatClampNeg y1) + 1) (am_lo (Int32.toInt64 y0))))
  else none := (rfl)
theorem eL_order_10 {n : Nat} {x1 : Int32} {x2 : Int32} {x3 : Int32} {y0 : Int32} {y1 : Int32} {M : am_M} {res : am_O × am_M} (h : (if am_in y1 1 then
   some (.inl (some (.inl (.int 0))), (am_put (am_put M 80 0 (2 * (Int32.toNatClampNeg y1)) (am_hi (Int32.toInt64 y0))) 80 0 (2 * (Int32.toNatClampNeg y1) + 1) (am_lo (Int32.toInt64 y0))))
  else none) = some res) : rL_order (n + 100) 10 [.inr (9, 0), .inl (.int x1), .inl (.int x2), .inl (.int x3), .inr (80, 0), am_D] [.inl (.int y0), .inl (.int y1), .inr (80, 0)] M = some res := uL_order ((gL_order_10 fX9_order (rL_order n) x1 x2 x3 y0 y1 M).trans h)
def rL_clock (n pc : Nat) (ls st : List am_V) (M : am_M) : am_R := am_run [fX9_clock] [(0, 5, "java/lang/IllegalArgumentException", .int 1)] 1 am_X0 pL_clock n pc ls st M
def gL_clock (F0 : am_F) (k : Nat → List am_V → List am_V → am_M → am_R) (pc : Nat) (ls st : List am_V) (M : am_M) : am_R := am_go [F0] [(0, 5, "java/lang/IllegalArgumentException", .int 1)] 1 am_X0 pL_clock [5] k 100 pc ls st M
theorem uL_clock {n pc : Nat} {ls st : List am_V} {M : am_M} {res : am_O × am_M} (h : gL_clock fX9_clock (rL_clock n) pc ls st M = some res) : rL_clock (n + 100) pc ls st M = some res := am_go_ok h
theorem eL_clock (x1 : Int32) (M : am_M) : fL_clock [.inr (9, 0), .inl (.int x1)] M = rL_clock 100000 0 [.inr (9, 0), .inl (.int x1), am_D] [] M := am_meth_eq rfl rfl
set_option maxRecDepth 20000 in
theorem gL_clock_0 (F0 : am_F) (k : Nat → List am_V → List am_V → am_M → am_R) (x1 : Int32) (M : am_M) : gL_clock F0 k 0 [.inr (9, 0), .inl (.int x1), am_D] [] M =
  am_ret [(0, 5, "java/lang/IllegalArgumentException", .int 1)] 2 [] (k 5 [.inr (9, 0), .inl (.int x1), am_D]) (F0 [.inr (9, 0), .inl (.int x1)] M) := (rfl)
theorem eL_clock_0 {n : Nat} {x1 : Int32} {M : am_M} {res : am_O × am_M} (h : (am_ret [(0, 5, "java/lang/IllegalArgumentException", .int 1)] 2 [] (rL_clock n 5 [.inr (9, 0), .inl (.int x1), am_D]) (fX9_clock [.inr (9, 0), .inl (.int x1)] M)) = some res) : rL_clock (n + 100) 0 [.inr (9, 0), .inl (.int x1), am_D] [] M = some res := uL_clock ((gL_clock_0 fX9_clock (rL_clock n) x1 M).trans h)
set_option maxRecDepth 20000 in
theorem gL_clock_5 (F0 : am_F) (k : Nat → List am_V → List am_V → am_M → am_R) (x1 : Int32) (M : am_M) : gL_clock F0 k 5 [.inr (9, 0), .inl (.int x1), am_D] [] M =
  some (.inl (some (.inl (.int 0))), M) := (rfl)
theorem eL_clock_5 {n : Nat} {x1 : Int32} {M : am_M} {res : am_O × am_M} (h : (some (.inl (some (.inl (.int 0))), M)) = some res) : rL_clock (n + 100) 5 [.inr (9, 0), .inl (.int x1), am_D] [] M = some res := uL_clock ((gL_clock_5 fX9_clock (rL_clock n) x1 M).trans h)
def rL_light (n pc : Nat) (ls st : List am_V) (M : am_M) : am_R := am_run [fX9_light] [(0, 5, "java/lang/IllegalArgumentException", .int 1)] 1 am_X0 pL_light n pc ls st M
def gL_light (F0 : am_F) (k : Nat → List am_V → List am_V → am_M → am_R) (pc : Nat) (ls st : List am_V) (M : am_M) : am_R := am_go [F0] [(0, 5, "java/lang/IllegalArgumentException", .int 1)] 1 am_X0 pL_light [5] k 100 pc ls st M
theorem uL_light {n pc : Nat} {ls st : List am_V} {M : am_M} {res : am_O × am_M} (h : gL_light fX9_light (rL_light n) pc ls st M = some res) : rL_light (n + 100) pc ls st M = some res := am_go_ok h
theorem eL_light (x1 : Int32) (M : am_M) : fL_light [.inr (9, 0), .inl (.int x1)] M = rL_light 100000 0 [.inr (9, 0), .inl (.int x1), am_D] [] M := am_meth_eq rfl rfl
set_option maxRecDepth 20000 in
theorem gL_light_0 (F0 : am_F) (k : Nat → List am_V → List am_V → am_M → am_R) (x1 : Int32) (M : am_M) : gL_light F0 k 0 [.inr (9, 0), .inl (.int x1), am_D] [] M =
  am_ret [(0, 5, "java/lang/IllegalArgumentException", .int 1)] 2 [] (k 5 [.inr (9, 0), .inl (.int x1), am_D]) (F0 [.inr (9, 0), .inl (.int x1)] M) := (rfl)
theorem eL_light_0 {n : Nat} {x1 : Int32} {M : am_M} {res : am_O × am_M} (h : (am_ret [(0, 5, "java/lang/IllegalArgumentException", .int 1)] 2 [] (rL_light n 5 [.inr (9, 0), .inl (.int x1), am_D]) (fX9_light [.inr (9, 0), .inl (.int x1)] M)) = some res) : rL_light (n + 100) 0 [.inr (9, 0), .inl (.int x1), am_D] [] M = some res := uL_light ((gL_light_0 fX9_light (rL_light n) x1 M).trans h)
set_option maxRecDepth 20000 in
theorem gL_light_5 (F0 : am_F) (k : Nat → List am_V → List am_V → am_M → am_R) (x1 : Int32) (M : am_M) : gL_light F0 k 5 [.inr (9, 0), .inl (.int x1), am_D] [] M =
  some (.inl (some (.inl (.int 0))), M) := (rfl)
theorem eL_light_5 {n : Nat} {x1 : Int32} {M : am_M} {res : am_O × am_M} (h : (some (.inl (some (.inl (.int 0))), M)) = some res) : rL_light (n + 100) 5 [.inr (9, 0), .inl (.int x1), am_D] [] M = some res := uL_light ((gL_light_5 fX9_light (rL_light n) x1 M).trans h)
def rL_spoil (n pc : Nat) (ls st : List am_V) (M : am_M) : am_R := am_run [fX9_spoil] [(0, 5, "java/lang/IllegalArgumentException", .int 1)] 1 am_X0 pL_spoil n pc ls st M
def gL_spoil (F0 : am_F) (k : Nat → List am_V → List am_V → am_M → am_R) (pc : Nat) (ls st : List am_V) (M : am_M) : am_R := am_go [F0] [(0, 5, "java/lang/IllegalArgumentException", .int 1)] 1 am_X0 pL_spoil [5] k 100 pc ls st M
theorem uL_spoil {n pc : Nat} {ls st : List am_V} {M : am_M} {res : am_O × am_M} (h : gL_spoil fX9_spoil (rL_spoil n) pc ls st M = some res) : rL_spoil (n + 100) pc ls st M = some res := am_go_ok h
theorem eL_spoil (x1 : Int32) (M : am_M) : fL_spoil [.inr (9, 0), .inl (.int x1)] M = rL_spoil 100000 0 [.inr (9, 0), .inl (.int x1), am_D] [] M := am_meth_eq rfl rfl
set_option maxRecDepth 20000 in
theorem gL_spoil_0 (F0 : am_F) (k : Nat → List am_V → List am_V → am_M → am_R) (x1 : Int32) (M : am_M) : gL_spoil F0 k 0 [.inr (9, 0), .inl (.int x1), am_D] [] M =
  am_ret [(0, 5, "java/lang/IllegalArgumentException", .int 1)] 2 [] (k 5 [.inr (9, 0), .inl (.int x1), am_D]) (F0 [.inr (9, 0), .inl (.int x1)] M) := (rfl)
theorem eL_spoil_0 {n : Nat} {x1 : Int32} {M : am_M} {res : am_O × am_M} (h : (am_ret [(0, 5, "java/lang/IllegalArgumentException", .int 1)] 2 [] (rL_spoil n 5 [.inr (9, 0), .inl (.int x1), am_D]) (fX9_spoil [.inr (9, 0), .inl (.int x1)] M)) = some res) : rL_spoil (n + 100) 0 [.inr (9, 0), .inl (.int x1), am_D] [] M = some res := uL_spoil ((gL_spoil_0 fX9_spoil (rL_spoil n) x1 M).trans h)
set_option maxRecDepth 20000 in
theorem gL_spoil_5 (F0 : am_F) (k : Nat → List am_V → List am_V → am_M → am_R) (x1 : Int32) (M : am_M) : gL_spoil F0 k 5 [.inr (9, 0), .inl (.int x1), am_D] [] M =
  some (.inl (some (.inl (.int 0))), M) := (rfl)
theorem eL_spoil_5 {n : Nat} {x1 : Int32} {M : am_M} {res : am_O × am_M} (h : (some (.inl (some (.inl (.int 0))), M)) = some res) : rL_spoil (n + 100) 5 [.inr (9, 0), .inl (.int x1), am_D] [] M = some res := uL_spoil ((gL_spoil_5 fX9_spoil (rL_spoil n) x1 M).trans h)
def rL_state (n pc : Nat) (ls st : List am_V) (M : am_M) : am_R := am_run [fX9_state] [(0, 10, "java/lang/IllegalArgumentException", .int 1)] 1 am_X0 pL_state n pc ls st M
def gL_state (F0 : am_F) (k : Nat → List am_V → List am_V → am_M → am_R) (pc : Nat) (ls st : List am_V) (M : am_M) : am_R := am_go [F0] [(0, 10, "java/lang/IllegalArgumentException", .int 1)] 1 am_X0 pL_state [8] k 100 pc ls st M
theorem uL_state {n pc : Nat} {ls st : List am_V} {M : am_M} {res : am_O × am_M} (h : gL_state fX9_state (rL_state n) pc ls st M = some res) : rL_state (n + 100) pc ls st M = some res := am_go_ok h
theorem eL_state (x1 : Int32) (x2 : Int32) (M : am_M) : fL_state [.inr (9, 0), .inl (.int x1), .inl (.int x2), .inr (80, 0)] M = rL_state 100000 0 [.inr (9, 0), .inl (.int x1), .inl (.int x2), .inr (80, 0), am_D] [] M := am_meth_eq rfl rfl
set_option maxRecDepth 20000 in
theorem gL_state_0 (F0 : am_F) (k : Nat → List am_V → List am_V → am_M → am_R) (x1 : Int32) (x2 : Int32) (M : am_M) : gL_state F0 k 0 [.inr (9, 0), .inl (.int x1), .inl (.int x2), .inr (80, 0), am_D] [] M =
  am_ret [(0, 10, "java/lang/IllegalArgumentException", .int 1)] 5 [.inl (.int 0), .inr (80, 0)] (k 8 [.inr (9, 0), .inl (.int x1), .inl (.int x2), .inr (80, 0), am_D]) (F0 [.inr (9, 0), .inl (.int x1), .inl (.int x2)] M) := (rfl)
theorem eL_state_0 {n : Nat} {x1 : Int32} {x2 : Int32} {M : am_M} {res : am_O × am_M} (h : (am_ret [(0, 10, "java/lang/IllegalArgumentException", .int 1)] 5 [.inl (.int 0), .inr (80, 0)] (rL_state n 8 [.inr (9, 0), .inl (.int x1), .inl (.int x2), .inr (80, 0), am_D]) (fX9_state [.inr (9, 0), .inl (.int x1), .inl (.int x2)] M)) = some res) : rL_state (n + 100) 0 [.inr (9, 0), .inl (.int x1), .inl (.int x2), .inr (80, 0), am_D] [] M = some res := uL_state ((gL_state_0 fX9_state (rL_state n) x1 x2 M).trans h)
set_option maxRecDepth 20000 in
theorem gL_state_8 (F0 : am_F) (k : Nat → List am_V → List am_V → am_M → am_R) (x1 : Int32) (x2 : Int32) (y0 : Int32) (y1 : Int32) (M : am_M) : gL_state F0 k 8 [.inr (9, 0), .inl (.int x1), .inl (.int x2), .inr (80, 0), am_D] [.inl (.int y0), .inl (.int y1), .inr (80, 0)] M =
  if am_in y1 1 then
   some (.inl (some (.inl (.int 0))), (am_put (am_put M 80 0 (2 * (Int32.toNatClampNeg y1)) (am_hi (Int32.toInt64 y0))) 80 0 (2 * (Int32.toNatClampNeg y1) + 1) (am_lo (Int32.toInt64 y0))))
  else none := (rfl)
theorem eL_state_8 {n : Nat} {x1 : Int32} {x2 : Int32} {y0 : Int32} {y1 : Int32} {M : am_M} {res : am_O × am_M} (h : (if am_in y1 1 then
   some (.inl (some (.inl (.int 0))), (am_put (am_put M 80 0 (2 * (Int32.toNatClampNeg y1)) (am_hi (Int32.toInt64 y0))) 80 0 (2 * (Int32.toNatClampNeg y1) + 1) (am_lo (Int32.toInt64 y0))))
  else none) = some res) : rL_state (n + 100) 8 [.inr (9, 0), .inl (.int x1), .inl (.int x2), .inr (80, 0), am_D] [.inl (.int y0), .inl (.int y1), .inr (80, 0)] M = some res := uL_state ((gL_state_8 fX9_state (rL_state n) x1 x2 y0 y1 M).trans h)
def rL_cuvette (n pc : Nat) (ls st : List am_V) (M : am_M) : am_R := am_run [fX9_cuvette] [(0, 10, "java/lang/IllegalArgumentException", .int 1)] 1 am_X0 pL_cuvette n pc ls st M
def gL_cuvette (F0 : am_F) (k : Nat → List am_V → List am_V → am_M → am_R) (pc : Nat) (ls st : List am_V) (M : am_M) : am_R := am_go [F0] [(0, 10, "java/lang/IllegalArgumentException", .int 1)] 1 am_X0 pL_cuvette [8] k 100 pc ls st M
theorem uL_cuvette {n pc : Nat} {ls st : List am_V} {M : am_M} {res : am_O × am_M} (h : gL_cuvette fX9_cuvette (rL_cuvette n) pc ls st M = some res) : rL_cuvette (n + 100) pc ls st M = some res := am_go_ok h
theorem eL_cuvette (x1 : Int32) (x2 : Int32) (M : am_M) : fL_cuvette [.inr (9, 0), .inl (.int x1), .inl (.int x2), .inr (80, 0)] M = rL_cuvette 100000 0 [.inr (9, 0), .inl (.int x1), .inl (.int x2), .inr (80, 0), am_D] [] M := am_meth_eq rfl rfl
set_option maxRecDepth 20000 in
theorem gL_cuvette_0 (F0 : am_F) (k : Nat → List am_V → List am_V → am_M → am_R) (x1 : Int32) (x2 : Int32) (M : am_M) : gL_cuvette F0 k 0 [.inr (9, 0), .inl (.int x1), .inl (.int x2), .inr (80, 0), am_D] [] M =
  am_ret [(0, 10, "java/lang/IllegalArgumentException", .int 1)] 5 [.inl (.int 0), .inr (80, 0)] (k 8 [.inr (9, 0), .inl (.int x1), .inl (.int x2), .inr (80, 0), am_D]) (F0 [.inr (9, 0), .inl (.int x1), .inl (.int x2)] M) := (rfl)
theorem eL_cuvette_0 {n : Nat} {x1 : Int32} {x2 : Int32} {M : am_M} {res : am_O × am_M} (h : (am_ret [(0, 10, "java/lang/IllegalArgumentException", .int 1)] 5 [.inl (.int 0), .inr (80, 0)] (rL_cuvette n 8 [.inr (9, 0), .inl (.int x1), .inl (.int x2), .inr (80, 0), am_D]) (fX9_cuvette [.inr (9, 0), .inl (.int x1), .inl (.int x2)] M)) = some res) : rL_cuvette (n + 100) 0 [.inr (9, 0), .inl (.int x1), .inl (.int x2), .inr (80, 0), am_D] [] M = some res := uL_cuvette ((gL_cuvette_0 fX9_cuvette (rL_cuvette n) x1 x2 M).trans h)
set_option maxRecDepth 20000 in
theorem gL_cuvette_8 (F0 : am_F) (k : Nat → List am_V → List am_V → am_M → am_R) (x1 : Int32) (x2 : Int32) (y0 : Int32) (y1 : Int32) (M : am_M) : gL_cuvette F0 k 8 [.inr (9, 0), .inl (.int x1), .inl (.int x2), .inr (80, 0), am_D] [.inl (.int y0), .inl (.int y1), .inr (80, 0)] M =
  if am_in y1 1 then
   some (.inl (some (.inl (.int 0))), (am_put (am_put M 80 0 (2 * (Int32.toNatClampNeg y1)) (am_hi (Int32.toInt64 y0))) 80 0 (2 * (Int32.toNatClampNeg y1) + 1) (am_lo (Int32.toInt64 y0))))
  else none := (rfl)
theorem eL_cuvette_8 {n : Nat} {x1 : Int32} {x2 : Int32} {y0 : Int32} {y1 : Int32} {M : am_M} {res : am_O × am_M} (h : (if am_in y1 1 then
   some (.inl (some (.inl (.int 0))), (am_put (am_put M 80 0 (2 * (Int32.toNatClampNeg y1)) (am_hi (Int32.toInt64 y0))) 80 0 (2 * (Int32.toNatClampNeg y1) + 1) (am_lo (Int32.toInt64 y0))))
  else none) = some res) : rL_cuvette (n + 100) 8 [.inr (9, 0), .inl (.int x1), .inl (.int x2), .inr (80, 0), am_D] [.inl (.int y0), .inl (.int y1), .inr (80, 0)] M = some res := uL_cuvette ((gL_cuvette_8 fX9_cuvette (rL_cuvette n) x1 x2 y0 y1 M).trans h)
def rL_volume (n pc : Nat) (ls st : List am_V) (M : am_M) : am_R := am_run [fX9_volume] [(0, 10, "java/lang/IllegalArgumentException", .int 1), (0, 10, "java/util/NoSuchElementException", .int 2)] 1 am_X0 pL_volume n pc ls st M
def gL_volume (F0 : am_F) (k : Nat → List am_V → List am_V → am_M → am_R) (pc : Nat) (ls st : List am_V) (M : am_M) : am_R := am_go [F0] [(0, 10, "java/lang/IllegalArgumentException", .int 1), (0, 10, "java/util/NoSuchElementException", .int 2)] 1 am_X0 pL_volume [8] k 100 pc ls st M
theorem uL_volume {n pc : Nat} {ls st : List am_V} {M : am_M} {res : am_O × am_M} (h : gL_volume fX9_volume (rL_volume n) pc ls st M = some res) : rL_volume (n + 100) pc ls st M = some res := am_go_ok h
theorem eL_volume (x1 : Int32) (x2 : Int32) (M : am_M) : fL_volume [.inr (9, 0), .inl (.int x1), .inl (.int x2), .inr (80, 0)] M = rL_volume 100000 0 [.inr (9, 0), .inl (.int x1), .inl (.int x2), .inr (80, 0), am_D] [] M := am_meth_eq rfl rfl
set_option maxRecDepth 20000 in
theorem gL_volume_0 (F0 : am_F) (k : Nat → List am_V → List am_V → am_M → am_R) (x1 : Int32) (x2 : Int32) (M : am_M) : gL_volume F0 k 0 [.inr (9, 0), .inl (.int x1), .inl (.int x2), .inr (80, 0), am_D] [] M =
  am_ret [(0, 10, "java/lang/IllegalArgumentException", .int 1), (0, 10, "java/util/NoSuchElementException", .int 2)] 5 [.inl (.int 0), .inr (80, 0)] (k 8 [.inr (9, 0), .inl (.int x1), .inl (.int x2), .inr (80, 0), am_D]) (F0 [.inr (9, 0), .inl (.int x1), .inl (.int x2)] M) := (rfl)
theorem eL_volume_0 {n : Nat} {x1 : Int32} {x2 : Int32} {M : am_M} {res : am_O × am_M} (h : (am_ret [(0, 10, "java/lang/IllegalArgumentException", .int 1), (0, 10, "java/util/NoSuchElementException", .int 2)] 5 [.inl (.int 0), .inr (80, 0)] (rL_volume n 8 [.inr (9, 0), .inl (.int x1), .inl (.int x2), .inr (80, 0), am_D]) (fX9_volume [.inr (9, 0), .inl (.int x1), .inl (.int x2)] M)) = some res) : rL_volume (n + 100) 0 [.inr (9, 0), .inl (.int x1), .inl (.int x2), .inr (80, 0), am_D] [] M = some res := uL_volume ((gL_volume_0 fX9_volume (rL_volume n) x1 x2 M).trans h)
set_option maxRecDepth 20000 in
theorem gL_volume_8 (F0 : am_F) (k : Nat → List am_V → List am_V → am_M → am_R) (x1 : Int32) (x2 : Int32) (y0 : Int32) (y1 : Int32) (M : am_M) : gL_volume F0 k 8 [.inr (9, 0), .inl (.int x1), .inl (.int x2), .inr (80, 0), am_D] [.inl (.int y0), .inl (.int y1), .inr (80, 0)] M =
  if am_in y1 1 then
   some (.inl (some (.inl (.int 0))), (am_put (am_put M 80 0 (2 * (Int32.toNatClampNeg y1)) (am_hi (Int32.toInt64 y0))) 80 0 (2 * (Int32.toNatClampNeg y1) + 1) (am_lo (Int32.toInt64 y0))))
  else none := (rfl)
theorem eL_volume_8 {n : Nat} {x1 : Int32} {x2 : Int32} {y0 : Int32} {y1 : Int32} {M : am_M} {res : am_O × am_M} (h : (if am_in y1 1 then
   some (.inl (some (.inl (.int 0))), (am_put (am_put M 80 0 (2 * (Int32.toNatClampNeg y1)) (am_hi (Int32.toInt64 y0))) 80 0 (2 * (Int32.toNatClampNeg y1) + 1) (am_lo (Int32.toInt64 y0))))
  else none) = some res) : rL_volume (n + 100) 8 [.inr (9, 0), .inl (.int x1), .inl (.int x2), .inr (80, 0), am_D] [.inl (.int y0), .inl (.int y1), .inr (80, 0)] M = some res := uL_volume ((gL_volume_8 fX9_volume (rL_volume n) x1 x2 y0 y1 M).trans h)
def rL_trend (n pc : Nat) (ls st : List am_V) (M : am_M) : am_R := am_run [fX9_trend] [(0, 10, "java/lang/IllegalArgumentException", .int 1), (0, 10, "java/lang/IndexOutOfBoundsException", .int 2)] 1 am_X0 pL_trend n pc ls st M
def gL_trend (F0 : am_F) (k : Nat → List am_V → List am_V → am_M → am_R) (pc : Nat) (ls st : List am_V) (M : am_M) : am_R := am_go [F0] [(0, 10, "java/lang/IllegalArgumentException", .int 1), (0, 10, "java/lang/IndexOutOfBoundsException", .int 2)] 1 am_X0 pL_trend [8] k 100 pc ls st M
theorem uL_trend {n pc : Nat} {ls st : List am_V} {M : am_M} {res : am_O × am_M} (h : gL_trend fX9_trend (rL_trend n) pc ls st M = some res) : rL_trend (n + 100) pc ls st M = some res := am_go_ok h
theorem eL_trend (x1 : Int32) (x2 : Int32) (M : am_M) : fL_trend [.inr (9, 0), .inl (.int x1), .inl (.int x2), .inr (80, 0)] M = rL_trend 100000 0 [.inr (9, 0), .inl (.int x1), .inl (.int x2), .inr (80, 0), am_D] [] M := am_meth_eq rfl rfl
set_option maxRecDepth 20000 in
theorem gL_trend_0 (F0 : am_F) (k : Nat → List am_V → List am_V → am_M → am_R) (x1 : Int32) (x2 : Int32) (M : am_M) : gL_trend F0 k 0 [.inr (9, 0), .inl (.int x1), .inl (.int x2), .inr (80, 0), am_D] [] M =
  am_ret [(0, 10, "java/lang/IllegalArgumentException", .int 1), (0, 10, "java/lang/IndexOutOfBoundsException", .int 2)] 5 [.inl (.int 0), .inr (80, 0)] (k 8 [.inr (9, 0), .inl (.int x1), .inl (.int x2), .inr (80, 0), am_D]) (F0 [.inr (9, 0), .inl (.int x1), .inl (.int x2)] M) := (rfl)
theorem eL_trend_0 {n : Nat} {x1 : Int32} {x2 : Int32} {M : am_M} {res : am_O × am_M} (h : (am_ret [(0, 10, "java/lang/IllegalArgumentException", .int 1), (0, 10, "java/lang/IndexOutOfBoundsException", .int 2)] 5 [.inl (.int 0), .inr (80, 0)] (rL_trend n 8 [.inr (9, 0), .inl (.int x1), .inl (.int x2), .inr (80, 0), am_D]) (fX9_trend [.inr (9, 0), .inl (.int x1), .inl (.int x2)] M)) = some res) : rL_trend (n + 100) 0 [.inr (9, 0), .inl (.int x1), .inl (.int x2), .inr (80, 0), am_D] [] M = some res := uL_trend ((gL_trend_0 fX9_trend (rL_trend n) x1 x2 M).trans h)
set_option maxRecDepth 20000 in
theorem gL_trend_8 (F0 : am_F) (k : Nat → List am_V → List am_V → am_M → am_R) (x1 : Int32) (x2 : Int32) (y0 : Int32) (y1 : Int32) (M : am_M) : gL_trend F0 k 8 [.inr (9, 0), .inl (.int x1), .inl (.int x2), .inr (80, 0), am_D] [.inl (.int y0), .inl (.int y1), .inr (80, 0)] M =
  if am_in y1 1 then
   some (.inl (some (.inl (.int 0))), (am_put (am_put M 80 0 (2 * (Int32.toNatClampNeg y1)) (am_hi (Int32.toInt64 y0))) 80 0 (2 * (Int32.toNatClampNeg y1) + 1) (am_lo (Int32.toInt64 y0))))
  else none := (rfl)
theorem eL_trend_8 {n : Nat} {x1 : Int32} {x2 : Int32} {y0 : Int32} {y1 : Int32} {M : am_M} {res : am_O × am_M} (h : (if am_in y1 1 then
   some (.inl (some (.inl (.int 0))), (am_put (am_put M 80 0 (2 * (Int32.toNatClampNeg y1)) (am_hi (Int32.toInt64 y0))) 80 0 (2 * (Int32.toNatClampNeg y1) + 1) (am_lo (Int32.toInt64 y0))))
  else none) = some res) : rL_trend (n + 100) 8 [.inr (9, 0), .inl (.int x1), .inl (.int x2), .inr (80, 0), am_D] [.inl (.int y0), .inl (.int y1), .inr (80, 0)] M = some res := uL_trend ((gL_trend_8 fX9_trend (rL_trend n) x1 x2 y0 y1 M).trans h)
def rL_rules (n pc : Nat) (ls st : List am_V) (M : am_M) : am_R := am_run [fX9_rules] [(0, 9, "java/lang/IllegalArgumentException", .int 1)] 1 am_X0 pL_rules n pc ls st M
def gL_rules (F0 : am_F) (k : Nat → List am_V → List am_V → am_M → am_R) (pc : Nat) (ls st : List am_V) (M : am_M) : am_R := am_go [F0] [(0, 9, "java/lang/IllegalArgumentException", .int 1)] 1 am_X0 pL_rules [7] k 100 pc ls st M
theorem uL_rules {n pc : Nat} {ls st : List am_V} {M : am_M} {res : am_O × am_M} (h : gL_rules fX9_rules (rL_rules n) pc ls st M = some res) : rL_rules (n + 100) pc ls st M = some res := am_go_ok h
theorem eL_rules (x1 : Int32) (M : am_M) : fL_rules [.inr (9, 0), .inl (.int x1), .inr (80, 0)] M = rL_rules 100000 0 [.inr (9, 0), .inl (.int x1), .inr (80, 0), am_D] [] M := am_meth_eq rfl rfl
set_option maxRecDepth 20000 in
theorem gL_rules_0 (F0 : am_F) (k : Nat → List am_V → List am_V → am_M → am_R) (x1 : Int32) (M : am_M) : gL_rules F0 k 0 [.inr (9, 0), .inl (.int x1), .inr (80, 0), am_D] [] M =
  am_ret [(0, 9, "java/lang/IllegalArgumentException", .int 1)] 4 [.inl (.int 0), .inr (80, 0)] (k 7 [.inr (9, 0), .inl (.int x1), .inr (80, 0), am_D]) (F0 [.inr (9, 0), .inl (.int x1)] M) := (rfl)
theorem eL_rules_0 {n : Nat} {x1 : Int32} {M : am_M} {res : am_O × am_M} (h : (am_ret [(0, 9, "java/lang/IllegalArgumentException", .int 1)] 4 [.inl (.int 0), .inr (80, 0)] (rL_rules n 7 [.inr (9, 0), .inl (.int x1), .inr (80, 0), am_D]) (fX9_rules [.inr (9, 0), .inl (.int x1)] M)) = some res) : rL_rules (n + 100) 0 [.inr (9, 0), .inl (.int x1), .inr (80, 0), am_D] [] M = some res := uL_rules ((gL_rules_0 fX9_rules (rL_rules n) x1 M).trans h)
set_option maxRecDepth 20000 in
theorem gL_rules_7 (F0 : am_F) (k : Nat → List am_V → List am_V → am_M → am_R) (x1 : Int32) (y0 : Int32) (y1 : Int32) (M : am_M) : gL_rules F0 k 7 [.inr (9, 0), .inl (.int x1), .inr (80, 0), am_D] [.inl (.int y0), .inl (.int y1), .inr (80, 0)] M =
  if am_in y1 1 then
   some (.inl (some (.inl (.int 0))), (am_put (am_put M 80 0 (2 * (Int32.toNatClampNeg y1)) (am_hi (Int32.toInt64 y0))) 80 0 (2 * (Int32.toNatClampNeg y1) + 1) (am_lo (Int32.toInt64 y0))))
  else none := (rfl)
theorem eL_rules_7 {n : Nat} {x1 : Int32} {y0 : Int32} {y1 : Int32} {M : am_M} {res : am_O × am_M} (h : (if am_in y1 1 then
   some (.inl (some (.inl (.int 0))), (am_put (am_put M 80 0 (2 * (Int32.toNatClampNeg y1)) (am_hi (Int32.toInt64 y0))) 80 0 (2 * (Int32.toNatClampNeg y1) + 1) (am_lo (Int32.toInt64 y0))))
  else none) = some res) : rL_rules (n + 100) 7 [.inr (9, 0), .inl (.int x1), .inr (80, 0), am_D] [.inl (.int y0), .inl (.int y1), .inr (80, 0)] M = some res := uL_rules ((gL_rules_7 fX9_rules (rL_rules n) x1 y0 y1 M).trans h)
def rL_host (n pc : Nat) (ls st : List am_V) (M : am_M) : am_R := am_run [fX9_host] [(0, 9, "java/lang/IndexOutOfBoundsException", .int 1)] 1 am_X0 pL_host n pc ls st M
def gL_host (F0 : am_F) (k : Nat → List am_V → List am_V → am_M → am_R) (pc : Nat) (ls st : List am_V) (M : am_M) : am_R := am_go [F0] [(0, 9, "java/lang/IndexOutOfBoundsException", .int 1)] 1 am_X0 pL_host [7] k 100 pc ls st M
theorem uL_host {n pc : Nat} {ls st : List am_V} {M : am_M} {res : am_O × am_M} (h : gL_host fX9_host (rL_host n) pc ls st M = some res) : rL_host (n + 100) pc ls st M = some res := am_go_ok h
theorem eL_host (x1 : Int32) (M : am_M) : fL_host [.inr (9, 0), .inl (.int x1), .inr (80, 0)] M = rL_host 100000 0 [.inr (9, 0), .inl (.int x1), .inr (80, 0), am_D] [] M := am_meth_eq rfl rfl
set_option maxRecDepth 20000 in
theorem gL_host_0 (F0 : am_F) (k : Nat → List am_V → List am_V → am_M → am_R) (x1 : Int32) (M : am_M) : gL_host F0 k 0 [.inr (9, 0), .inl (.int x1), .inr (80, 0), am_D] [] M =
  am_ret [(0, 9, "java/lang/IndexOutOfBoundsException", .int 1)] 4 [.inl (.int 0), .inr (80, 0)] (k 7 [.inr (9, 0), .inl (.int x1), .inr (80, 0), am_D]) (F0 [.inr (9, 0), .inl (.int x1)] M) := (rfl)
theorem eL_host_0 {n : Nat} {x1 : Int32} {M : am_M} {res : am_O × am_M} (h : (am_ret [(0, 9, "java/lang/IndexOutOfBoundsException", .int 1)] 4 [.inl (.int 0), .inr (80, 0)] (rL_host n 7 [.inr (9, 0), .inl (.int x1), .inr (80, 0), am_D]) (fX9_host [.inr (9, 0), .inl (.int x1)] M)) = some res) : rL_host (n + 100) 0 [.inr (9, 0), .inl (.int x1), .inr (80, 0), am_D] [] M = some res := uL_host ((gL_host_0 fX9_host (rL_host n) x1 M).trans h)
set_option maxRecDepth 20000 in
theorem gL_host_7 (F0 : am_F) (k : Nat → List am_V → List am_V → am_M → am_R) (x1 : Int32) (y0 : Int32) (y1 : Int32) (M : am_M) : gL_host F0 k 7 [.inr (9, 0), .inl (.int x1), .inr (80, 0), am_D] [.inl (.int y0), .inl (.int y1), .inr (80, 0)] M =
  if am_in y1 1 then
   some (.inl (some (.inl (.int 0))), (am_put (am_put M 80 0 (2 * (Int32.toNatClampNeg y1)) (am_hi (Int32.toInt64 y0))) 80 0 (2 * (Int32.toNatClampNeg y1) + 1) (am_lo (Int32.toInt64 y0))))
  else none := (rfl)
theorem eL_host_7 {n : Nat} {x1 : Int32} {y0 : Int32} {y1 : Int32} {M : am_M} {res : am_O × am_M} (h : (if am_in y1 1 then
   some (.inl (some (.inl (.int 0))), (am_put (am_put M 80 0 (2 * (Int32.toNatClampNeg y1)) (am_hi (Int32.toInt64 y0))) 80 0 (2 * (Int32.toNatClampNeg y1) + 1) (am_lo (Int32.toInt64 y0))))
  else none) = some res) : rL_host (n + 100) 7 [.inr (9, 0), .inl (.int x1), .inr (80, 0), am_D] [.inl (.int y0), .inl (.int y1), .inr (80, 0)] M = some res := uL_host ((gL_host_7 fX9_host (rL_host n) x1 y0 y1 M).trans h)
def rL_took (n pc : Nat) (ls st : List am_V) (M : am_M) : am_R := am_run [fX9_took] [(0, 9, "java/lang/IllegalArgumentException", .int 1)] 1 am_X0 pL_took n pc ls st M
def gL_took (F0 : am_F) (k : Nat → List am_V → List am_V → am_M → am_R) (pc : Nat) (ls st : List am_V) (M : am_M) : am_R := am_go [F0] [(0, 9, "java/lang/IllegalArgumentException", .int 1)] 1 am_X0 pL_took [7] k 100 pc ls st M
theorem uL_took {n pc : Nat} {ls st : List am_V} {M : am_M} {res : am_O × am_M} (h : gL_took fX9_took (rL_took n) pc ls st M = some res) : rL_took (n + 100) pc ls st M = some res := am_go_ok h
theorem eL_took (x1 : Int32) (M : am_M) : fL_took [.inr (9, 0), .inl (.int x1), .inr (80, 0)] M = rL_took 100000 0 [.inr (9, 0), .inl (.int x1), .inr (80, 0), am_D] [] M := am_meth_eq rfl rfl
set_option maxRecDepth 20000 in
theorem gL_took_0 (F0 : am_F) (k : Nat → List am_V → List am_V → am_M → am_R) (x1 : Int32) (M : am_M) : gL_took F0 k 0 [.inr (9, 0), .inl (.int x1), .inr (80, 0), am_D] [] M =
  am_ret [(0, 9, "java/lang/IllegalArgumentException", .int 1)] 4 [.inl (.int 0), .inr (80, 0)] (k 7 [.inr (9, 0), .inl (.int x1), .inr (80, 0), am_D]) (F0 [.inr (9, 0), .inl (.int x1)] M) := (rfl)
theorem eL_took_0 {n : Nat} {x1 : Int32} {M : am_M} {res : am_O × am_M} (h : (am_ret [(0, 9, "java/lang/IllegalArgumentException", .int 1)] 4 [.inl (.int 0), .inr (80, 0)] (rL_took n 7 [.inr (9, 0), .inl (.int x1), .inr (80, 0), am_D]) (fX9_took [.inr (9, 0), .inl (.int x1)] M)) = some res) : rL_took (n + 100) 0 [.inr (9, 0), .inl (.int x1), .inr (80, 0), am_D] [] M = some res := uL_took ((gL_took_0 fX9_took (rL_took n) x1 M).trans h)
set_option maxRecDepth 20000 in
theorem gL_took_7 (F0 : am_F) (k : Nat → List am_V → List am_V → am_M → am_R) (x1 : Int32) (y0 : Int32) (y1 : Int32) (M : am_M) : gL_took F0 k 7 [.inr (9, 0), .inl (.int x1), .inr (80, 0), am_D] [.inl (.int y0), .inl (.int y1), .inr (80, 0)] M =
  if am_in y1 1 then
   some (.inl (some (.inl (.int 0))), (am_put (am_put M 80 0 (2 * (Int32.toNatClampNeg y1)) (am_hi (Int32.toInt64 y0))) 80 0 (2 * (Int32.toNatClampNeg y1) + 1) (am_lo (Int32.toInt64 y0))))
  else none := (rfl)
theorem eL_took_7 {n : Nat} {x1 : Int32} {y0 : Int32} {y1 : Int32} {M : am_M} {res : am_O × am_M} (h : (if am_in y1 1 then
   some (.inl (some (.inl (.int 0))), (am_put (am_put M 80 0 (2 * (Int32.toNatClampNeg y1)) (am_hi (Int32.toInt64 y0))) 80 0 (2 * (Int32.toNatClampNeg y1) + 1) (am_lo (Int32.toInt64 y0))))
  else none) = some res) : rL_took (n + 100) 7 [.inr (9, 0), .inl (.int x1), .inr (80, 0), am_D] [.inl (.int y0), .inl (.int y1), .inr (80, 0)] M = some res := uL_took ((gL_took_7 fX9_took (rL_took n) x1 y0 y1 M).trans h)
def rL_law (L : Nat) (xs : Nat → Int32) (n pc : Nat) (ls st : List am_V) (M : am_M) : am_R := am_run csL [] 5 (L, xs) pL_law n pc ls st M
def gL_law (L : Nat) (xs : Nat → Int32) (F0 F1 F2 F3 F4 F5 F6 F7 F8 F9 F10 F11 F12 F13 F14 F15 F16 F17 F18 F19 F20 F21 F22 F23 F24 F25 F26 F27 F28 F29 F30 F31 F32 F33 F34 F35 F36 F37 : am_F) (k : Nat → List am_V → List am_V → am_M → am_R) (pc : Nat) (ls st : List am_V) (M : am_M) : am_R := am_go [F0, F1, fX10_thrown, F2, F3, F4, F5, F6, F7, F8, F9, F10, F11, F12, F13, F14, F15, F16, F17, F18, F19, F20, F21, F22, F23, fX9_idle, fX10_idle, F24, F25, F26, F27, F28, F29, F30, F31, F32, F33, F34, F35, F36, F37] [] 5 (L, xs) pL_law [23, 132, 154, 178, 192, 215, 239, 264, 272, 283, 295, 327, 335, 363, 393, 407, 418, 430, 455, 463, 491, 521, 535, 552, 570, 602, 610, 641, 673, 698, 706, 716, 728, 742, 752, 764, 778, 788, 800, 814, 818, 822, 827, 840, 857, 875, 900, 908, 925, 943, 968, 976, 993, 1011, 1036, 1044, 1061, 1079, 1104, 1112, 1123, 1135, 1160, 1168, 1179, 1191, 1216, 1224, 1235, 1247, 1272, 1280] k 100 pc ls st M
theorem uL_law {L : Nat} {xs : Nat → Int32} {n pc : Nat} {ls st : List am_V} {M : am_M} {res : am_O × am_M} (h : gL_law L xs fL_define fX10_define fL_curve fX10_curve fL_seal fX10_seal fL_rack fX10_rack fL_removeRack fX10_removeRack fL_reagent fX10_reagent fL_forbid fX10_forbid fL_order fX10_order fL_clock fX10_clock fL_light fX10_light fL_spoil fX10_spoil fX9_step fX10_step fL_state fX10_state fL_cuvette fX10_cuvette fL_volume fX10_volume fL_trend fX10_trend fL_rules fX10_rules fL_host fX10_host fL_took fX10_took (rL_law L xs n) pc ls st M = some res) : rL_law L xs (n + 100) pc ls st M = some res := am_go_ok h
set_option maxRecDepth 20000 in
theorem gL_law_20 (L : Nat) (xs : Nat → Int32) (F0 F1 F2 F3 F4 F5 F6 F7 F8 F9 F10 F11 F12 F13 F14 F15 F16 F17 F18 F19 F20 F21 F22 F23 F24 F25 F26 F27 F28 F29 F30 F31 F32 F33 F34 F35 F36 F37 : am_F) (k : Nat → List am_V → List am_V → am_M → am_R) (M : am_M) : gL_law L xs F0 F1 F2 F3 F4 F5 F6 F7 F8 F9 F10 F11 F12 F13 F14 F15 F16 F17 F18 F19 F20 F21 F22 F23 F24 F25 F26 F27 F28 F29 F30 F31 F32 F33 F34 F35 F36 F37 k 20 [.inr (29, 0), .inr (9, 0), .inr (10, 0), .inr (80, 0), am_D, am_D, am_D] [] M =
  k 23 [.inr (29, 0), .inr (9, 0), .inr (10, 0), .inr (80, 0), .inl (.int 0), am_D, am_D] [] M := (rfl)
theorem eL_law_20 {L : Nat} {xs : Nat → Int32} {n : Nat} {M : am_M} {res : am_O × am_M} (h : (rL_law L xs n 23 [.inr (29, 0), .inr (9, 0), .inr (10, 0), .inr (80, 0), .inl (.int 0), am_D, am_D] [] M) = some res) : rL_law L xs (n + 100) 20 [.inr (29, 0), .inr (9, 0), .inr (10, 0), .inr (80, 0), am_D, am_D, am_D] [] M = some res := uL_law ((gL_law_20 L xs fL_define fX10_define fL_curve fX10_curve fL_seal fX10_seal fL_rack fX10_rack fL_removeRack fX10_removeRack fL_reagent fX10_reagent fL_forbid fX10_forbid fL_order fX10_order fL_clock fX10_clock fL_light fX10_light fL_spoil fX10_spoil fX9_step fX10_step fL_state fX10_state fL_cuvette fX10_cuvette fL_volume fX10_volume fL_trend fX10_trend fL_rules fX10_rules fL_host fX10_host fL_took fX10_took (rL_law L xs n) M).trans h)
set_option maxRecDepth 20000 in
theorem gL_law_23 (L : Nat) (xs : Nat → Int32) (F0 F1 F2 F3 F4 F5 F6 F7 F8 F9 F10 F11 F12 F13 F14 F15 F16 F17 F18 F19 F20 F21 F22 F23 F24 F25 F26 F27 F28 F29 F30 F31 F32 F33 F34 F35 F36 F37 : am_F) (k : Nat → List am_V → List am_V → am_M → am_R) (x4 : Int32) (x5 : am_V) (x6 : am_V) (M : am_M) : gL_law L xs F0 F1 F2 F3 F4 F5 F6 F7 F8 F9 F10 F11 F12 F13 F14 F15 F16 F17 F18 F19 F20 F21 F22 F23 F24 F25 F26 F27 F28 F29 F30 F31 F32 F33 F34 F35 F36 F37 k 23 [.inr (29, 0), .inr (9, 0), .inr (10, 0), .inr (80, 0), .inl (.int x4), x5, x6] [] M =
  if ((Int32.ofNat L) - 5) < x4 then
   some (.inl (some (.inl (.int 1))), M)
  else if am_in x4 L then
   if ((xs (Int32.toNatClampNeg x4)) &&& 31) = 0 then
    k 132 [.inr (29, 0), .inr (9, 0), .inr (10, 0), .inr (80, 0), .inl (.int x4), x5, x6] [] M
   else if ((xs (Int32.toNatClampNeg x4)) &&& 31) = 1 then
    k 192 [.inr (29, 0), .inr (9, 0), .inr (10, 0), .inr (80, 0), .inl (.int x4), x5, x6] [] M
   else if ((xs (Int32.toNatClampNeg x4)) &&& 31) = 2 then
    k 272 [.inr (29, 0), .inr (9, 0), .inr (10, 0), .inr (80, 0), .inl (.int x4), x5, x6] [] M
   else if ((xs (Int32.toNatClampNeg x4)) &&& 31) = 3 then
    k 335 [.inr (29, 0), .inr (9, 0), .inr (10, 0), .inr (80, 0), .inl (.int x4), x5, x6] [] M
   else if ((xs (Int32.toNatClampNeg x4)) &&& 31) = 4 then
    k 407 [.inr (29, 0), .inr (9, 0), .inr (10, 0), .inr (80, 0), .inl (.int x4), x5, x6] [] M
   else if ((xs (Int32.toNatClampNeg x4)) &&& 31) = 5 then
    k 463 [.inr (29, 0), .inr (9, 0), .inr (10, 0), .inr (80, 0), .inl (.int x4), x5, x6] [] M
   else if ((xs (Int32.toNatClampNeg x4)) &&& 31) = 6 then
    k 535 [.inr (29, 0), .inr (9, 0), .inr (10, 0), .inr (80, 0), .inl (.int x4), x5, x6] [] M
   else if ((xs (Int32.toNatClampNeg x4)) &&& 31) = 7 then
    k 610 [.inr (29, 0), .inr (9, 0), .inr (10, 0), .inr (80, 0), .inl (.int x4), x5, x6] [] M
   else if ((xs (Int32.toNatClampNeg x4)) &&& 31) = 8 then
    k 706 [.inr (29, 0), .inr (9, 0), .inr (10, 0), .inr (80, 0), .inl (.int x4), x5, x6] [] M
   else if ((xs (Int32.toNatClampNeg x4)) &&& 31) = 9 then
    k 742 [.inr (29, 0), .inr (9, 0), .inr (10, 0), .inr (80, 0), .inl (.int x4), x5, x6] [] M
   else if ((xs (Int32.toNatClampNeg x4)) &&& 31) = 10 then
    k 778 [.inr (29, 0), .inr (9, 0), .inr (10, 0), .inr (80, 0), .inl (.int x4), x5, x6] [] M
   else if ((xs (Int32.toNatClampNeg x4)) &&& 31) = 11 then
    k 814 [.inr (29, 0), .inr (9, 0), .inr (10, 0), .inr (80, 0), .inl (.int x4), x5, x6] [] M
   else if ((xs (Int32.toNatClampNeg x4)) &&& 31) = 12 then
    k 827 [.inr (29, 0), .inr (9, 0), .inr (10, 0), .inr (80, 0), .inl (.int x4), x5, x6] [] M
   else if ((xs (Int32.toNatClampNeg x4)) &&& 31) = 13 then
    k 840 [.inr (29, 0), .inr (9, 0), .inr (10, 0), .inr (80, 0), .inl (.int x4), x5, x6] [] M
   else if ((xs (Int32.toNatClampNeg x4)) &&& 31) = 14 then
    k 908 [.inr (29, 0), .inr (9, 0), .inr (10, 0), .inr (80, 0), .inl (.int x4), x5, x6] [] M
   else if ((xs (Int32.toNatClampNeg x4)) &&& 31) = 15 then
    k 976 [.inr (29, 0), .inr (9, 0), .inr (10, 0), .inr (80, 0), .inl (.int x4), x5, x6] [] M
   else if ((xs (Int32.toNatClampNeg x4)) &&& 31) = 16 then
    k 1044 [.inr (29, 0), .inr (9, 0), .inr (10, 0), .inr (80, 0), .inl (.int x4), x5, x6] [] M
   else if ((xs (Int32.toNatClampNeg x4)) &&& 31) = 17 then
    k 1112 [.inr (29, 0), .inr (9, 0), .inr (10, 0), .inr (80, 0), .inl (.int x4), x5, x6] [] M
   else if ((xs (Int32.toNatClampNeg x4)) &&& 31) = 18 then
    k 1168 [.inr (29, 0), .inr (9, 0), .inr (10, 0), .inr (80, 0), .inl (.int x4), x5, x6] [] M
   else if ((xs (Int32.toNatClampNeg x4)) &&& 31) = 19 then
    k 1224 [.inr (29, 0), .inr (9, 0), .inr (10, 0), .inr (80, 0), .inl (.int x4), x5, x6] [] M
   else k 1280 [.inr (29, 0), .inr (9, 0), .inr (10, 0), .inr (80, 0), .inl (.int x4), x5, x6] [] M
  else none := (rfl)
theorem eL_law_23 {L : Nat} {xs : Nat → Int32} {n : Nat} {x4 : Int32} {x5 : am_V} {x6 : am_V} {M : am_M} {res : am_O × am_M} (h : (if ((Int32.ofNat L) - 5) < x4 then
   some (.inl (some (.inl (.int 1))), M)
  else if am_in x4 L then
   if ((xs (Int32.toNatClampNeg x4)) &&& 31) = 0 then
    rL_law L xs n 132 [.inr (29, 0), .inr (9, 0), .inr (10, 0), .inr (80, 0), .inl (.int x4), x5, x6] [] M
   else if ((xs (Int32.toNatClampNeg x4)) &&& 31) = 1 then
    rL_law L xs n 192 [.inr (29, 0), .inr (9, 0), .inr (10, 0), .inr (80, 0), .inl (.int x4), x5, x6] [] M
   else if ((xs (Int32.toNatClampNeg x4)) &&& 31) = 2 then
    rL_law L xs n 272 [.inr (29, 0), .inr (9, 0), .inr (10, 0), .inr (80, 0), .inl (.int x4), x5, x6] [] M
   else if ((xs (Int32.toNatClampNeg x4)) &&& 31) = 3 then
    rL_law L xs n 335 [.inr (29, 0), .inr (9, 0), .inr (10, 0), .inr (80, 0), .inl (.int x4), x5, x6] [] M
   else if ((xs (Int32.toNatClampNeg x4)) &&& 31) = 4 then
    rL_law L xs n 407 [.inr (29, 0), .inr (9, 0), .inr (10, 0), .inr (80, 0), .inl (.int x4), x5, x6] [] M
   else if ((xs (Int32.toNatClampNeg x4)) &&& 31) = 5 then
    rL_law L xs n 463 [.inr (29, 0), .inr (9, 0), .inr (10, 0), .inr (80, 0), .inl (.int x4), x5, x6] [] M
   else if ((xs (Int32.toNatClampNeg x4)) &&& 31) = 6 then
    rL_law L xs n 535 [.inr (29, 0), .inr (9, 0), .inr (10, 0), .inr (80, 0), .inl (.int x4), x5, x6] [] M
   else if ((xs (Int32.toNatClampNeg x4)) &&& 31) = 7 then
    rL_law L xs n 610 [.inr (29, 0), .inr (9, 0), .inr (10, 0), .inr (80, 0), .inl (.int x4), x5, x6] [] M
   else if ((xs (Int32.toNatClampNeg x4)) &&& 31) = 8 then
    rL_law L xs n 706 [.inr (29, 0), .inr (9, 0), .inr (10, 0), .inr (80, 0), .inl (.int x4), x5, x6] [] M
   else if ((xs (Int32.toNatClampNeg x4)) &&& 31) = 9 then
    rL_law L xs n 742 [.inr (29, 0), .inr (9, 0), .inr (10, 0), .inr (80, 0), .inl (.int x4), x5, x6] [] M
   else if ((xs (Int32.toNatClampNeg x4)) &&& 31) = 10 then
    rL_law L xs n 778 [.inr (29, 0), .inr (9, 0), .inr (10, 0), .inr (80, 0), .inl (.int x4), x5, x6] [] M
   else if ((xs (Int32.toNatClampNeg x4)) &&& 31) = 11 then
    rL_law L xs n 814 [.inr (29, 0), .inr (9, 0), .inr (10, 0), .inr (80, 0), .inl (.int x4), x5, x6] [] M
   else if ((xs (Int32.toNatClampNeg x4)) &&& 31) = 12 then
    rL_law L xs n 827 [.inr (29, 0), .inr (9, 0), .inr (10, 0), .inr (80, 0), .inl (.int x4), x5, x6] [] M
   else if ((xs (Int32.toNatClampNeg x4)) &&& 31) = 13 then
    rL_law L xs n 840 [.inr (29, 0), .inr (9, 0), .inr (10, 0), .inr (80, 0), .inl (.int x4), x5, x6] [] M
   else if ((xs (Int32.toNatClampNeg x4)) &&& 31) = 14 then
    rL_law L xs n 908 [.inr (29, 0), .inr (9, 0), .inr (10, 0), .inr (80, 0), .inl (.int x4), x5, x6] [] M
   else if ((xs (Int32.toNatClampNeg x4)) &&& 31) = 15 then
    rL_law L xs n 976 [.inr (29, 0), .inr (9, 0), .inr (10, 0), .inr (80, 0), .inl (.int x4), x5, x6] [] M
   else if ((xs (Int32.toNatClampNeg x4)) &&& 31) = 16 then
    rL_law L xs n 1044 [.inr (29, 0), .inr (9, 0), .inr (10, 0), .inr (80, 0), .inl (.int x4), x5, x6] [] M
   else if ((xs (Int32.toNatClampNeg x4)) &&& 31) = 17 then
    rL_law L xs n 1112 [.inr (29, 0), .inr (9, 0), .inr (10, 0), .inr (80, 0), .inl (.int x4), x5, x6] [] M
   else if ((xs (Int32.toNatClampNeg x4)) &&& 31) = 18 then
    rL_law L xs n 1168 [.inr (29, 0), .inr (9, 0), .inr (10, 0), .inr (80, 0), .inl (.int x4), x5, x6] [] M
   else if ((xs (Int32.toNatClampNeg x4)) &&& 31) = 19 then
    rL_law L xs n 1224 [.inr (29, 0), .inr (9, 0), .inr (10, 0), .inr (80, 0), .inl (.int x4), x5, x6] [] M
   else rL_law L xs n 1280 [.inr (29, 0), .inr (9, 0), .inr (10, 0), .inr (80, 0), .inl (.int x4), x5, x6] [] M
  else none) = some res) : rL_law L xs (n + 100) 23 [.inr (29, 0), .inr (9, 0), .inr (10, 0), .inr (80, 0), .inl (.int x4), x5, x6] [] M = some res := uL_law ((gL_law_23 L xs fL_define fX10_define fL_curve fX10_curve fL_seal fX10_seal fL_rack fX10_rack fL_removeRack fX10_removeRack fL_reagent fX10_reagent fL_forbid fX10_forbid fL_order fX10_order fL_clock fX10_clock fL_light fX10_light fL_spoil fX10_spoil fX9_step fX10_step fL_state fX10_state fL_cuvette fX10_cuvette fL_volume fX10_volume fL_trend fX10_trend fL_rules fX10_rules fL_host fX10_host fL_took fX10_took (rL_law L xs n) x4 x5 x6 M).trans h)
set_option maxRecDepth 20000 in
theorem gL_law_132 (L : Nat) (xs : Nat → Int32) (F0 F1 F2 F3 F4 F5 F6 F7 F8 F9 F10 F11 F12 F13 F14 F15 F16 F17 F18 F19 F20 F21 F22 F23 F24 F25 F26 F27 F28 F29 F30 F31 F32 F33 F34 F35 F36 F37 : am_F) (k : Nat → List am_V → List am_V → am_M → am_R) (x4 : Int32) (x5 : am_V) (x6 : am_V) (M : am_M) : gL_law L xs F0 F1 F2 F3 F4 F5 F6 F7 F8 F9 F10 F11 F12 F13 F14 F15 F16 F17 F18 F19 F20 F21 F22 F23 F24 F25 F26 F27 F28 F29 F30 F31 F32 F33 F34 F35 F36 F37 k 132 [.inr (29, 0), .inr (9, 0), .inr (10, 0), .inr (80, 0), .inl (.int x4), x5, x6] [] M =
  if am_in (x4 + 1) L then
   if am_in (x4 + 2) L then
    if am_in (x4 + 3) L then
     am_ret [] 151 [] (k 154 [.inr (29, 0), .inr (9, 0), .inr (10, 0), .inr (80, 0), .inl (.int x4), x5, x6]) (F0 [.inr (9, 0), .inl (.int (xs (Int32.toNatClampNeg (x4 + 1)))), .inl (.int (xs (Int32.toNatClampNeg (x4 + 2)))), .inl (.int (xs (Int32.toNatClampNeg (x4 + 3))))] M)
    else none
   else none
  else none := (rfl)
theorem eL_law_132 {L : Nat} {xs : Nat → Int32} {n : Nat} {x4 : Int32} {x5 : am_V} {x6 : am_V} {M : am_M} {res : am_O × am_M} (h : (if am_in (x4 + 1) L then
   if am_in (x4 + 2) L then
    if am_in (x4 + 3) L then
     am_ret [] 151 [] (rL_law L xs n 154 [.inr (29, 0), .inr (9, 0), .inr (10, 0), .inr (80, 0), .inl (.int x4), x5, x6]) (fL_define [.inr (9, 0), .inl (.int (xs (Int32.toNatClampNeg (x4 + 1)))), .inl (.int (xs (Int32.toNatClampNeg (x4 + 2)))), .inl (.int (xs (Int32.toNatClampNeg (x4 + 3))))] M)
    else none
   else none
  else none) = some res) : rL_law L xs (n + 100) 132 [.inr (29, 0), .inr (9, 0), .inr (10, 0), .inr (80, 0), .inl (.int x4), x5, x6] [] M = some res := uL_law ((gL_law_132 L xs fL_define fX10_define fL_curve fX10_curve fL_seal fX10_seal fL_rack fX10_rack fL_removeRack fX10_removeRack fL_reagent fX10_reagent fL_forbid fX10_forbid fL_order fX10_order fL_clock fX10_clock fL_light fX10_light fL_spoil fX10_spoil fX9_step fX10_step fL_state fX10_state fL_cuvette fX10_cuvette fL_volume fX10_volume fL_trend fX10_trend fL_rules fX10_rules fL_host fX10_host fL_took fX10_took (rL_law L xs n) x4 x5 x6 M).trans h)
set_option maxRecDepth 20000 in
theorem gL_law_192 (L : Nat) (xs : Nat → Int32) (F0 F1 F2 F3 F4 F5 F6 F7 F8 F9 F10 F11 F12 F13 F14 F15 F16 F17 F18 F19 F20 F21 F22 F23 F24 F25 F26 F27 F28 F29 F30 F31 F32 F33 F34 F35 F36 F37 : am_F) (k : Nat → List am_V → List am_V → am_M → am_R) (x4 : Int32) (x5 : am_V) (x6 : am_V) (M : am_M) : gL_law L xs F0 F1 F2 F3 F4 F5 F6 F7 F8 F9 F10 F11 F12 F13 F14 F15 F16 F17 F18 F19 F20 F21 F22 F23 F24 F25 F26 F27 F28 F29 F30 F31 F32 F33 F34 F35 F36 F37 k 192 [.inr (29, 0), .inr (9, 0), .inr (10, 0), .inr (80, 0), .inl (.int x4), x5, x6] [] M =
  if am_in (x4 + 1) L then
   if am_in (x4 + 2) L then
    if am_in (x4 + 3) L then
     am_ret [] 212 [] (k 215 [.inr (29, 0), .inr (9, 0), .inr (10, 0), .inr (80, 0), .inl (.int x4), x5, x6]) (F2 [.inr (9, 0), .inl (.int (xs (Int32.toNatClampNeg (x4 + 1)))), .inl (.int (xs (Int32.toNatClampNeg (x4 + 2)))), .inl (.int (xs (Int32.toNatClampNeg (x4 + 3)))), .inr (80, 0)] M)
    else none
   else none
  else none := (rfl)
theorem eL_law_192 {L : Nat} {xs : Nat → Int32} {n : Nat} {x4 : Int32} {x5 : am_V} {x6 : am_V} {M : am_M} {res : am_O × am_M} (h : (if am_in (x4 + 1) L then
   if am_in (x4 + 2) L then
    if am_in (x4 + 3) L then
     am_ret [] 212 [] (rL_law L xs n 215 [.inr (29, 0), .inr (9, 0), .inr (10, 0), .inr (80, 0), .inl (.int x4), x5, x6]) (fL_curve [.inr (9, 0), .inl (.int (xs (Int32.toNatClampNeg (x4 + 1)))), .inl (.int (xs (Int32.toNatClampNeg (x4 + 2)))), .inl (.int (xs (Int32.toNatClampNeg (x4 + 3)))), .inr (80, 0)] M)
    else none
   else none
  else none) = some res) : rL_law L xs (n + 100) 192 [.inr (29, 0), .inr (9, 0), .inr (10, 0), .inr (80, 0), .inl (.int x4), x5, x6] [] M = some res := uL_law ((gL_law_192 L xs fL_define fX10_define fL_curve fX10_curve fL_seal fX10_seal fL_rack fX10_rack fL_removeRack fX10_removeRack fL_reagent fX10_reagent fL_forbid fX10_forbid fL_order fX10_order fL_clock fX10_clock fL_light fX10_light fL_spoil fX10_spoil fX9_step fX10_step fL_state fX10_state fL_cuvette fX10_cuvette fL_volume fX10_volume fL_trend fX10_trend fL_rules fX10_rules fL_host fX10_host fL_took fX10_took (rL_law L xs n) x4 x5 x6 M).trans h)
set_option maxRecDepth 20000 in
theorem gL_law_272 (L : Nat) (xs : Nat → Int32) (F0 F1 F2 F3 F4 F5 F6 F7 F8 F9 F10 F11 F12 F13 F14 F15 F16 F17 F18 F19 F20 F21 F22 F23 F24 F25 F26 F27 F28 F29 F30 F31 F32 F33 F34 F35 F36 F37 : am_F) (k : Nat → List am_V → List am_V → am_M → am_R) (x4 : Int32) (x5 : am_V) (x6 : am_V) (M : am_M) : gL_law L xs F0 F1 F2 F3 F4 F5 F6 F7 F8 F9 F10 F11 F12 F13 F14 F15 F16 F17 F18 F19 F20 F21 F22 F23 F24 F25 F26 F27 F28 F29 F30 F31 F32 F33 F34 F35 F36 F37 k 272 [.inr (29, 0), .inr (9, 0), .inr (10, 0), .inr (80, 0), .inl (.int x4), x5, x6] [] M =
  if am_in (x4 + 1) L then
   am_ret [] 280 [] (k 283 [.inr (29, 0), .inr (9, 0), .inr (10, 0), .inr (80, 0), .inl (.int x4), x5, x6]) (F4 [.inr (9, 0), .inl (.int (xs (Int32.toNatClampNeg (x4 + 1)))), .inr (80, 0)] M)
  else none := (rfl)
theorem eL_law_272 {L : Nat} {xs : Nat → Int32} {n : Nat} {x4 : Int32} {x5 : am_V} {x6 : am_V} {M : am_M} {res : am_O × am_M} (h : (if am_in (x4 + 1) L then
   am_ret [] 280 [] (rL_law L xs n 283 [.inr (29, 0), .inr (9, 0), .inr (10, 0), .inr (80, 0), .inl (.int x4), x5, x6]) (fL_seal [.inr (9, 0), .inl (.int (xs (Int32.toNatClampNeg (x4 + 1)))), .inr (80, 0)] M)
  else none) = some res) : rL_law L xs (n + 100) 272 [.inr (29, 0), .inr (9, 0), .inr (10, 0), .inr (80, 0), .inl (.int x4), x5, x6] [] M = some res := uL_law ((gL_law_272 L xs fL_define fX10_define fL_curve fX10_curve fL_seal fX10_seal fL_rack fX10_rack fL_removeRack fX10_removeRack fL_reagent fX10_reagent fL_forbid fX10_forbid fL_order fX10_order fL_clock fX10_clock fL_light fX10_light fL_spoil fX10_spoil fX9_step fX10_step fL_state fX10_state fL_cuvette fX10_cuvette fL_volume fX10_volume fL_trend fX10_trend fL_rules fX10_rules fL_host fX10_host fL_took fX10_took (rL_law L xs n) x4 x5 x6 M).trans h)
set_option maxRecDepth 20000 in
theorem gL_law_335 (L : Nat) (xs : Nat → Int32) (F0 F1 F2 F3 F4 F5 F6 F7 F8 F9 F10 F11 F12 F13 F14 F15 F16 F17 F18 F19 F20 F21 F22 F23 F24 F25 F26 F27 F28 F29 F30 F31 F32 F33 F34 F35 F36 F37 : am_F) (k : Nat → List am_V → List am_V → am_M → am_R) (x4 : Int32) (x5 : am_V) (x6 : am_V) (M : am_M) : gL_law L xs F0 F1 F2 F3 F4 F5 F6 F7 F8 F9 F10 F11 F12 F13 F14 F15 F16 F17 F18 F19 F20 F21 F22 F23 F24 F25 F26 F27 F28 F29 F30 F31 F32 F33 F34 F35 F36 F37 k 335 [.inr (29, 0), .inr (9, 0), .inr (10, 0), .inr (80, 0), .inl (.int x4), x5, x6] [] M =
  if am_in (x4 + 1) L then
   if am_in (x4 + 2) L then
    if am_in (x4 + 3) L then
     if am_in (x4 + 4) L then
      am_ret [] 360 [] (k 363 [.inr (29, 0), .inr (9, 0), .inr (10, 0), .inr (80, 0), .inl (.int x4), x5, x6]) (F6 [.inr (9, 0), .inl (.int (xs (Int32.toNatClampNeg (x4 + 1)))), .inl (.int (xs (Int32.toNatClampNeg (x4 + 2)))), .inl (.int (xs (Int32.toNatClampNeg (x4 + 3)))), .inl (.int (xs (Int32.toNatClampNeg (x4 + 4))))] M)
     else none
    else none
   else none
  else none := (rfl)
theorem eL_law_335 {L : Nat} {xs : Nat → Int32} {n : Nat} {x4 : Int32} {x5 : am_V} {x6 : am_V} {M : am_M} {res : am_O × am_M} (h : (if am_in (x4 + 1) L then
   if am_in (x4 + 2) L then
    if am_in (x4 + 3) L then
     if am_in (x4 + 4) L then
      am_ret [] 360 [] (rL_law L xs n 363 [.inr (29, 0), .inr (9, 0), .inr (10, 0), .inr (80, 0), .inl (.int x4), x5, x6]) (fL_rack [.inr (9, 0), .inl (.int (xs (Int32.toNatClampNeg (x4 + 1)))), .inl (.int (xs (Int32.toNatClampNeg (x4 + 2)))), .inl (.int (xs (Int32.toNatClampNeg (x4 + 3)))), .inl (.int (xs (Int32.toNatClampNeg (x4 + 4))))] M)
     else none
    else none
   else none
  else none) = some res) : rL_law L xs (n + 100) 335 [.inr (29, 0), .inr (9, 0), .inr (10, 0), .inr (80, 0), .inl (.int x4), x5, x6] [] M = some res := uL_law ((gL_law_335 L xs fL_define fX10_define fL_curve fX10_curve fL_seal fX10_seal fL_rack fX10_rack fL_removeRack fX10_removeRack fL_reagent fX10_reagent fL_forbid fX10_forbid fL_order fX10_order fL_clock fX10_clock fL_light fX10_light fL_spoil fX10_spoil fX9_step fX10_step fL_state fX10_state fL_cuvette fX10_cuvette fL_volume fX10_volume fL_trend fX10_trend fL_rules fX10_rules fL_host fX10_host fL_took fX10_took (rL_law L xs n) x4 x5 x6 M).trans h)
set_option maxRecDepth 20000 in
theorem gL_law_407 (L : Nat) (xs : Nat → Int32) (F0 F1 F2 F3 F4 F5 F6 F7 F8 F9 F10 F11 F12 F13 F14 F15 F16 F17 F18 F19 F20 F21 F22 F23 F24 F25 F26 F27 F28 F29 F30 F31 F32 F33 F34 F35 F36 F37 : am_F) (k : Nat → List am_V → List am_V → am_M → am_R) (x4 : Int32) (x5 : am_V) (x6 : am_V) (M : am_M) : gL_law L xs F0 F1 F2 F3 F4 F5 F6 F7 F8 F9 F10 F11 F12 F13 F14 F15 F16 F17 F18 F19 F20 F21 F22 F23 F24 F25 F26 F27 F28 F29 F30 F31 F32 F33 F34 F35 F36 F37 k 407 [.inr (29, 0), .inr (9, 0), .inr (10, 0), .inr (80, 0), .inl (.int x4), x5, x6] [] M =
  if am_in (x4 + 1) L then
   am_ret [] 415 [] (k 418 [.inr (29, 0), .inr (9, 0), .inr (10, 0), .inr (80, 0), .inl (.int x4), x5, x6]) (F8 [.inr (9, 0), .inl (.int (xs (Int32.toNatClampNeg (x4 + 1)))), .inr (80, 0)] M)
  else none := (rfl)
theorem eL_law_407 {L : Nat} {xs : Nat → Int32} {n : Nat} {x4 : Int32} {x5 : am_V} {x6 : am_V} {M : am_M} {res : am_O × am_M} (h : (if am_in (x4 + 1) L then
   am_ret [] 415 [] (rL_law L xs n 418 [.inr (29, 0), .inr (9, 0), .inr (10, 0), .inr (80, 0), .inl (.int x4), x5, x6]) (fL_removeRack [.inr (9, 0), .inl (.int (xs (Int32.toNatClampNeg (x4 + 1)))), .inr (80, 0)] M)
  else none) = some res) : rL_law L xs (n + 100) 407 [.inr (29, 0), .inr (9, 0), .inr (10, 0), .inr (80, 0), .inl (.int x4), x5, x6] [] M = some res := uL_law ((gL_law_407 L xs fL_define fX10_define fL_curve fX10_curve fL_seal fX10_seal fL_rack fX10_rack fL_removeRack fX10_removeRack fL_reagent fX10_reagent fL_forbid fX10_forbid fL_order fX10_order fL_clock fX10_clock fL_light fX10_light fL_spoil fX10_spoil fX9_step fX10_step fL_state fX10_state fL_cuvette fX10_cuvette fL_volume fX10_volume fL_trend fX10_trend fL_rules fX10_rules fL_host fX10_host fL_took fX10_took (rL_law L xs n) x4 x5 x6 M).trans h)
set_option maxRecDepth 20000 in
theorem gL_law_463 (L : Nat) (xs : Nat → Int32) (F0 F1 F2 F3 F4 F5 F6 F7 F8 F9 F10 F11 F12 F13 F14 F15 F16 F17 F18 F19 F20 F21 F22 F23 F24 F25 F26 F27 F28 F29 F30 F31 F32 F33 F34 F35 F36 F37 : am_F) (k : Nat → List am_V → List am_V → am_M → am_R) (x4 : Int32) (x5 : am_V) (x6 : am_V) (M : am_M) : gL_law L xs F0 F1 F2 F3 F4 F5 F6 F7 F8 F9 F10 F11 F12 F13 F14 F15 F16 F17 F18 F19 F20 F21 F22 F23 F24 F25 F26 F27 F28 F29 F30 F31 F32 F33 F34 F35 F36 F37 k 463 [.inr (29, 0), .inr (9, 0), .inr (10, 0), .inr (80, 0), .inl (.int x4), x5, x6] [] M =
  if am_in (x4 + 1) L then
   if am_in (x4 + 2) L then
    if am_in (x4 + 3) L then
     if am_in (x4 + 4) L then
      am_ret [] 488 [] (k 491 [.inr (29, 0), .inr (9, 0), .inr (10, 0), .inr (80, 0), .inl (.int x4), x5, x6]) (F10 [.inr (9, 0), .inl (.int (xs (Int32.toNatClampNeg (x4 + 1)))), .inl (.int (xs (Int32.toNatClampNeg (x4 + 2)))), .inl (.int (xs (Int32.toNatClampNeg (x4 + 3)))), .inl (.int (xs (Int32.toNatClampNeg (x4 + 4))))] M)
     else none
    else none
   else none
  else none := (rfl)
theorem eL_law_463 {L : Nat} {xs : Nat → Int32} {n : Nat} {x4 : Int32} {x5 : am_V} {x6 : am_V} {M : am_M} {res : am_O × am_M} (h : (if am_in (x4 + 1) L then
   if am_in (x4 + 2) L then
    if am_in (x4 + 3) L then
     if am_in (x4 + 4) L then
      am_ret [] 488 [] (rL_law L xs n 491 [.inr (29, 0), .inr (9, 0), .inr (10, 0), .inr (80, 0), .inl (.int x4), x5, x6]) (fL_reagent [.inr (9, 0), .inl (.int (xs (Int32.toNatClampNeg (x4 + 1)))), .inl (.int (xs (Int32.toNatClampNeg (x4 + 2)))), .inl (.int (xs (Int32.toNatClampNeg (x4 + 3)))), .inl (.int (xs (Int32.toNatClampNeg (x4 + 4))))] M)
     else none
    else none
   else none
  else none) = some res) : rL_law L xs (n + 100) 463 [.inr (29, 0), .inr (9, 0), .inr (10, 0), .inr (80, 0), .inl (.int x4), x5, x6] [] M = some res := uL_law ((gL_law_463 L xs fL_define fX10_define fL_curve fX10_curve fL_seal fX10_seal fL_rack fX10_rack fL_removeRack fX10_removeRack fL_reagent fX10_reagent fL_forbid fX10_forbid fL_order fX10_order fL_clock fX10_clock fL_light fX10_light fL_spoil fX10_spoil fX9_step fX10_step fL_state fX10_state fL_cuvette fX10_cuvette fL_volume fX10_volume fL_trend fX10_trend fL_rules fX10_rules fL_host fX10_host fL_took fX10_took (rL_law L xs n) x4 x5 x6 M).trans h)
set_option maxRecDepth 20000 in
theorem gL_law_535 (L : Nat) (xs : Nat → Int32) (F0 F1 F2 F3 F4 F5 F6 F7 F8 F9 F10 F11 F12 F13 F14 F15 F16 F17 F18 F19 F20 F21 F22 F23 F24 F25 F26 F27 F28 F29 F30 F31 F32 F33 F34 F35 F36 F37 : am_F) (k : Nat → List am_V → List am_V → am_M → am_R) (x4 : Int32) (x5 : am_V) (x6 : am_V) (M : am_M) : gL_law L xs F0 F1 F2 F3 F4 F5 F6 F7 F8 F9 F10 F11 F12 F13 F14 F15 F16 F17 F18 F19 F20 F21 F22 F23 F24 F25 F26 F27 F28 F29 F30 F31 F32 F33 F34 F35 F36 F37 k 535 [.inr (29, 0), .inr (9, 0), .inr (10, 0), .inr (80, 0), .inl (.int x4), x5, x6] [] M =
  if am_in (x4 + 1) L then
   if am_in (x4 + 2) L then
    am_ret [] 549 [] (k 552 [.inr (29, 0), .inr (9, 0), .inr (10, 0), .inr (80, 0), .inl (.int x4), x5, x6]) (F12 [.inr (9, 0), .inl (.int (xs (Int32.toNatClampNeg (x4 + 1)))), .inl (.int (xs (Int32.toNatClampNeg (x4 + 2)))), .inr (80, 0)] M)
   else none
  else none := (rfl)
theorem eL_law_535 {L : Nat} {xs : Nat → Int32} {n : Nat} {x4 : Int32} {x5 : am_V} {x6 : am_V} {M : am_M} {res : am_O × am_M} (h : (if am_in (x4 + 1) L then
   if am_in (x4 + 2) L then
    am_ret [] 549 [] (rL_law L xs n 552 [.inr (29, 0), .inr (9, 0), .inr (10, 0), .inr (80, 0), .inl (.int x4), x5, x6]) (fL_forbid [.inr (9, 0), .inl (.int (xs (Int32.toNatClampNeg (x4 + 1)))), .inl (.int (xs (Int32.toNatClampNeg (x4 + 2)))), .inr (80, 0)] M)
   else none
  else none) = some res) : rL_law L xs (n + 100) 535 [.inr (29, 0), .inr (9, 0), .inr (10, 0), .inr (80, 0), .inl (.int x4), x5, x6] [] M = some res := uL_law ((gL_law_535 L xs fL_define fX10_define fL_curve fX10_curve fL_seal fX10_seal fL_rack fX10_rack fL_removeRack fX10_removeRack fL_reagent fX10_reagent fL_forbid fX10_forbid fL_order fX10_order fL_clock fX10_clock fL_light fX10_light fL_spoil fX10_spoil fX9_step fX10_step fL_state fX10_state fL_cuvette fX10_cuvette fL_volume fX10_volume fL_trend fX10_trend fL_rules fX10_rules fL_host fX10_host fL_took fX10_took (rL_law L xs n) x4 x5 x6 M).trans h)
set_option maxRecDepth 20000 in
theorem gL_law_610 (L : Nat) (xs : Nat → Int32) (F0 F1 F2 F3 F4 F5 F6 F7 F8 F9 F10 F11 F12 F13 F14 F15 F16 F17 F18 F19 F20 F21 F22 F23 F24 F25 F26 F27 F28 F29 F30 F31 F32 F33 F34 F35 F36 F37 : am_F) (k : Nat → List am_V → List am_V → am_M → am_R) (x4 : Int32) (x5 : am_V) (x6 : am_V) (M : am_M) : gL_law L xs F0 F1 F2 F3 F4 F5 F6 F7 F8 F9 F10 F11 F12 F13 F14 F15 F16 F17 F18 F19 F20 F21 F22 F23 F24 F25 F26 F27 F28 F29 F30 F31 F32 F33 F34 F35 F36 F37 k 610 [.inr (29, 0), .inr (9, 0), .inr (10, 0), .inr (80, 0), .inl (.int x4), x5, x6] [] M =
  if am_in (x4 + 1) L then
   if am_in (x4 + 2) L then
    if am_in (x4 + 3) L then
     if (xs (Int32.toNatClampNeg (x4 + 3))) = 0 then
      am_ret [] 638 [] (k 641 [.inr (29, 0), .inr (9, 0), .inr (10, 0), .inr (80, 0), .inl (.int x4), x5, x6]) (F14 [.inr (9, 0), .inl (.int (xs (Int32.toNatClampNeg (x4 + 1)))), .inl (.int (xs (Int32.toNatClampNeg (x4 + 2)))), .inl (.int 0), .inr (80, 0)] M)
     else am_ret [] 638 [] (k 641 [.inr (29, 0), .inr (9, 0), .inr (10, 0), .inr (80, 0), .inl (.int x4), x5, x6]) (F14 [.inr (9, 0), .inl (.int (xs (Int32.toNatClampNeg (x4 + 1)))), .inl (.int (xs (Int32.toNatClampNeg (x4 + 2)))), .inl (.int 1), .inr (80, 0)] M)
    else none
   else none
  else none := (rfl)
theorem eL_law_610 {L : Nat} {xs : Nat → Int32} {n : Nat} {x4 : Int32} {x5 : am_V} {x6 : am_V} {M : am_M} {res : am_O × am_M} (h : (if am_in (x4 + 1) L then
   if am_in (x4 + 2) L then
    if am_in (x4 + 3) L then
     if (xs (Int32.toNatClampNeg (x4 + 3))) = 0 then
      am_ret [] 638 [] (rL_law L xs n 641 [.inr (29, 0), .inr (9, 0), .inr (10, 0), .inr (80, 0), .inl (.int x4), x5, x6]) (fL_order [.inr (9, 0), .inl (.int (xs (Int32.toNatClampNeg (x4 + 1)))), .inl (.int (xs (Int32.toNatClampNeg (x4 + 2)))), .inl (.int 0), .inr (80, 0)] M)
     else am_ret [] 638 [] (rL_law L xs n 641 [.inr (29, 0), .inr (9, 0), .inr (10, 0), .inr (80, 0), .inl (.int x4), x5, x6]) (fL_order [.inr (9, 0), .inl (.int (xs (Int32.toNatClampNeg (x4 + 1)))), .inl (.int (xs (Int32.toNatClampNeg (x4 + 2)))), .inl (.int 1), .inr (80, 0)] M)
    else none
   else none
  else none) = some res) : rL_law L xs (n + 100) 610 [.inr (29, 0), .inr (9, 0), .inr (10, 0), .inr (80, 0), .inl (.int x4), x5, x6] [] M = some res := uL_law ((gL_law_610 L xs fL_define fX10_define fL_curve fX10_curve fL_seal fX10_seal fL_rack fX10_rack fL_removeRack fX10_removeRack fL_reagent fX10_reagent fL_forbid fX10_forbid fL_order fX10_order fL_clock fX10_clock fL_light fX10_light fL_spoil fX10_spoil fX9_step fX10_step fL_state fX10_state fL_cuvette fX10_cuvette fL_volume fX10_volume fL_trend fX10_trend fL_rules fX10_rules fL_host fX10_host fL_took fX10_took (rL_law L xs n) x4 x5 x6 M).trans h)
set_option maxRecDepth 20000 in
theorem gL_law_706 (L : Nat) (xs : Nat → Int32) (F0 F1 F2 F3 F4 F5 F6 F7 F8 F9 F10 F11 F12 F13 F14 F15 F16 F17 F18 F19 F20 F21 F22 F23 F24 F25 F26 F27 F28 F29 F30 F31 F32 F33 F34 F35 F36 F37 : am_F) (k : Nat → List am_V → List am_V → am_M → am_R) (x4 : Int32) (x5 : am_V) (x6 : am_V) (M : am_M) : gL_law L xs F0 F1 F2 F3 F4 F5 F6 F7 F8 F9 F10 F11 F12 F13 F14 F15 F16 F17 F18 F19 F20 F21 F22 F23 F24 F25 F26 F27 F28 F29 F30 F31 F32 F33 F34 F35 F36 F37 k 706 [.inr (29, 0), .inr (9, 0), .inr (10, 0), .inr (80, 0), .inl (.int x4), x5, x6] [] M =
  if am_in (x4 + 1) L then
   am_ret [] 713 [] (k 716 [.inr (29, 0), .inr (9, 0), .inr (10, 0), .inr (80, 0), .inl (.int x4), x5, x6]) (F16 [.inr (9, 0), .inl (.int (xs (Int32.toNatClampNeg (x4 + 1))))] M)
  else none := (rfl)
theorem eL_law_706 {L : Nat} {xs : Nat → Int32} {n : Nat} {x4 : Int32} {x5 : am_V} {x6 : am_V} {M : am_M} {res : am_O × am_M} (h : (if am_in (x4 + 1) L then
   am_ret [] 713 [] (rL_law L xs n 716 [.inr (29, 0), .inr (9, 0), .inr (10, 0), .inr (80, 0), .inl (.int x4), x5, x6]) (fL_clock [.inr (9, 0), .inl (.int (xs (Int32.toNatClampNeg (x4 + 1))))] M)
  else none) = some res) : rL_law L xs (n + 100) 706 [.inr (29, 0), .inr (9, 0), .inr (10, 0), .inr (80, 0), .inl (.int x4), x5, x6] [] M = some res := uL_law ((gL_law_706 L xs fL_define fX10_define fL_curve fX10_curve fL_seal fX10_seal fL_rack fX10_rack fL_removeRack fX10_removeRack fL_reagent fX10_reagent fL_forbid fX10_forbid fL_order fX10_order fL_clock fX10_clock fL_light fX10_light fL_spoil fX10_spoil fX9_step fX10_step fL_state fX10_state fL_cuvette fX10_cuvette fL_volume fX10_volume fL_trend fX10_trend fL_rules fX10_rules fL_host fX10_host fL_took fX10_took (rL_law L xs n) x4 x5 x6 M).trans h)
set_option maxRecDepth 20000 in
theorem gL_law_742 (L : Nat) (xs : Nat → Int32) (F0 F1 F2 F3 F4 F5 F6 F7 F8 F9 F10 F11 F12 F13 F14 F15 F16 F17 F18 F19 F20 F21 F22 F23 F24 F25 F26 F27 F28 F29 F30 F31 F32 F33 F34 F35 F36 F37 : am_F) (k : Nat → List am_V → List am_V → am_M → am_R) (x4 : Int32) (x5 : am_V) (x6 : am_V) (M : am_M) : gL_law L xs F0 F1 F2 F3 F4 F5 F6 F7 F8 F9 F10 F11 F12 F13 F14 F15 F16 F17 F18 F19 F20 F21 F22 F23 F24 F25 F26 F27 F28 F29 F30 F31 F32 F33 F34 F35 F36 F37 k 742 [.inr (29, 0), .inr (9, 0), .inr (10, 0), .inr (80, 0), .inl (.int x4), x5, x6] [] M =
  if am_in (x4 + 1) L then
   am_ret [] 749 [] (k 752 [.inr (29, 0), .inr (9, 0), .inr (10, 0), .inr (80, 0), .inl (.int x4), x5, x6]) (F18 [.inr (9, 0), .inl (.int (xs (Int32.toNatClampNeg (x4 + 1))))] M)
  else none := (rfl)
theorem eL_law_742 {L : Nat} {xs : Nat → Int32} {n : Nat} {x4 : Int32} {x5 : am_V} {x6 : am_V} {M : am_M} {res : am_O × am_M} (h : (if am_in (x4 + 1) L then
   am_ret [] 749 [] (rL_law L xs n 752 [.inr (29, 0), .inr (9, 0), .inr (10, 0), .inr (80, 0), .inl (.int x4), x5, x6]) (fL_light [.inr (9, 0), .inl (.int (xs (Int32.toNatClampNeg (x4 + 1))))] M)
  else none) = some res) : rL_law L xs (n + 100) 742 [.inr (29, 0), .inr (9, 0), .inr (10, 0), .inr (80, 0), .inl (.int x4), x5, x6] [] M = some res := uL_law ((gL_law_742 L xs fL_define fX10_define fL_curve fX10_curve fL_seal fX10_seal fL_rack fX10_rack fL_removeRack fX10_removeRack fL_reagent fX10_reagent fL_forbid fX10_forbid fL_order fX10_order fL_clock fX10_clock fL_light fX10_light fL_spoil fX10_spoil fX9_step fX10_step fL_state fX10_state fL_cuvette fX10_cuvette fL_volume fX10_volume fL_trend fX10_trend fL_rules fX10_rules fL_host fX10_host fL_took fX10_took (rL_law L xs n) x4 x5 x6 M).trans h)
set_option maxRecDepth 20000 in
theorem gL_law_778 (L : Nat) (xs : Nat → Int32) (F0 F1 F2 F3 F4 F5 F6 F7 F8 F9 F10 F11 F12 F13 F14 F15 F16 F17 F18 F19 F20 F21 F22 F23 F24 F25 F26 F27 F28 F29 F30 F31 F32 F33 F34 F35 F36 F37 : am_F) (k : Nat → List am_V → List am_V → am_M → am_R) (x4 : Int32) (x5 : am_V) (x6 : am_V) (M : am_M) : gL_law L xs F0 F1 F2 F3 F4 F5 F6 F7 F8 F9 F10 F11 F12 F13 F14 F15 F16 F17 F18 F19 F20 F21 F22 F23 F24 F25 F26 F27 F28 F29 F30 F31 F32 F33 F34 F35 F36 F37 k 778 [.inr (29, 0), .inr (9, 0), .inr (10, 0), .inr (80, 0), .inl (.int x4), x5, x6] [] M =
  if am_in (x4 + 1) L then
   am_ret [] 785 [] (k 788 [.inr (29, 0), .inr (9, 0), .inr (10, 0), .inr (80, 0), .inl (.int x4), x5, x6]) (F20 [.inr (9, 0), .inl (.int (xs (Int32.toNatClampNeg (x4 + 1))))] M)
  else none := (rfl)
theorem eL_law_778 {L : Nat} {xs : Nat → Int32} {n : Nat} {x4 : Int32} {x5 : am_V} {x6 : am_V} {M : am_M} {res : am_O × am_M} (h : (if am_in (x4 + 1) L then
   am_ret [] 785 [] (rL_law L xs n 788 [.inr (29, 0), .inr (9, 0), .inr (10, 0), .inr (80, 0), .inl (.int x4), x5, x6]) (fL_spoil [.inr (9, 0), .inl (.int (xs (Int32.toNatClampNeg (x4 + 1))))] M)
  else none) = some res) : rL_law L xs (n + 100) 778 [.inr (29, 0), .inr (9, 0), .inr (10, 0), .inr (80, 0), .inl (.int x4), x5, x6] [] M = some res := uL_law ((gL_law_778 L xs fL_define fX10_define fL_curve fX10_curve fL_seal fX10_seal fL_rack fX10_rack fL_removeRack fX10_removeRack fL_reagent fX10_reagent fL_forbid fX10_forbid fL_order fX10_order fL_clock fX10_clock fL_light fX10_light fL_spoil fX10_spoil fX9_step fX10_step fL_state fX10_state fL_cuvette fX10_cuvette fL_volume fX10_volume fL_trend fX10_trend fL_rules fX10_rules fL_host fX10_host fL_took fX10_took (rL_law L xs n) x4 x5 x6 M).trans h)
set_option maxRecDepth 20000 in
theorem gL_law_814 (L : Nat) (xs : Nat → Int32) (F0 F1 F2 F3 F4 F5 F6 F7 F8 F9 F10 F11 F12 F13 F14 F15 F16 F17 F18 F19 F20 F21 F22 F23 F24 F25 F26 F27 F28 F29 F30 F31 F32 F33 F34 F35 F36 F37 : am_F) (k : Nat → List am_V → List am_V → am_M → am_R) (x4 : Int32) (x5 : am_V) (x6 : am_V) (M : am_M) : gL_law L xs F0 F1 F2 F3 F4 F5 F6 F7 F8 F9 F10 F11 F12 F13 F14 F15 F16 F17 F18 F19 F20 F21 F22 F23 F24 F25 F26 F27 F28 F29 F30 F31 F32 F33 F34 F35 F36 F37 k 814 [.inr (29, 0), .inr (9, 0), .inr (10, 0), .inr (80, 0), .inl (.int x4), x5, x6] [] M =
  am_ret [] 815 [] (k 818 [.inr (29, 0), .inr (9, 0), .inr (10, 0), .inr (80, 0), .inl (.int x4), x5, x6]) (F22 [.inr (9, 0)] M) := (rfl)
theorem eL_law_814 {L : Nat} {xs : Nat → Int32} {n : Nat} {x4 : Int32} {x5 : am_V} {x6 : am_V} {M : am_M} {res : am_O × am_M} (h : (am_ret [] 815 [] (rL_law L xs n 818 [.inr (29, 0), .inr (9, 0), .inr (10, 0), .inr (80, 0), .inl (.int x4), x5, x6]) (fX9_step [.inr (9, 0)] M)) = some res) : rL_law L xs (n + 100) 814 [.inr (29, 0), .inr (9, 0), .inr (10, 0), .inr (80, 0), .inl (.int x4), x5, x6] [] M = some res := uL_law ((gL_law_814 L xs fL_define fX10_define fL_curve fX10_curve fL_seal fX10_seal fL_rack fX10_rack fL_removeRack fX10_removeRack fL_reagent fX10_reagent fL_forbid fX10_forbid fL_order fX10_order fL_clock fX10_clock fL_light fX10_light fL_spoil fX10_spoil fX9_step fX10_step fL_state fX10_state fL_cuvette fX10_cuvette fL_volume fX10_volume fL_trend fX10_trend fL_rules fX10_rules fL_host fX10_host fL_took fX10_took (rL_law L xs n) x4 x5 x6 M).trans h)
set_option maxRecDepth 20000 in
theorem gL_law_827 (L : Nat) (xs : Nat → Int32) (F0 F1 F2 F3 F4 F5 F6 F7 F8 F9 F10 F11 F12 F13 F14 F15 F16 F17 F18 F19 F20 F21 F22 F23 F24 F25 F26 F27 F28 F29 F30 F31 F32 F33 F34 F35 F36 F37 : am_F) (k : Nat → List am_V → List am_V → am_M → am_R) (x4 : Int32) (x5 : am_V) (x6 : am_V) (M : am_M) : gL_law L xs F0 F1 F2 F3 F4 F5 F6 F7 F8 F9 F10 F11 F12 F13 F14 F15 F16 F17 F18 F19 F20 F21 F22 F23 F24 F25 F26 F27 F28 F29 F30 F31 F32 F33 F34 F35 F36 F37 k 827 [.inr (29, 0), .inr (9, 0), .inr (10, 0), .inr (80, 0), .inl (.int x4), x5, x6] [] M =
  if (M 9 0 12) = (M 10 0 43) then
   k 1280 [.inr (29, 0), .inr (9, 0), .inr (10, 0), .inr (80, 0), .inl (.int x4), x5, x6] [] (am_put M 10 0 45 0)
  else some (.inl (some (.inl (.int 0))), (am_put M 10 0 45 0)) := (rfl)
theorem eL_law_827 {L : Nat} {xs : Nat → Int32} {n : Nat} {x4 : Int32} {x5 : am_V} {x6 : am_V} {M : am_M} {res : am_O × am_M} (h : (if (M 9 0 12) = (M 10 0 43) then
   rL_law L xs n 1280 [.inr (29, 0), .inr (9, 0), .inr (10, 0), .inr (80, 0), .inl (.int x4), x5, x6] [] (am_put M 10 0 45 0)
  else some (.inl (some (.inl (.int 0))), (am_put M 10 0 45 0))) = some res) : rL_law L xs (n + 100) 827 [.inr (29, 0), .inr (9, 0), .inr (10, 0), .inr (80, 0), .inl (.int x4), x5, x6] [] M = some res := uL_law ((gL_law_827 L xs fL_define fX10_define fL_curve fX10_curve fL_seal fX10_seal fL_rack fX10_rack fL_removeRack fX10_removeRack fL_reagent fX10_reagent fL_forbid fX10_forbid fL_order fX10_order fL_clock fX10_clock fL_light fX10_light fL_spoil fX10_spoil fX9_step fX10_step fL_state fX10_state fL_cuvette fX10_cuvette fL_volume fX10_volume fL_trend fX10_trend fL_rules fX10_rules fL_host fX10_host fL_took fX10_took (rL_law L xs n) x4 x5 x6 M).trans h)
set_option maxRecDepth 20000 in
theorem gL_law_840 (L : Nat) (xs : Nat → Int32) (F0 F1 F2 F3 F4 F5 F6 F7 F8 F9 F10 F11 F12 F13 F14 F15 F16 F17 F18 F19 F20 F21 F22 F23 F24 F25 F26 F27 F28 F29 F30 F31 F32 F33 F34 F35 F36 F37 : am_F) (k : Nat → List am_V → List am_V → am_M → am_R) (x4 : Int32) (x5 : am_V) (x6 : am_V) (M : am_M) : gL_law L xs F0 F1 F2 F3 F4 F5 F6 F7 F8 F9 F10 F11 F12 F13 F14 F15 F16 F17 F18 F19 F20 F21 F22 F23 F24 F25 F26 F27 F28 F29 F30 F31 F32 F33 F34 F35 F36 F37 k 840 [.inr (29, 0), .inr (9, 0), .inr (10, 0), .inr (80, 0), .inl (.int x4), x5, x6] [] M =
  if am_in (x4 + 1) L then
   if am_in (x4 + 2) L then
    am_ret [] 854 [] (k 857 [.inr (29, 0), .inr (9, 0), .inr (10, 0), .inr (80, 0), .inl (.int x4), x5, x6]) (F24 [.inr (9, 0), .inl (.int (xs (Int32.toNatClampNeg (x4 + 1)))), .inl (.int (xs (Int32.toNatClampNeg (x4 + 2)))), .inr (80, 0)] M)
   else none
  else none := (rfl)
theorem eL_law_840 {L : Nat} {xs : Nat → Int32} {n : Nat} {x4 : Int32} {x5 : am_V} {x6 : am_V} {M : am_M} {res : am_O × am_M} (h : (if am_in (x4 + 1) L then
   if am_in (x4 + 2) L then
    am_ret [] 854 [] (rL_law L xs n 857 [.inr (29, 0), .inr (9, 0), .inr (10, 0), .inr (80, 0), .inl (.int x4), x5, x6]) (fL_state [.inr (9, 0), .inl (.int (xs (Int32.toNatClampNeg (x4 + 1)))), .inl (.int (xs (Int32.toNatClampNeg (x4 + 2)))), .inr (80, 0)] M)
   else none
  else none) = some res) : rL_law L xs (n + 100) 840 [.inr (29, 0), .inr (9, 0), .inr (10, 0), .inr (80, 0), .inl (.int x4), x5, x6] [] M = some res := uL_law ((gL_law_840 L xs fL_define fX10_define fL_curve fX10_curve fL_seal fX10_seal fL_rack fX10_rack fL_removeRack fX10_removeRack fL_reagent fX10_reagent fL_forbid fX10_forbid fL_order fX10_order fL_clock fX10_clock fL_light fX10_light fL_spoil fX10_spoil fX9_step fX10_step fL_state fX10_state fL_cuvette fX10_cuvette fL_volume fX10_volume fL_trend fX10_trend fL_rules fX10_rules fL_host fX10_host fL_took fX10_took (rL_law L xs n) x4 x5 x6 M).trans h)
set_option maxRecDepth 20000 in
theorem gL_law_908 (L : Nat) (xs : Nat → Int32) (F0 F1 F2 F3 F4 F5 F6 F7 F8 F9 F10 F11 F12 F13 F14 F15 F16 F17 F18 F19 F20 F21 F22 F23 F24 F25 F26 F27 F28 F29 F30 F31 F32 F33 F34 F35 F36 F37 : am_F) (k : Nat → List am_V → List am_V → am_M → am_R) (x4 : Int32) (x5 : am_V) (x6 : am_V) (M : am_M) : gL_law L xs F0 F1 F2 F3 F4 F5 F6 F7 F8 F9 F10 F11 F12 F13 F14 F15 F16 F17 F18 F19 F20 F21 F22 F23 F24 F25 F26 F27 F28 F29 F30 F31 F32 F33 F34 F35 F36 F37 k 908 [.inr (29, 0), .inr (9, 0), .inr (10, 0), .inr (80, 0), .inl (.int x4), x5, x6] [] M =
  if am_in (x4 + 1) L then
   if am_in (x4 + 2) L then
    am_ret [] 922 [] (k 925 [.inr (29, 0), .inr (9, 0), .inr (10, 0), .inr (80, 0), .inl (.int x4), x5, x6]) (F26 [.inr (9, 0), .inl (.int (xs (Int32.toNatClampNeg (x4 + 1)))), .inl (.int (xs (Int32.toNatClampNeg (x4 + 2)))), .inr (80, 0)] M)
   else none
  else none := (rfl)
theorem eL_law_908 {L : Nat} {xs : Nat → Int32} {n : Nat} {x4 : Int32} {x5 : am_V} {x6 : am_V} {M : am_M} {res : am_O × am_M} (h : (if am_in (x4 + 1) L then
   if am_in (x4 + 2) L then
    am_ret [] 922 [] (rL_law L xs n 925 [.inr (29, 0), .inr (9, 0), .inr (10, 0), .inr (80, 0), .inl (.int x4), x5, x6]) (fL_cuvette [.inr (9, 0), .inl (.int (xs (Int32.toNatClampNeg (x4 + 1)))), .inl (.int (xs (Int32.toNatClampNeg (x4 + 2)))), .inr (80, 0)] M)
   else none
  else none) = some res) : rL_law L xs (n + 100) 908 [.inr (29, 0), .inr (9, 0), .inr (10, 0), .inr (80, 0), .inl (.int x4), x5, x6] [] M = some res := uL_law ((gL_law_908 L xs fL_define fX10_define fL_curve fX10_curve fL_seal fX10_seal fL_rack fX10_rack fL_removeRack fX10_removeRack fL_reagent fX10_reagent fL_forbid fX10_forbid fL_order fX10_order fL_clock fX10_clock fL_light fX10_light fL_spoil fX10_spoil fX9_step fX10_step fL_state fX10_state fL_cuvette fX10_cuvette fL_volume fX10_volume fL_trend fX10_trend fL_rules fX10_rules fL_host fX10_host fL_took fX10_took (rL_law L xs n) x4 x5 x6 M).trans h)
set_option maxRecDepth 20000 in
theorem gL_law_976 (L : Nat) (xs : Nat → Int32) (F0 F1 F2 F3 F4 F5 F6 F7 F8 F9 F10 F11 F12 F13 F14 F15 F16 F17 F18 F19 F20 F21 F22 F23 F24 F25 F26 F27 F28 F29 F30 F31 F32 F33 F34 F35 F36 F37 : am_F) (k : Nat → List am_V → List am_V → am_M → am_R) (x4 : Int32) (x5 : am_V) (x6 : am_V) (M : am_M) : gL_law L xs F0 F1 F2 F3 F4 F5 F6 F7 F8 F9 F10 F11 F12 F13 F14 F15 F16 F17 F18 F19 F20 F21 F22 F23 F24 F25 F26 F27 F28 F29 F30 F31 F32 F33 F34 F35 F36 F37 k 976 [.inr (29, 0), .inr (9, 0), .inr (10, 0), .inr (80, 0), .inl (.int x4), x5, x6] [] M =
  if am_in (x4 + 1) L then
   if am_in (x4 + 2) L then
    am_ret [] 990 [] (k 993 [.inr (29, 0), .inr (9, 0), .inr (10, 0), .inr (80, 0), .inl (.int x4), x5, x6]) (F28 [.inr (9, 0), .inl (.int (xs (Int32.toNatClampNeg (x4 + 1)))), .inl (.int (xs (Int32.toNatClampNeg (x4 + 2)))), .inr (80, 0)] M)
   else none
  else none := (rfl)
theorem eL_law_976 {L : Nat} {xs : Nat → Int32} {n : Nat} {x4 : Int32} {x5 : am_V} {x6 : am_V} {M : am_M} {res : am_O × am_M} (h : (if am_in (x4 + 1) L then
   if am_in (x4 + 2) L then
    am_ret [] 990 [] (rL_law L xs n 993 [.inr (29, 0), .inr (9, 0), .inr (10, 0), .inr (80, 0), .inl (.int x4), x5, x6]) (fL_volume [.inr (9, 0), .inl (.int (xs (Int32.toNatClampNeg (x4 + 1)))), .inl (.int (xs (Int32.toNatClampNeg (x4 + 2)))), .inr (80, 0)] M)
   else none
  else none) = some res) : rL_law L xs (n + 100) 976 [.inr (29, 0), .inr (9, 0), .inr (10, 0), .inr (80, 0), .inl (.int x4), x5, x6] [] M = some res := uL_law ((gL_law_976 L xs fL_define fX10_define fL_curve fX10_curve fL_seal fX10_seal fL_rack fX10_rack fL_removeRack fX10_removeRack fL_reagent fX10_reagent fL_forbid fX10_forbid fL_order fX10_order fL_clock fX10_clock fL_light fX10_light fL_spoil fX10_spoil fX9_step fX10_step fL_state fX10_state fL_cuvette fX10_cuvette fL_volume fX10_volume fL_trend fX10_trend fL_rules fX10_rules fL_host fX10_host fL_took fX10_took (rL_law L xs n) x4 x5 x6 M).trans h)
set_option maxRecDepth 20000 in
theorem gL_law_1044 (L : Nat) (xs : Nat → Int32) (F0 F1 F2 F3 F4 F5 F6 F7 F8 F9 F10 F11 F12 F13 F14 F15 F16 F17 F18 F19 F20 F21 F22 F23 F24 F25 F26 F27 F28 F29 F30 F31 F32 F33 F34 F35 F36 F37 : am_F) (k : Nat → List am_V → List am_V → am_M → am_R) (x4 : Int32) (x5 : am_V) (x6 : am_V) (M : am_M) : gL_law L xs F0 F1 F2 F3 F4 F5 F6 F7 F8 F9 F10 F11 F12 F13 F14 F15 F16 F17 F18 F19 F20 F21 F22 F23 F24 F25 F26 F27 F28 F29 F30 F31 F32 F33 F34 F35 F36 F37 k 1044 [.inr (29, 0), .inr (9, 0), .inr (10, 0), .inr (80, 0), .inl (.int x4), x5, x6] [] M =
  if am_in (x4 + 1) L then
   if am_in (x4 + 2) L then
    am_ret [] 1058 [] (k 1061 [.inr (29, 0), .inr (9, 0), .inr (10, 0), .inr (80, 0), .inl (.int x4), x5, x6]) (F30 [.inr (9, 0), .inl (.int (xs (Int32.toNatClampNeg (x4 + 1)))), .inl (.int (xs (Int32.toNatClampNeg (x4 + 2)))), .inr (80, 0)] M)
   else none
  else none := (rfl)
theorem eL_law_1044 {L : Nat} {xs : Nat → Int32} {n : Nat} {x4 : Int32} {x5 : am_V} {x6 : am_V} {M : am_M} {res : am_O × am_M} (h : (if am_in (x4 + 1) L then
   if am_in (x4 + 2) L then
    am_ret [] 1058 [] (rL_law L xs n 1061 [.inr (29, 0), .inr (9, 0), .inr (10, 0), .inr (80, 0), .inl (.int x4), x5, x6]) (fL_trend [.inr (9, 0), .inl (.int (xs (Int32.toNatClampNeg (x4 + 1)))), .inl (.int (xs (Int32.toNatClampNeg (x4 + 2)))), .inr (80, 0)] M)
   else none
  else none) = some res) : rL_law L xs (n + 100) 1044 [.inr (29, 0), .inr (9, 0), .inr (10, 0), .inr (80, 0), .inl (.int x4), x5, x6] [] M = some res := uL_law ((gL_law_1044 L xs fL_define fX10_define fL_curve fX10_curve fL_seal fX10_seal fL_rack fX10_rack fL_removeRack fX10_removeRack fL_reagent fX10_reagent fL_forbid fX10_forbid fL_order fX10_order fL_clock fX10_clock fL_light fX10_light fL_spoil fX10_spoil fX9_step fX10_step fL_state fX10_state fL_cuvette fX10_cuvette fL_volume fX10_volume fL_trend fX10_trend fL_rules fX10_rules fL_host fX10_host fL_took fX10_took (rL_law L xs n) x4 x5 x6 M).trans h)
set_option maxRecDepth 20000 in
theorem gL_law_1112 (L : Nat) (xs : Nat → Int32) (F0 F1 F2 F3 F4 F5 F6 F7 F8 F9 F10 F11 F12 F13 F14 F15 F16 F17 F18 F19 F20 F21 F22 F23 F24 F25 F26 F27 F28 F29 F30 F31 F32 F33 F34 F35 F36 F37 : am_F) (k : Nat → List am_V → List am_V → am_M → am_R) (x4 : Int32) (x5 : am_V) (x6 : am_V) (M : am_M) : gL_law L xs F0 F1 F2 F3 F4 F5 F6 F7 F8 F9 F10 F11 F12 F13 F14 F15 F16 F17 F18 F19 F20 F21 F22 F23 F24 F25 F26 F27 F28 F29 F30 F31 F32 F33 F34 F35 F36 F37 k 1112 [.inr (29, 0), .inr (9, 0), .inr (10, 0), .inr (80, 0), .inl (.int x4), x5, x6] [] M =
  if am_in (x4 + 1) L then
   am_ret [] 1120 [] (k 1123 [.inr (29, 0), .inr (9, 0), .inr (10, 0), .inr (80, 0), .inl (.int x4), x5, x6]) (F32 [.inr (9, 0), .inl (.int (xs (Int32.toNatClampNeg (x4 + 1)))), .inr (80, 0)] M)
  else none := (rfl)
theorem eL_law_1112 {L : Nat} {xs : Nat → Int32} {n : Nat} {x4 : Int32} {x5 : am_V} {x6 : am_V} {M : am_M} {res : am_O × am_M} (h : (if am_in (x4 + 1) L then
   am_ret [] 1120 [] (rL_law L xs n 1123 [.inr (29, 0), .inr (9, 0), .inr (10, 0), .inr (80, 0), .inl (.int x4), x5, x6]) (fL_rules [.inr (9, 0), .inl (.int (xs (Int32.toNatClampNeg (x4 + 1)))), .inr (80, 0)] M)
  else none) = some res) : rL_law L xs (n + 100) 1112 [.inr (29, 0), .inr (9, 0), .inr (10, 0), .inr (80, 0), .inl (.int x4), x5, x6] [] M = some res := uL_law ((gL_law_1112 L xs fL_define fX10_define fL_curve fX10_curve fL_seal fX10_seal fL_rack fX10_rack fL_removeRack fX10_removeRack fL_reagent fX10_reagent fL_forbid fX10_forbid fL_order fX10_order fL_clock fX10_clock fL_light fX10_light fL_spoil fX10_spoil fX9_step fX10_step fL_state fX10_state fL_cuvette fX10_cuvette fL_volume fX10_volume fL_trend fX10_trend fL_rules fX10_rules fL_host fX10_host fL_took fX10_took (rL_law L xs n) x4 x5 x6 M).trans h)
set_option maxRecDepth 20000 in
theorem gL_law_1168 (L : Nat) (xs : Nat → Int32) (F0 F1 F2 F3 F4 F5 F6 F7 F8 F9 F10 F11 F12 F13 F14 F15 F16 F17 F18 F19 F20 F21 F22 F23 F24 F25 F26 F27 F28 F29 F30 F31 F32 F33 F34 F35 F36 F37 : am_F) (k : Nat → List am_V → List am_V → am_M → am_R) (x4 : Int32) (x5 : am_V) (x6 : am_V) (M : am_M) : gL_law L xs F0 F1 F2 F3 F4 F5 F6 F7 F8 F9 F10 F11 F12 F13 F14 F15 F16 F17 F18 F19 F20 F21 F22 F23 F24 F25 F26 F27 F28 F29 F30 F31 F32 F33 F34 F35 F36 F37 k 1168 [.inr (29, 0), .inr (9, 0), .inr (10, 0), .inr (80, 0), .inl (.int x4), x5, x6] [] M =
  if am_in (x4 + 1) L then
   am_ret [] 1176 [] (k 1179 [.inr (29, 0), .inr (9, 0), .inr (10, 0), .inr (80, 0), .inl (.int x4), x5, x6]) (F34 [.inr (9, 0), .inl (.int (xs (Int32.toNatClampNeg (x4 + 1)))), .inr (80, 0)] M)
  else none := (rfl)
theorem eL_law_1168 {L : Nat} {xs : Nat → Int32} {n : Nat} {x4 : Int32} {x5 : am_V} {x6 : am_V} {M : am_M} {res : am_O × am_M} (h : (if am_in (x4 + 1) L then
   am_ret [] 1176 [] (rL_law L xs n 1179 [.inr (29, 0), .inr (9, 0), .inr (10, 0), .inr (80, 0), .inl (.int x4), x5, x6]) (fL_host [.inr (9, 0), .inl (.int (xs (Int32.toNatClampNeg (x4 + 1)))), .inr (80, 0)] M)
  else none) = some res) : rL_law L xs (n + 100) 1168 [.inr (29, 0), .inr (9, 0), .inr (10, 0), .inr (80, 0), .inl (.int x4), x5, x6] [] M = some res := uL_law ((gL_law_1168 L xs fL_define fX10_define fL_curve fX10_curve fL_seal fX10_seal fL_rack fX10_rack fL_removeRack fX10_removeRack fL_reagent fX10_reagent fL_forbid fX10_forbid fL_order fX10_order fL_clock fX10_clock fL_light fX10_light fL_spoil fX10_spoil fX9_step fX10_step fL_state fX10_state fL_cuvette fX10_cuvette fL_volume fX10_volume fL_trend fX10_trend fL_rules fX10_rules fL_host fX10_host fL_took fX10_took (rL_law L xs n) x4 x5 x6 M).trans h)
set_option maxRecDepth 20000 in
theorem gL_law_1224 (L : Nat) (xs : Nat → Int32) (F0 F1 F2 F3 F4 F5 F6 F7 F8 F9 F10 F11 F12 F13 F14 F15 F16 F17 F18 F19 F20 F21 F22 F23 F24 F25 F26 F27 F28 F29 F30 F31 F32 F33 F34 F35 F36 F37 : am_F) (k : Nat → List am_V → List am_V → am_M → am_R) (x4 : Int32) (x5 : am_V) (x6 : am_V) (M : am_M) : gL_law L xs F0 F1 F2 F3 F4 F5 F6 F7 F8 F9 F10 F11 F12 F13 F14 F15 F16 F17 F18 F19 F20 F21 F22 F23 F24 F25 F26 F27 F28 F29 F30 F31 F32 F33 F34 F35 F36 F37 k 1224 [.inr (29, 0), .inr (9, 0), .inr (10, 0), .inr (80, 0), .inl (.int x4), x5, x6] [] M =
  if am_in (x4 + 1) L then
   am_ret [] 1232 [] (k 1235 [.inr (29, 0), .inr (9, 0), .inr (10, 0), .inr (80, 0), .inl (.int x4), x5, x6]) (F36 [.inr (9, 0), .inl (.int (xs (Int32.toNatClampNeg (x4 + 1)))), .inr (80, 0)] M)
  else none := (rfl)
theorem eL_law_1224 {L : Nat} {xs : Nat → Int32} {n : Nat} {x4 : Int32} {x5 : am_V} {x6 : am_V} {M : am_M} {res : am_O × am_M} (h : (if am_in (x4 + 1) L then
   am_ret [] 1232 [] (rL_law L xs n 1235 [.inr (29, 0), .inr (9, 0), .inr (10, 0), .inr (80, 0), .inl (.int x4), x5, x6]) (fL_took [.inr (9, 0), .inl (.int (xs (Int32.toNatClampNeg (x4 + 1)))), .inr (80, 0)] M)
  else none) = some res) : rL_law L xs (n + 100) 1224 [.inr (29, 0), .inr (9, 0), .inr (10, 0), .inr (80, 0), .inl (.int x4), x5, x6] [] M = some res := uL_law ((gL_law_1224 L xs fL_define fX10_define fL_curve fX10_curve fL_seal fX10_seal fL_rack fX10_rack fL_removeRack fX10_removeRack fL_reagent fX10_reagent fL_forbid fX10_forbid fL_order fX10_order fL_clock fX10_clock fL_light fX10_light fL_spoil fX10_spoil fX9_step fX10_step fL_state fX10_state fL_cuvette fX10_cuvette fL_volume fX10_volume fL_trend fX10_trend fL_rules fX10_rules fL_host fX10_host fL_took fX10_took (rL_law L xs n) x4 x5 x6 M).trans h)
set_option maxRecDepth 20000 in
theorem gL_law_1280 (L : Nat) (xs : Nat → Int32) (F0 F1 F2 F3 F4 F5 F6 F7 F8 F9 F10 F11 F12 F13 F14 F15 F16 F17 F18 F19 F20 F21 F22 F23 F24 F25 F26 F27 F28 F29 F30 F31 F32 F33 F34 F35 F36 F37 : am_F) (k : Nat → List am_V → List am_V → am_M → am_R) (x4 : Int32) (x5 : am_V) (x6 : am_V) (M : am_M) : gL_law L xs F0 F1 F2 F3 F4 F5 F6 F7 F8 F9 F10 F11 F12 F13 F14 F15 F16 F17 F18 F19 F20 F21 F22 F23 F24 F25 F26 F27 F28 F29 F30 F31 F32 F33 F34 F35 F36 F37 k 1280 [.inr (29, 0), .inr (9, 0), .inr (10, 0), .inr (80, 0), .inl (.int x4), x5, x6] [] M =
  k 23 [.inr (29, 0), .inr (9, 0), .inr (10, 0), .inr (80, 0), .inl (.int (x4 + 5)), x5, x6] [] M := (rfl)
theorem eL_law_1280 {L : Nat} {xs : Nat → Int32} {n : Nat} {x4 : Int32} {x5 : am_V} {x6 : am_V} {M : am_M} {res : am_O × am_M} (h : (rL_law L xs n 23 [.inr (29, 0), .inr (9, 0), .inr (10, 0), .inr (80, 0), .inl (.int (x4 + 5)), x5, x6] [] M) = some res) : rL_law L xs (n + 100) 1280 [.inr (29, 0), .inr (9, 0), .inr (10, 0), .inr (80, 0), .inl (.int x4), x5, x6] [] M = some res := uL_law ((gL_law_1280 L xs fL_define fX10_define fL_curve fX10_curve fL_seal fX10_seal fL_rack fX10_rack fL_removeRack fX10_removeRack fL_reagent fX10_reagent fL_forbid fX10_forbid fL_order fX10_order fL_clock fX10_clock fL_light fX10_light fL_spoil fX10_spoil fX9_step fX10_step fL_state fX10_state fL_cuvette fX10_cuvette fL_volume fX10_volume fL_trend fX10_trend fL_rules fX10_rules fL_host fX10_host fL_took fX10_took (rL_law L xs n) x4 x5 x6 M).trans h)
set_option maxRecDepth 20000 in
theorem gL_law_154 (L : Nat) (xs : Nat → Int32) (F0 F1 F2 F3 F4 F5 F6 F7 F8 F9 F10 F11 F12 F13 F14 F15 F16 F17 F18 F19 F20 F21 F22 F23 F24 F25 F26 F27 F28 F29 F30 F31 F32 F33 F34 F35 F36 F37 : am_F) (k : Nat → List am_V → List am_V → am_M → am_R) (x4 : Int32) (x5 : am_V) (x6 : am_V) (y0 : Int32) (M : am_M) : gL_law L xs F0 F1 F2 F3 F4 F5 F6 F7 F8 F9 F10 F11 F12 F13 F14 F15 F16 F17 F18 F19 F20 F21 F22 F23 F24 F25 F26 F27 F28 F29 F30 F31 F32 F33 F34 F35 F36 F37 k 154 [.inr (29, 0), .inr (9, 0), .inr (10, 0), .inr (80, 0), .inl (.int x4), x5, x6] [.inl (.int y0)] M =
  if am_in (x4 + 1) L then
   if am_in (x4 + 2) L then
    if am_in (x4 + 3) L then
     am_ret [] 175 [] (k 178 [.inr (29, 0), .inr (9, 0), .inr (10, 0), .inr (80, 0), .inl (.int x4), .inl (.int y0), x6]) (F1 [.inr (10, 0), .inl (.int (xs (Int32.toNatClampNeg (x4 + 1)))), .inl (.int (xs (Int32.toNatClampNeg (x4 + 2)))), .inl (.int (xs (Int32.toNatClampNeg (x4 + 3))))] M)
    else none
   else none
  else none := (rfl)
theorem eL_law_154 {L : Nat} {xs : Nat → Int32} {n : Nat} {x4 : Int32} {x5 : am_V} {x6 : am_V} {y0 : Int32} {M : am_M} {res : am_O × am_M} (h : (if am_in (x4 + 1) L then
   if am_in (x4 + 2) L then
    if am_in (x4 + 3) L then
     am_ret [] 175 [] (rL_law L xs n 178 [.inr (29, 0), .inr (9, 0), .inr (10, 0), .inr (80, 0), .inl (.int x4), .inl (.int y0), x6]) (fX10_define [.inr (10, 0), .inl (.int (xs (Int32.toNatClampNeg (x4 + 1)))), .inl (.int (xs (Int32.toNatClampNeg (x4 + 2)))), .inl (.int (xs (Int32.toNatClampNeg (x4 + 3))))] M)
    else none
   else none
  else none) = some res) : rL_law L xs (n + 100) 154 [.inr (29, 0), .inr (9, 0), .inr (10, 0), .inr (80, 0), .inl (.int x4), x5, x6] [.inl (.int y0)] M = some res := uL_law ((gL_law_154 L xs fL_define fX10_define fL_curve fX10_curve fL_seal fX10_seal fL_rack fX10_rack fL_removeRack fX10_removeRack fL_reagent fX10_reagent fL_forbid fX10_forbid fL_order fX10_order fL_clock fX10_clock fL_light fX10_light fL_spoil fX10_spoil fX9_step fX10_step fL_state fX10_state fL_cuvette fX10_cuvette fL_volume fX10_volume fL_trend fX10_trend fL_rules fX10_rules fL_host fX10_host fL_took fX10_took (rL_law L xs n) x4 x5 x6 y0 M).trans h)
set_option maxRecDepth 20000 in
theorem gL_law_215 (L : Nat) (xs : Nat → Int32) (F0 F1 F2 F3 F4 F5 F6 F7 F8 F9 F10 F11 F12 F13 F14 F15 F16 F17 F18 F19 F20 F21 F22 F23 F24 F25 F26 F27 F28 F29 F30 F31 F32 F33 F34 F35 F36 F37 : am_F) (k : Nat → List am_V → List am_V → am_M → am_R) (x4 : Int32) (x5 : am_V) (x6 : am_V) (y0 : Int32) (M : am_M) : gL_law L xs F0 F1 F2 F3 F4 F5 F6 F7 F8 F9 F10 F11 F12 F13 F14 F15 F16 F17 F18 F19 F20 F21 F22 F23 F24 F25 F26 F27 F28 F29 F30 F31 F32 F33 F34 F35 F36 F37 k 215 [.inr (29, 0), .inr (9, 0), .inr (10, 0), .inr (80, 0), .inl (.int x4), x5, x6] [.inl (.int y0)] M =
  if am_in (x4 + 1) L then
   if am_in (x4 + 2) L then
    if am_in (x4 + 3) L then
     am_ret [] 236 [] (k 239 [.inr (29, 0), .inr (9, 0), .inr (10, 0), .inr (80, 0), .inl (.int x4), .inl (.int y0), x6]) (F3 [.inr (10, 0), .inl (.int (xs (Int32.toNatClampNeg (x4 + 1)))), .inl (.int (xs (Int32.toNatClampNeg (x4 + 2)))), .inl (.int (xs (Int32.toNatClampNeg (x4 + 3))))] M)
    else none
   else none
  else none := (rfl)
theorem eL_law_215 {L : Nat} {xs : Nat → Int32} {n : Nat} {x4 : Int32} {x5 : am_V} {x6 : am_V} {y0 : Int32} {M : am_M} {res : am_O × am_M} (h : (if am_in (x4 + 1) L then
   if am_in (x4 + 2) L then
    if am_in (x4 + 3) L then
     am_ret [] 236 [] (rL_law L xs n 239 [.inr (29, 0), .inr (9, 0), .inr (10, 0), .inr (80, 0), .inl (.int x4), .inl (.int y0), x6]) (fX10_curve [.inr (10, 0), .inl (.int (xs (Int32.toNatClampNeg (x4 + 1)))), .inl (.int (xs (Int32.toNatClampNeg (x4 + 2)))), .inl (.int (xs (Int32.toNatClampNeg (x4 + 3))))] M)
    else none
   else none
  else none) = some res) : rL_law L xs (n + 100) 215 [.inr (29, 0), .inr (9, 0), .inr (10, 0), .inr (80, 0), .inl (.int x4), x5, x6] [.inl (.int y0)] M = some res := uL_law ((gL_law_215 L xs fL_define fX10_define fL_curve fX10_curve fL_seal fX10_seal fL_rack fX10_rack fL_removeRack fX10_removeRack fL_reagent fX10_reagent fL_forbid fX10_forbid fL_order fX10_order fL_clock fX10_clock fL_light fX10_light fL_spoil fX10_spoil fX9_step fX10_step fL_state fX10_state fL_cuvette fX10_cuvette fL_volume fX10_volume fL_trend fX10_trend fL_rules fX10_rules fL_host fX10_host fL_took fX10_took (rL_law L xs n) x4 x5 x6 y0 M).trans h)
set_option maxRecDepth 20000 in
theorem gL_law_283 (L : Nat) (xs : Nat → Int32) (F0 F1 F2 F3 F4 F5 F6 F7 F8 F9 F10 F11 F12 F13 F14 F15 F16 F17 F18 F19 F20 F21 F22 F23 F24 F25 F26 F27 F28 F29 F30 F31 F32 F33 F34 F35 F36 F37 : am_F) (k : Nat → List am_V → List am_V → am_M → am_R) (x4 : Int32) (x5 : am_V) (x6 : am_V) (y0 : Int32) (M : am_M) : gL_law L xs F0 F1 F2 F3 F4 F5 F6 F7 F8 F9 F10 F11 F12 F13 F14 F15 F16 F17 F18 F19 F20 F21 F22 F23 F24 F25 F26 F27 F28 F29 F30 F31 F32 F33 F34 F35 F36 F37 k 283 [.inr (29, 0), .inr (9, 0), .inr (10, 0), .inr (80, 0), .inl (.int x4), x5, x6] [.inl (.int y0)] M =
  if am_in (x4 + 1) L then
   am_ret [] 292 [] (k 295 [.inr (29, 0), .inr (9, 0), .inr (10, 0), .inr (80, 0), .inl (.int x4), .inl (.int y0), x6]) (F5 [.inr (10, 0), .inl (.int (xs (Int32.toNatClampNeg (x4 + 1))))] M)
  else none := (rfl)
theorem eL_law_283 {L : Nat} {xs : Nat → Int32} {n : Nat} {x4 : Int32} {x5 : am_V} {x6 : am_V} {y0 : Int32} {M : am_M} {res : am_O × am_M} (h : (if am_in (x4 + 1) L then
   am_ret [] 292 [] (rL_law L xs n 295 [.inr (29, 0), .inr (9, 0), .inr (10, 0), .inr (80, 0), .inl (.int x4), .inl (.int y0), x6]) (fX10_seal [.inr (10, 0), .inl (.int (xs (Int32.toNatClampNeg (x4 + 1))))] M)
  else none) = some res) : rL_law L xs (n + 100) 283 [.inr (29, 0), .inr (9, 0), .inr (10, 0), .inr (80, 0), .inl (.int x4), x5, x6] [.inl (.int y0)] M = some res := uL_law ((gL_law_283 L xs fL_define fX10_define fL_curve fX10_curve fL_seal fX10_seal fL_rack fX10_rack fL_removeRack fX10_removeRack fL_reagent fX10_reagent fL_forbid fX10_forbid fL_order fX10_order fL_clock fX10_clock fL_light fX10_light fL_spoil fX10_spoil fX9_step fX10_step fL_state fX10_state fL_cuvette fX10_cuvette fL_volume fX10_volume fL_trend fX10_trend fL_rules fX10_rules fL_host fX10_host fL_took fX10_took (rL_law L xs n) x4 x5 x6 y0 M).trans h)
set_option maxRecDepth 20000 in
theorem gL_law_363 (L : Nat) (xs : Nat → Int32) (F0 F1 F2 F3 F4 F5 F6 F7 F8 F9 F10 F11 F12 F13 F14 F15 F16 F17 F18 F19 F20 F21 F22 F23 F24 F25 F26 F27 F28 F29 F30 F31 F32 F33 F34 F35 F36 F37 : am_F) (k : Nat → List am_V → List am_V → am_M → am_R) (x4 : Int32) (x5 : am_V) (x6 : am_V) (y0 : Int32) (M : am_M) : gL_law L xs F0 F1 F2 F3 F4 F5 F6 F7 F8 F9 F10 F11 F12 F13 F14 F15 F16 F17 F18 F19 F20 F21 F22 F23 F24 F25 F26 F27 F28 F29 F30 F31 F32 F33 F34 F35 F36 F37 k 363 [.inr (29, 0), .inr (9, 0), .inr (10, 0), .inr (80, 0), .inl (.int x4), x5, x6] [.inl (.int y0)] M =
  if am_in (x4 + 1) L then
   if am_in (x4 + 2) L then
    if am_in (x4 + 3) L then
     if am_in (x4 + 4) L then
      am_ret [] 390 [] (k 393 [.inr (29, 0), .inr (9, 0), .inr (10, 0), .inr (80, 0), .inl (.int x4), .inl (.int y0), x6]) (F7 [.inr (10, 0), .inl (.int (xs (Int32.toNatClampNeg (x4 + 1)))), .inl (.int (xs (Int32.toNatClampNeg (x4 + 2)))), .inl (.int (xs (Int32.toNatClampNeg (x4 + 3)))), .inl (.int (xs (Int32.toNatClampNeg (x4 + 4))))] M)
     else none
    else none
   else none
  else none := (rfl)
theorem eL_law_363 {L : Nat} {xs : Nat → Int32} {n : Nat} {x4 : Int32} {x5 : am_V} {x6 : am_V} {y0 : Int32} {M : am_M} {res : am_O × am_M} (h : (if am_in (x4 + 1) L then
   if am_in (x4 + 2) L then
    if am_in (x4 + 3) L then
     if am_in (x4 + 4) L then
      am_ret [] 390 [] (rL_law L xs n 393 [.inr (29, 0), .inr (9, 0), .inr (10, 0), .inr (80, 0), .inl (.int x4), .inl (.int y0), x6]) (fX10_rack [.inr (10, 0), .inl (.int (xs (Int32.toNatClampNeg (x4 + 1)))), .inl (.int (xs (Int32.toNatClampNeg (x4 + 2)))), .inl (.int (xs (Int32.toNatClampNeg (x4 + 3)))), .inl (.int (xs (Int32.toNatClampNeg (x4 + 4))))] M)
     else none
    else none
   else none
  else none) = some res) : rL_law L xs (n + 100) 363 [.inr (29, 0), .inr (9, 0), .inr (10, 0), .inr (80, 0), .inl (.int x4), x5, x6] [.inl (.int y0)] M = some res := uL_law ((gL_law_363 L xs fL_define fX10_define fL_curve fX10_curve fL_seal fX10_seal fL_rack fX10_rack fL_removeRack fX10_removeRack fL_reagent fX10_reagent fL_forbid fX10_forbid fL_order fX10_order fL_clock fX10_clock fL_light fX10_light fL_spoil fX10_spoil fX9_step fX10_step fL_state fX10_state fL_cuvette fX10_cuvette fL_volume fX10_volume fL_trend fX10_trend fL_rules fX10_rules fL_host fX10_host fL_took fX10_took (rL_law L xs n) x4 x5 x6 y0 M).trans h)
set_option maxRecDepth 20000 in
theorem gL_law_418 (L : Nat) (xs : Nat → Int32) (F0 F1 F2 F3 F4 F5 F6 F7 F8 F9 F10 F11 F12 F13 F14 F15 F16 F17 F18 F19 F20 F21 F22 F23 F24 F25 F26 F27 F28 F29 F30 F31 F32 F33 F34 F35 F36 F37 : am_F) (k : Nat → List am_V → List am_V → am_M → am_R) (x4 : Int32) (x5 : am_V) (x6 : am_V) (y0 : Int32) (M : am_M) : gL_law L xs F0 F1 F2 F3 F4 F5 F6 F7 F8 F9 F10 F11 F12 F13 F14 F15 F16 F17 F18 F19 F20 F21 F22 F23 F24 F25 F26 F27 F28 F29 F30 F31 F32 F33 F34 F35 F36 F37 k 418 [.inr (29, 0), .inr (9, 0), .inr (10, 0), .inr (80, 0), .inl (.int x4), x5, x6] [.inl (.int y0)] M =
  if am_in (x4 + 1) L then
   am_ret [] 427 [] (k 430 [.inr (29, 0), .inr (9, 0), .inr (10, 0), .inr (80, 0), .inl (.int x4), .inl (.int y0), x6]) (F9 [.inr (10, 0), .inl (.int (xs (Int32.toNatClampNeg (x4 + 1))))] M)
  else none := (rfl)
theorem eL_law_418 {L : Nat} {xs : Nat → Int32} {n : Nat} {x4 : Int32} {x5 : am_V} {x6 : am_V} {y0 : Int32} {M : am_M} {res : am_O × am_M} (h : (if am_in (x4 + 1) L then
   am_ret [] 427 [] (rL_law L xs n 430 [.inr (29, 0), .inr (9, 0), .inr (10, 0), .inr (80, 0), .inl (.int x4), .inl (.int y0), x6]) (fX10_removeRack [.inr (10, 0), .inl (.int (xs (Int32.toNatClampNeg (x4 + 1))))] M)
  else none) = some res) : rL_law L xs (n + 100) 418 [.inr (29, 0), .inr (9, 0), .inr (10, 0), .inr (80, 0), .inl (.int x4), x5, x6] [.inl (.int y0)] M = some res := uL_law ((gL_law_418 L xs fL_define fX10_define fL_curve fX10_curve fL_seal fX10_seal fL_rack fX10_rack fL_removeRack fX10_removeRack fL_reagent fX10_reagent fL_forbid fX10_forbid fL_order fX10_order fL_clock fX10_clock fL_light fX10_light fL_spoil fX10_spoil fX9_step fX10_step fL_state fX10_state fL_cuvette fX10_cuvette fL_volume fX10_volume fL_trend fX10_trend fL_rules fX10_rules fL_host fX10_host fL_took fX10_took (rL_law L xs n) x4 x5 x6 y0 M).trans h)
set_option maxRecDepth 20000 in
theorem gL_law_491 (L : Nat) (xs : Nat → Int32) (F0 F1 F2 F3 F4 F5 F6 F7 F8 F9 F10 F11 F12 F13 F14 F15 F16 F17 F18 F19 F20 F21 F22 F23 F24 F25 F26 F27 F28 F29 F30 F31 F32 F33 F34 F35 F36 F37 : am_F) (k : Nat → List am_V → List am_V → am_M → am_R) (x4 : Int32) (x5 : am_V) (x6 : am_V) (y0 : Int32) (M : am_M) : gL_law L xs F0 F1 F2 F3 F4 F5 F6 F7 F8 F9 F10 F11 F12 F13 F14 F15 F16 F17 F18 F19 F20 F21 F22 F23 F24 F25 F26 F27 F28 F29 F30 F31 F32 F33 F34 F35 F36 F37 k 491 [.inr (29, 0), .inr (9, 0), .inr (10, 0), .inr (80, 0), .inl (.int x4), x5, x6] [.inl (.int y0)] M =
  if am_in (x4 + 1) L then
   if am_in (x4 + 2) L then
    if am_in (x4 + 3) L then
     if am_in (x4 + 4) L then
      am_ret [] 518 [] (k 521 [.inr (29, 0), .inr (9, 0), .inr (10, 0), .inr (80, 0), .inl (.int x4), .inl (.int y0), x6]) (F11 [.inr (10, 0), .inl (.int (xs (Int32.toNatClampNeg (x4 + 1)))), .inl (.int (xs (Int32.toNatClampNeg (x4 + 2)))), .inl (.int (xs (Int32.toNatClampNeg (x4 + 3)))), .inl (.int (xs (Int32.toNatClampNeg (x4 + 4))))] M)
     else none
    else none
   else none
  else none := (rfl)
theorem eL_law_491 {L : Nat} {xs : Nat → Int32} {n : Nat} {x4 : Int32} {x5 : am_V} {x6 : am_V} {y0 : Int32} {M : am_M} {res : am_O × am_M} (h : (if am_in (x4 + 1) L then
   if am_in (x4 + 2) L then
    if am_in (x4 + 3) L then
     if am_in (x4 + 4) L then
      am_ret [] 518 [] (rL_law L xs n 521 [.inr (29, 0), .inr (9, 0), .inr (10, 0), .inr (80, 0), .inl (.int x4), .inl (.int y0), x6]) (fX10_reagent [.inr (10, 0), .inl (.int (xs (Int32.toNatClampNeg (x4 + 1)))), .inl (.int (xs (Int32.toNatClampNeg (x4 + 2)))), .inl (.int (xs (Int32.toNatClampNeg (x4 + 3)))), .inl (.int (xs (Int32.toNatClampNeg (x4 + 4))))] M)
     else none
    else none
   else none
  else none) = some res) : rL_law L xs (n + 100) 491 [.inr (29, 0), .inr (9, 0), .inr (10, 0), .inr (80, 0), .inl (.int x4), x5, x6] [.inl (.int y0)] M = some res := uL_law ((gL_law_491 L xs fL_define fX10_define fL_curve fX10_curve fL_seal fX10_seal fL_rack fX10_rack fL_removeRack fX10_removeRack fL_reagent fX10_reagent fL_forbid fX10_forbid fL_order fX10_order fL_clock fX10_clock fL_light fX10_light fL_spoil fX10_spoil fX9_step fX10_step fL_state fX10_state fL_cuvette fX10_cuvette fL_volume fX10_volume fL_trend fX10_trend fL_rules fX10_rules fL_host fX10_host fL_took fX10_took (rL_law L xs n) x4 x5 x6 y0 M).trans h)
set_option maxRecDepth 20000 in
theorem gL_law_552 (L : Nat) (xs : Nat → Int32) (F0 F1 F2 F3 F4 F5 F6 F7 F8 F9 F10 F11 F12 F13 F14 F15 F16 F17 F18 F19 F20 F21 F22 F23 F24 F25 F26 F27 F28 F29 F30 F31 F32 F33 F34 F35 F36 F37 : am_F) (k : Nat → List am_V → List am_V → am_M → am_R) (x4 : Int32) (x5 : am_V) (x6 : am_V) (y0 : Int32) (M : am_M) : gL_law L xs F0 F1 F2 F3 F4 F5 F6 F7 F8 F9 F10 F11 F12 F13 F14 F15 F16 F17 F18 F19 F20 F21 F22 F23 F24 F25 F26 F27 F28 F29 F30 F31 F32 F33 F34 F35 F36 F37 k 552 [.inr (29, 0), .inr (9, 0), .inr (10, 0), .inr (80, 0), .inl (.int x4), x5, x6] [.inl (.int y0)] M =
  if am_in (x4 + 1) L then
   if am_in (x4 + 2) L then
    am_ret [] 567 [] (k 570 [.inr (29, 0), .inr (9, 0), .inr (10, 0), .inr (80, 0), .inl (.int x4), .inl (.int y0), x6]) (F13 [.inr (10, 0), .inl (.int (xs (Int32.toNatClampNeg (x4 + 1)))), .inl (.int (xs (Int32.toNatClampNeg (x4 + 2))))] M)
   else none
  else none := (rfl)
theorem eL_law_552 {L : Nat} {xs : Nat → Int32} {n : Nat} {x4 : Int32} {x5 : am_V} {x6 : am_V} {y0 : Int32} {M : am_M} {res : am_O × am_M} (h : (if am_in (x4 + 1) L then
   if am_in (x4 + 2) L then
    am_ret [] 567 [] (rL_law L xs n 570 [.inr (29, 0), .inr (9, 0), .inr (10, 0), .inr (80, 0), .inl (.int x4), .inl (.int y0), x6]) (fX10_forbid [.inr (10, 0), .inl (.int (xs (Int32.toNatClampNeg (x4 + 1)))), .inl (.int (xs (Int32.toNatClampNeg (x4 + 2))))] M)
   else none
  else none) = some res) : rL_law L xs (n + 100) 552 [.inr (29, 0), .inr (9, 0), .inr (10, 0), .inr (80, 0), .inl (.int x4), x5, x6] [.inl (.int y0)] M = some res := uL_law ((gL_law_552 L xs fL_define fX10_define fL_curve fX10_curve fL_seal fX10_seal fL_rack fX10_rack fL_removeRack fX10_removeRack fL_reagent fX10_reagent fL_forbid fX10_forbid fL_order fX10_order fL_clock fX10_clock fL_light fX10_light fL_spoil fX10_spoil fX9_step fX10_step fL_state fX10_state fL_cuvette fX10_cuvette fL_volume fX10_volume fL_trend fX10_trend fL_rules fX10_rules fL_host fX10_host fL_took fX10_took (rL_law L xs n) x4 x5 x6 y0 M).trans h)
set_option maxRecDepth 20000 in
theorem gL_law_641 (L : Nat) (xs : Nat → Int32) (F0 F1 F2 F3 F4 F5 F6 F7 F8 F9 F10 F11 F12 F13 F14 F15 F16 F17 F18 F19 F20 F21 F22 F23 F24 F25 F26 F27 F28 F29 F30 F31 F32 F33 F34 F35 F36 F37 : am_F) (k : Nat → List am_V → List am_V → am_M → am_R) (x4 : Int32) (x5 : am_V) (x6 : am_V) (y0 : Int32) (M : am_M) : gL_law L xs F0 F1 F2 F3 F4 F5 F6 F7 F8 F9 F10 F11 F12 F13 F14 F15 F16 F17 F18 F19 F20 F21 F22 F23 F24 F25 F26 F27 F28 F29 F30 F31 F32 F33 F34 F35 F36 F37 k 641 [.inr (29, 0), .inr (9, 0), .inr (10, 0), .inr (80, 0), .inl (.int x4), x5, x6] [.inl (.int y0)] M =
  if am_in (x4 + 1) L then
   if am_in (x4 + 2) L then
    if am_in (x4 + 3) L then
     if (xs (Int32.toNatClampNeg (x4 + 3))) = 0 then
      am_ret [] 670 [] (k 673 [.inr (29, 0), .inr (9, 0), .inr (10, 0), .inr (80, 0), .inl (.int x4), .inl (.int y0), x6]) (F15 [.inr (10, 0), .inl (.int (xs (Int32.toNatClampNeg (x4 + 1)))), .inl (.int (xs (Int32.toNatClampNeg (x4 + 2)))), .inl (.int 0)] M)
     else am_ret [] 670 [] (k 673 [.inr (29, 0), .inr (9, 0), .inr (10, 0), .inr (80, 0), .inl (.int x4), .inl (.int y0), x6]) (F15 [.inr (10, 0), .inl (.int (xs (Int32.toNatClampNeg (x4 + 1)))), .inl (.int (xs (Int32.toNatClampNeg (x4 + 2)))), .inl (.int 1)] M)
    else none
   else none
  else none := (rfl)
theorem eL_law_641 {L : Nat} {xs : Nat → Int32} {n : Nat} {x4 : Int32} {x5 : am_V} {x6 : am_V} {y0 : Int32} {M : am_M} {res : am_O × am_M} (h : (if am_in (x4 + 1) L then
   if am_in (x4 + 2) L then
    if am_in (x4 + 3) L then
     if (xs (Int32.toNatClampNeg (x4 + 3))) = 0 then
      am_ret [] 670 [] (rL_law L xs n 673 [.inr (29, 0), .inr (9, 0), .inr (10, 0), .inr (80, 0), .inl (.int x4), .inl (.int y0), x6]) (fX10_order [.inr (10, 0), .inl (.int (xs (Int32.toNatClampNeg (x4 + 1)))), .inl (.int (xs (Int32.toNatClampNeg (x4 + 2)))), .inl (.int 0)] M)
     else am_ret [] 670 [] (rL_law L xs n 673 [.inr (29, 0), .inr (9, 0), .inr (10, 0), .inr (80, 0), .inl (.int x4), .inl (.int y0), x6]) (fX10_order [.inr (10, 0), .inl (.int (xs (Int32.toNatClampNeg (x4 + 1)))), .inl (.int (xs (Int32.toNatClampNeg (x4 + 2)))), .inl (.int 1)] M)
    else none
   else none
  else none) = some res) : rL_law L xs (n + 100) 641 [.inr (29, 0), .inr (9, 0), .inr (10, 0), .inr (80, 0), .inl (.int x4), x5, x6] [.inl (.int y0)] M = some res := uL_law ((gL_law_641 L xs fL_define fX10_define fL_curve fX10_curve fL_seal fX10_seal fL_rack fX10_rack fL_removeRack fX10_removeRack fL_reagent fX10_reagent fL_forbid fX10_forbid fL_order fX10_order fL_clock fX10_clock fL_light fX10_light fL_spoil fX10_spoil fX9_step fX10_step fL_state fX10_state fL_cuvette fX10_cuvette fL_volume fX10_volume fL_trend fX10_trend fL_rules fX10_rules fL_host fX10_host fL_took fX10_took (rL_law L xs n) x4 x5 x6 y0 M).trans h)
set_option maxRecDepth 20000 in
theorem gL_law_716 (L : Nat) (xs : Nat → Int32) (F0 F1 F2 F3 F4 F5 F6 F7 F8 F9 F10 F11 F12 F13 F14 F15 F16 F17 F18 F19 F20 F21 F22 F23 F24 F25 F26 F27 F28 F29 F30 F31 F32 F33 F34 F35 F36 F37 : am_F) (k : Nat → List am_V → List am_V → am_M → am_R) (x4 : Int32) (x5 : am_V) (x6 : am_V) (y0 : Int32) (M : am_M) : gL_law L xs F0 F1 F2 F3 F4 F5 F6 F7 F8 F9 F10 F11 F12 F13 F14 F15 F16 F17 F18 F19 F20 F21 F22 F23 F24 F25 F26 F27 F28 F29 F30 F31 F32 F33 F34 F35 F36 F37 k 716 [.inr (29, 0), .inr (9, 0), .inr (10, 0), .inr (80, 0), .inl (.int x4), x5, x6] [.inl (.int y0)] M =
  if am_in (x4 + 1) L then
   am_ret [] 725 [] (k 728 [.inr (29, 0), .inr (9, 0), .inr (10, 0), .inr (80, 0), .inl (.int x4), .inl (.int y0), x6]) (F17 [.inr (10, 0), .inl (.int (xs (Int32.toNatClampNeg (x4 + 1))))] M)
  else none := (rfl)
theorem eL_law_716 {L : Nat} {xs : Nat → Int32} {n : Nat} {x4 : Int32} {x5 : am_V} {x6 : am_V} {y0 : Int32} {M : am_M} {res : am_O × am_M} (h : (if am_in (x4 + 1) L then
   am_ret [] 725 [] (rL_law L xs n 728 [.inr (29, 0), .inr (9, 0), .inr (10, 0), .inr (80, 0), .inl (.int x4), .inl (.int y0), x6]) (fX10_clock [.inr (10, 0), .inl (.int (xs (Int32.toNatClampNeg (x4 + 1))))] M)
  else none) = some res) : rL_law L xs (n + 100) 716 [.inr (29, 0), .inr (9, 0), .inr (10, 0), .inr (80, 0), .inl (.int x4), x5, x6] [.inl (.int y0)] M = some res := uL_law ((gL_law_716 L xs fL_define fX10_define fL_curve fX10_curve fL_seal fX10_seal fL_rack fX10_rack fL_removeRack fX10_removeRack fL_reagent fX10_reagent fL_forbid fX10_forbid fL_order fX10_order fL_clock fX10_clock fL_light fX10_light fL_spoil fX10_spoil fX9_step fX10_step fL_state fX10_state fL_cuvette fX10_cuvette fL_volume fX10_volume fL_trend fX10_trend fL_rules fX10_rules fL_host fX10_host fL_took fX10_took (rL_law L xs n) x4 x5 x6 y0 M).trans h)
set_option maxRecDepth 20000 in
theorem gL_law_752 (L : Nat) (xs : Nat → Int32) (F0 F1 F2 F3 F4 F5 F6 F7 F8 F9 F10 F11 F12 F13 F14 F15 F16 F17 F18 F19 F20 F21 F22 F23 F24 F25 F26 F27 F28 F29 F30 F31 F32 F33 F34 F35 F36 F37 : am_F) (k : Nat → List am_V → List am_V → am_M → am_R) (x4 : Int32) (x5 : am_V) (x6 : am_V) (y0 : Int32) (M : am_M) : gL_law L xs F0 F1 F2 F3 F4 F5 F6 F7 F8 F9 F10 F11 F12 F13 F14 F15 F16 F17 F18 F19 F20 F21 F22 F23 F24 F25 F26 F27 F28 F29 F30 F31 F32 F33 F34 F35 F36 F37 k 752 [.inr (29, 0), .inr (9, 0), .inr (10, 0), .inr (80, 0), .inl (.int x4), x5, x6] [.inl (.int y0)] M =
  if am_in (x4 + 1) L then
   am_ret [] 761 [] (k 764 [.inr (29, 0), .inr (9, 0), .inr (10, 0), .inr (80, 0), .inl (.int x4), .inl (.int y0), x6]) (F19 [.inr (10, 0), .inl (.int (xs (Int32.toNatClampNeg (x4 + 1))))] M)
  else none := (rfl)
theorem eL_law_752 {L : Nat} {xs : Nat → Int32} {n : Nat} {x4 : Int32} {x5 : am_V} {x6 : am_V} {y0 : Int32} {M : am_M} {res : am_O × am_M} (h : (if am_in (x4 + 1) L then
   am_ret [] 761 [] (rL_law L xs n 764 [.inr (29, 0), .inr (9, 0), .inr (10, 0), .inr (80, 0), .inl (.int x4), .inl (.int y0), x6]) (fX10_light [.inr (10, 0), .inl (.int (xs (Int32.toNatClampNeg (x4 + 1))))] M)
  else none) = some res) : rL_law L xs (n + 100) 752 [.inr (29, 0), .inr (9, 0), .inr (10, 0), .inr (80, 0), .inl (.int x4), x5, x6] [.inl (.int y0)] M = some res := uL_law ((gL_law_752 L xs fL_define fX10_define fL_curve fX10_curve fL_seal fX10_seal fL_rack fX10_rack fL_removeRack fX10_removeRack fL_reagent fX10_reagent fL_forbid fX10_forbid fL_order fX10_order fL_clock fX10_clock fL_light fX10_light fL_spoil fX10_spoil fX9_step fX10_step fL_state fX10_state fL_cuvette fX10_cuvette fL_volume fX10_volume fL_trend fX10_trend fL_rules fX10_rules fL_host fX10_host fL_took fX10_took (rL_law L xs n) x4 x5 x6 y0 M).trans h)
set_option maxRecDepth 20000 in
theorem gL_law_788 (L : Nat) (xs : Nat → Int32) (F0 F1 F2 F3 F4 F5 F6 F7 F8 F9 F10 F11 F12 F13 F14 F15 F16 F17 F18 F19 F20 F21 F22 F23 F24 F25 F26 F27 F28 F29 F30 F31 F32 F33 F34 F35 F36 F37 : am_F) (k : Nat → List am_V → List am_V → am_M → am_R) (x4 : Int32) (x5 : am_V) (x6 : am_V) (y0 : Int32) (M : am_M) : gL_law L xs F0 F1 F2 F3 F4 F5 F6 F7 F8 F9 F10 F11 F12 F13 F14 F15 F16 F17 F18 F19 F20 F21 F22 F23 F24 F25 F26 F27 F28 F29 F30 F31 F32 F33 F34 F35 F36 F37 k 788 [.inr (29, 0), .inr (9, 0), .inr (10, 0), .inr (80, 0), .inl (.int x4), x5, x6] [.inl (.int y0)] M =
  if am_in (x4 + 1) L then
   am_ret [] 797 [] (k 800 [.inr (29, 0), .inr (9, 0), .inr (10, 0), .inr (80, 0), .inl (.int x4), .inl (.int y0), x6]) (F21 [.inr (10, 0), .inl (.int (xs (Int32.toNatClampNeg (x4 + 1))))] M)
  else none := (rfl)
theorem eL_law_788 {L : Nat} {xs : Nat → Int32} {n : Nat} {x4 : Int32} {x5 : am_V} {x6 : am_V} {y0 : Int32} {M : am_M} {res : am_O × am_M} (h : (if am_in (x4 + 1) L then
   am_ret [] 797 [] (rL_law L xs n 800 [.inr (29, 0), .inr (9, 0), .inr (10, 0), .inr (80, 0), .inl (.int x4), .inl (.int y0), x6]) (fX10_spoil [.inr (10, 0), .inl (.int (xs (Int32.toNatClampNeg (x4 + 1))))] M)
  else none) = some res) : rL_law L xs (n + 100) 788 [.inr (29, 0), .inr (9, 0), .inr (10, 0), .inr (80, 0), .inl (.int x4), x5, x6] [.inl (.int y0)] M = some res := uL_law ((gL_law_788 L xs fL_define fX10_define fL_curve fX10_curve fL_seal fX10_seal fL_rack fX10_rack fL_removeRack fX10_removeRack fL_reagent fX10_reagent fL_forbid fX10_forbid fL_order fX10_order fL_clock fX10_clock fL_light fX10_light fL_spoil fX10_spoil fX9_step fX10_step fL_state fX10_state fL_cuvette fX10_cuvette fL_volume fX10_volume fL_trend fX10_trend fL_rules fX10_rules fL_host fX10_host fL_took fX10_took (rL_law L xs n) x4 x5 x6 y0 M).trans h)
set_option maxRecDepth 20000 in
theorem gL_law_818 (L : Nat) (xs : Nat → Int32) (F0 F1 F2 F3 F4 F5 F6 F7 F8 F9 F10 F11 F12 F13 F14 F15 F16 F17 F18 F19 F20 F21 F22 F23 F24 F25 F26 F27 F28 F29 F30 F31 F32 F33 F34 F35 F36 F37 : am_F) (k : Nat → List am_V → List am_V → am_M → am_R) (x4 : Int32) (x5 : am_V) (x6 : am_V) (y0 : Int32) (M : am_M) : gL_law L xs F0 F1 F2 F3 F4 F5 F6 F7 F8 F9 F10 F11 F12 F13 F14 F15 F16 F17 F18 F19 F20 F21 F22 F23 F24 F25 F26 F27 F28 F29 F30 F31 F32 F33 F34 F35 F36 F37 k 818 [.inr (29, 0), .inr (9, 0), .inr (10, 0), .inr (80, 0), .inl (.int x4), x5, x6] [.inl (.int y0)] M =
  am_ret [] 819 [.inl (.int y0)] (k 822 [.inr (29, 0), .inr (9, 0), .inr (10, 0), .inr (80, 0), .inl (.int x4), x5, x6]) (F23 [.inr (10, 0)] M) := (rfl)
theorem eL_law_818 {L : Nat} {xs : Nat → Int32} {n : Nat} {x4 : Int32} {x5 : am_V} {x6 : am_V} {y0 : Int32} {M : am_M} {res : am_O × am_M} (h : (am_ret [] 819 [.inl (.int y0)] (rL_law L xs n 822 [.inr (29, 0), .inr (9, 0), .inr (10, 0), .inr (80, 0), .inl (.int x4), x5, x6]) (fX10_step [.inr (10, 0)] M)) = some res) : rL_law L xs (n + 100) 818 [.inr (29, 0), .inr (9, 0), .inr (10, 0), .inr (80, 0), .inl (.int x4), x5, x6] [.inl (.int y0)] M = some res := uL_law ((gL_law_818 L xs fL_define fX10_define fL_curve fX10_curve fL_seal fX10_seal fL_rack fX10_rack fL_removeRack fX10_removeRack fL_reagent fX10_reagent fL_forbid fX10_forbid fL_order fX10_order fL_clock fX10_clock fL_light fX10_light fL_spoil fX10_spoil fX9_step fX10_step fL_state fX10_state fL_cuvette fX10_cuvette fL_volume fX10_volume fL_trend fX10_trend fL_rules fX10_rules fL_host fX10_host fL_took fX10_took (rL_law L xs n) x4 x5 x6 y0 M).trans h)
set_option maxRecDepth 20000 in
theorem gL_law_857 (L : Nat) (xs : Nat → Int32) (F0 F1 F2 F3 F4 F5 F6 F7 F8 F9 F10 F11 F12 F13 F14 F15 F16 F17 F18 F19 F20 F21 F22 F23 F24 F25 F26 F27 F28 F29 F30 F31 F32 F33 F34 F35 F36 F37 : am_F) (k : Nat → List am_V → List am_V → am_M → am_R) (x4 : Int32) (x5 : am_V) (x6 : am_V) (y0 : Int32) (M : am_M) : gL_law L xs F0 F1 F2 F3 F4 F5 F6 F7 F8 F9 F10 F11 F12 F13 F14 F15 F16 F17 F18 F19 F20 F21 F22 F23 F24 F25 F26 F27 F28 F29 F30 F31 F32 F33 F34 F35 F36 F37 k 857 [.inr (29, 0), .inr (9, 0), .inr (10, 0), .inr (80, 0), .inl (.int x4), x5, x6] [.inl (.int y0)] M =
  if am_in (x4 + 1) L then
   if am_in (x4 + 2) L then
    am_ret [] 872 [] (k 875 [.inr (29, 0), .inr (9, 0), .inr (10, 0), .inr (80, 0), .inl (.int x4), .inl (.int y0), x6]) (F25 [.inr (10, 0), .inl (.int (xs (Int32.toNatClampNeg (x4 + 1)))), .inl (.int (xs (Int32.toNatClampNeg (x4 + 2))))] M)
   else none
  else none := (rfl)
theorem eL_law_857 {L : Nat} {xs : Nat → Int32} {n : Nat} {x4 : Int32} {x5 : am_V} {x6 : am_V} {y0 : Int32} {M : am_M} {res : am_O × am_M} (h : (if am_in (x4 + 1) L then
   if am_in (x4 + 2) L then
    am_ret [] 872 [] (rL_law L xs n 875 [.inr (29, 0), .inr (9, 0), .inr (10, 0), .inr (80, 0), .inl (.int x4), .inl (.int y0), x6]) (fX10_state [.inr (10, 0), .inl (.int (xs (Int32.toNatClampNeg (x4 + 1)))), .inl (.int (xs (Int32.toNatClampNeg (x4 + 2))))] M)
   else none
  else none) = some res) : rL_law L xs (n + 100) 857 [.inr (29, 0), .inr (9, 0), .inr (10, 0), .inr (80, 0), .inl (.int x4), x5, x6] [.inl (.int y0)] M = some res := uL_law ((gL_law_857 L xs fL_define fX10_define fL_curve fX10_curve fL_seal fX10_seal fL_rack fX10_rack fL_removeRack fX10_removeRack fL_reagent fX10_reagent fL_forbid fX10_forbid fL_order fX10_order fL_clock fX10_clock fL_light fX10_light fL_spoil fX10_spoil fX9_step fX10_step fL_state fX10_state fL_cuvette fX10_cuvette fL_volume fX10_volume fL_trend fX10_trend fL_rules fX10_rules fL_host fX10_host fL_took fX10_took (rL_law L xs n) x4 x5 x6 y0 M).trans h)
set_option maxRecDepth 20000 in
theorem gL_law_925 (L : Nat) (xs : Nat → Int32) (F0 F1 F2 F3 F4 F5 F6 F7 F8 F9 F10 F11 F12 F13 F14 F15 F16 F17 F18 F19 F20 F21 F22 F23 F24 F25 F26 F27 F28 F29 F30 F31 F32 F33 F34 F35 F36 F37 : am_F) (k : Nat → List am_V → List am_V → am_M → am_R) (x4 : Int32) (x5 : am_V) (x6 : am_V) (y0 : Int32) (M : am_M) : gL_law L xs F0 F1 F2 F3 F4 F5 F6 F7 F8 F9 F10 F11 F12 F13 F14 F15 F16 F17 F18 F19 F20 F21 F22 F23 F24 F25 F26 F27 F28 F29 F30 F31 F32 F33 F34 F35 F36 F37 k 925 [.inr (29, 0), .inr (9, 0), .inr (10, 0), .inr (80, 0), .inl (.int x4), x5, x6] [.inl (.int y0)] M =
  if am_in (x4 + 1) L then
   if am_in (x4 + 2) L then
    am_ret [] 940 [] (k 943 [.inr (29, 0), .inr (9, 0), .inr (10, 0), .inr (80, 0), .inl (.int x4), .inl (.int y0), x6]) (F27 [.inr (10, 0), .inl (.int (xs (Int32.toNatClampNeg (x4 + 1)))), .inl (.int (xs (Int32.toNatClampNeg (x4 + 2))))] M)
   else none
  else none := (rfl)
theorem eL_law_925 {L : Nat} {xs : Nat → Int32} {n : Nat} {x4 : Int32} {x5 : am_V} {x6 : am_V} {y0 : Int32} {M : am_M} {res : am_O × am_M} (h : (if am_in (x4 + 1) L then
   if am_in (x4 + 2) L then
    am_ret [] 940 [] (rL_law L xs n 943 [.inr (29, 0), .inr (9, 0), .inr (10, 0), .inr (80, 0), .inl (.int x4), .inl (.int y0), x6]) (fX10_cuvette [.inr (10, 0), .inl (.int (xs (Int32.toNatClampNeg (x4 + 1)))), .inl (.int (xs (Int32.toNatClampNeg (x4 + 2))))] M)
   else none
  else none) = some res) : rL_law L xs (n + 100) 925 [.inr (29, 0), .inr (9, 0), .inr (10, 0), .inr (80, 0), .inl (.int x4), x5, x6] [.inl (.int y0)] M = some res := uL_law ((gL_law_925 L xs fL_define fX10_define fL_curve fX10_curve fL_seal fX10_seal fL_rack fX10_rack fL_removeRack fX10_removeRack fL_reagent fX10_reagent fL_forbid fX10_forbid fL_order fX10_order fL_clock fX10_clock fL_light fX10_light fL_spoil fX10_spoil fX9_step fX10_step fL_state fX10_state fL_cuvette fX10_cuvette fL_volume fX10_volume fL_trend fX10_trend fL_rules fX10_rules fL_host fX10_host fL_took fX10_took (rL_law L xs n) x4 x5 x6 y0 M).trans h)
set_option maxRecDepth 20000 in
theorem gL_law_993 (L : Nat) (xs : Nat → Int32) (F0 F1 F2 F3 F4 F5 F6 F7 F8 F9 F10 F11 F12 F13 F14 F15 F16 F17 F18 F19 F20 F21 F22 F23 F24 F25 F26 F27 F28 F29 F30 F31 F32 F33 F34 F35 F36 F37 : am_F) (k : Nat → List am_V → List am_V → am_M → am_R) (x4 : Int32) (x5 : am_V) (x6 : am_V) (y0 : Int32) (M : am_M) : gL_law L xs F0 F1 F2 F3 F4 F5 F6 F7 F8 F9 F10 F11 F12 F13 F14 F15 F16 F17 F18 F19 F20 F21 F22 F23 F24 F25 F26 F27 F28 F29 F30 F31 F32 F33 F34 F35 F36 F37 k 993 [.inr (29, 0), .inr (9, 0), .inr (10, 0), .inr (80, 0), .inl (.int x4), x5, x6] [.inl (.int y0)] M =
  if am_in (x4 + 1) L then
   if am_in (x4 + 2) L then
    am_ret [] 1008 [] (k 1011 [.inr (29, 0), .inr (9, 0), .inr (10, 0), .inr (80, 0), .inl (.int x4), .inl (.int y0), x6]) (F29 [.inr (10, 0), .inl (.int (xs (Int32.toNatClampNeg (x4 + 1)))), .inl (.int (xs (Int32.toNatClampNeg (x4 + 2))))] M)
   else none
  else none := (rfl)
theorem eL_law_993 {L : Nat} {xs : Nat → Int32} {n : Nat} {x4 : Int32} {x5 : am_V} {x6 : am_V} {y0 : Int32} {M : am_M} {res : am_O × am_M} (h : (if am_in (x4 + 1) L then
   if am_in (x4 + 2) L then
    am_ret [] 1008 [] (rL_law L xs n 1011 [.inr (29, 0), .inr (9, 0), .inr (10, 0), .inr (80, 0), .inl (.int x4), .inl (.int y0), x6]) (fX10_volume [.inr (10, 0), .inl (.int (xs (Int32.toNatClampNeg (x4 + 1)))), .inl (.int (xs (Int32.toNatClampNeg (x4 + 2))))] M)
   else none
  else none) = some res) : rL_law L xs (n + 100) 993 [.inr (29, 0), .inr (9, 0), .inr (10, 0), .inr (80, 0), .inl (.int x4), x5, x6] [.inl (.int y0)] M = some res := uL_law ((gL_law_993 L xs fL_define fX10_define fL_curve fX10_curve fL_seal fX10_seal fL_rack fX10_rack fL_removeRack fX10_removeRack fL_reagent fX10_reagent fL_forbid fX10_forbid fL_order fX10_order fL_clock fX10_clock fL_light fX10_light fL_spoil fX10_spoil fX9_step fX10_step fL_state fX10_state fL_cuvette fX10_cuvette fL_volume fX10_volume fL_trend fX10_trend fL_rules fX10_rules fL_host fX10_host fL_took fX10_took (rL_law L xs n) x4 x5 x6 y0 M).trans h)
set_option maxRecDepth 20000 in
theorem gL_law_1061 (L : Nat) (xs : Nat → Int32) (F0 F1 F2 F3 F4 F5 F6 F7 F8 F9 F10 F11 F12 F13 F14 F15 F16 F17 F18 F19 F20 F21 F22 F23 F24 F25 F26 F27 F28 F29 F30 F31 F32 F33 F34 F35 F36 F37 : am_F) (k : Nat → List am_V → List am_V → am_M → am_R) (x4 : Int32) (x5 : am_V) (x6 : am_V) (y0 : Int32) (M : am_M) : gL_law L xs F0 F1 F2 F3 F4 F5 F6 F7 F8 F9 F10 F11 F12 F13 F14 F15 F16 F17 F18 F19 F20 F21 F22 F23 F24 F25 F26 F27 F28 F29 F30 F31 F32 F33 F34 F35 F36 F37 k 1061 [.inr (29, 0), .inr (9, 0), .inr (10, 0), .inr (80, 0), .inl (.int x4), x5, x6] [.inl (.int y0)] M =
  if am_in (x4 + 1) L then
   if am_in (x4 + 2) L then
    am_ret [] 1076 [] (k 1079 [.inr (29, 0), .inr (9, 0), .inr (10, 0), .inr (80, 0), .inl (.int x4), .inl (.int y0), x6]) (F31 [.inr (10, 0), .inl (.int (xs (Int32.toNatClampNeg (x4 + 1)))), .inl (.int (xs (Int32.toNatClampNeg (x4 + 2))))] M)
   else none
  else none := (rfl)
theorem eL_law_1061 {L : Nat} {xs : Nat → Int32} {n : Nat} {x4 : Int32} {x5 : am_V} {x6 : am_V} {y0 : Int32} {M : am_M} {res : am_O × am_M} (h : (if am_in (x4 + 1) L then
   if am_in (x4 + 2) L then
    am_ret [] 1076 [] (rL_law L xs n 1079 [.inr (29, 0), .inr (9, 0), .inr (10, 0), .inr (80, 0), .inl (.int x4), .inl (.int y0), x6]) (fX10_trend [.inr (10, 0), .inl (.int (xs (Int32.toNatClampNeg (x4 + 1)))), .inl (.int (xs (Int32.toNatClampNeg (x4 + 2))))] M)
   else none
  else none) = some res) : rL_law L xs (n + 100) 1061 [.inr (29, 0), .inr (9, 0), .inr (10, 0), .inr (80, 0), .inl (.int x4), x5, x6] [.inl (.int y0)] M = some res := uL_law ((gL_law_1061 L xs fL_define fX10_define fL_curve fX10_curve fL_seal fX10_seal fL_rack fX10_rack fL_removeRack fX10_removeRack fL_reagent fX10_reagent fL_forbid fX10_forbid fL_order fX10_order fL_clock fX10_clock fL_light fX10_light fL_spoil fX10_spoil fX9_step fX10_step fL_state fX10_state fL_cuvette fX10_cuvette fL_volume fX10_volume fL_trend fX10_trend fL_rules fX10_rules fL_host fX10_host fL_took fX10_took (rL_law L xs n) x4 x5 x6 y0 M).trans h)
set_option maxRecDepth 20000 in
theorem gL_law_1123 (L : Nat) (xs : Nat → Int32) (F0 F1 F2 F3 F4 F5 F6 F7 F8 F9 F10 F11 F12 F13 F14 F15 F16 F17 F18 F19 F20 F21 F22 F23 F24 F25 F26 F27 F28 F29 F30 F31 F32 F33 F34 F35 F36 F37 : am_F) (k : Nat → List am_V → List am_V → am_M → am_R) (x4 : Int32) (x5 : am_V) (x6 : am_V) (y0 : Int32) (M : am_M) : gL_law L xs F0 F1 F2 F3 F4 F5 F6 F7 F8 F9 F10 F11 F12 F13 F14 F15 F16 F17 F18 F19 F20 F21 F22 F23 F24 F25 F26 F27 F28 F29 F30 F31 F32 F33 F34 F35 F36 F37 k 1123 [.inr (29, 0), .inr (9, 0), .inr (10, 0), .inr (80, 0), .inl (.int x4), x5, x6] [.inl (.int y0)] M =
  if am_in (x4 + 1) L then
   am_ret [] 1132 [] (k 1135 [.inr (29, 0), .inr (9, 0), .inr (10, 0), .inr (80, 0), .inl (.int x4), .inl (.int y0), x6]) (F33 [.inr (10, 0), .inl (.int (xs (Int32.toNatClampNeg (x4 + 1))))] M)
  else none := (rfl)
theorem eL_law_1123 {L : Nat} {xs : Nat → Int32} {n : Nat} {x4 : Int32} {x5 : am_V} {x6 : am_V} {y0 : Int32} {M : am_M} {res : am_O × am_M} (h : (if am_in (x4 + 1) L then
   am_ret [] 1132 [] (rL_law L xs n 1135 [.inr (29, 0), .inr (9, 0), .inr (10, 0), .inr (80, 0), .inl (.int x4), .inl (.int y0), x6]) (fX10_rules [.inr (10, 0), .inl (.int (xs (Int32.toNatClampNeg (x4 + 1))))] M)
  else none) = some res) : rL_law L xs (n + 100) 1123 [.inr (29, 0), .inr (9, 0), .inr (10, 0), .inr (80, 0), .inl (.int x4), x5, x6] [.inl (.int y0)] M = some res := uL_law ((gL_law_1123 L xs fL_define fX10_define fL_curve fX10_curve fL_seal fX10_seal fL_rack fX10_rack fL_removeRack fX10_removeRack fL_reagent fX10_reagent fL_forbid fX10_forbid fL_order fX10_order fL_clock fX10_clock fL_light fX10_light fL_spoil fX10_spoil fX9_step fX10_step fL_state fX10_state fL_cuvette fX10_cuvette fL_volume fX10_volume fL_trend fX10_trend fL_rules fX10_rules fL_host fX10_host fL_took fX10_took (rL_law L xs n) x4 x5 x6 y0 M).trans h)
set_option maxRecDepth 20000 in
theorem gL_law_1179 (L : Nat) (xs : Nat → Int32) (F0 F1 F2 F3 F4 F5 F6 F7 F8 F9 F10 F11 F12 F13 F14 F15 F16 F17 F18 F19 F20 F21 F22 F23 F24 F25 F26 F27 F28 F29 F30 F31 F32 F33 F34 F35 F36 F37 : am_F) (k : Nat → List am_V → List am_V → am_M → am_R) (x4 : Int32) (x5 : am_V) (x6 : am_V) (y0 : Int32) (M : am_M) : gL_law L xs F0 F1 F2 F3 F4 F5 F6 F7 F8 F9 F10 F11 F12 F13 F14 F15 F16 F17 F18 F19 F20 F21 F22 F23 F24 F25 F26 F27 F28 F29 F30 F31 F32 F33 F34 F35 F36 F37 k 1179 [.inr (29, 0), .inr (9, 0), .inr (10, 0), .inr (80, 0), .inl (.int x4), x5, x6] [.inl (.int y0)] M =
  if am_in (x4 + 1) L then
   am_ret [] 1188 [] (k 1191 [.inr (29, 0), .inr (9, 0), .inr (10, 0), .inr (80, 0), .inl (.int x4), .inl (.int y0), x6]) (F35 [.inr (10, 0), .inl (.int (xs (Int32.toNatClampNeg (x4 + 1))))] M)
  else none := (rfl)
theorem eL_law_1179 {L : Nat} {xs : Nat → Int32} {n : Nat} {x4 : Int32} {x5 : am_V} {x6 : am_V} {y0 : Int32} {M : am_M} {res : am_O × am_M} (h : (if am_in (x4 + 1) L then
   am_ret [] 1188 [] (rL_law L xs n 1191 [.inr (29, 0), .inr (9, 0), .inr (10, 0), .inr (80, 0), .inl (.int x4), .inl (.int y0), x6]) (fX10_host [.inr (10, 0), .inl (.int (xs (Int32.toNatClampNeg (x4 + 1))))] M)
  else none) = some res) : rL_law L xs (n + 100) 1179 [.inr (29, 0), .inr (9, 0), .inr (10, 0), .inr (80, 0), .inl (.int x4), x5, x6] [.inl (.int y0)] M = some res := uL_law ((gL_law_1179 L xs fL_define fX10_define fL_curve fX10_curve fL_seal fX10_seal fL_rack fX10_rack fL_removeRack fX10_removeRack fL_reagent fX10_reagent fL_forbid fX10_forbid fL_order fX10_order fL_clock fX10_clock fL_light fX10_light fL_spoil fX10_spoil fX9_step fX10_step fL_state fX10_state fL_cuvette fX10_cuvette fL_volume fX10_volume fL_trend fX10_trend fL_rules fX10_rules fL_host fX10_host fL_took fX10_took (rL_law L xs n) x4 x5 x6 y0 M).trans h)
set_option maxRecDepth 20000 in
theorem gL_law_1235 (L : Nat) (xs : Nat → Int32) (F0 F1 F2 F3 F4 F5 F6 F7 F8 F9 F10 F11 F12 F13 F14 F15 F16 F17 F18 F19 F20 F21 F22 F23 F24 F25 F26 F27 F28 F29 F30 F31 F32 F33 F34 F35 F36 F37 : am_F) (k : Nat → List am_V → List am_V → am_M → am_R) (x4 : Int32) (x5 : am_V) (x6 : am_V) (y0 : Int32) (M : am_M) : gL_law L xs F0 F1 F2 F3 F4 F5 F6 F7 F8 F9 F10 F11 F12 F13 F14 F15 F16 F17 F18 F19 F20 F21 F22 F23 F24 F25 F26 F27 F28 F29 F30 F31 F32 F33 F34 F35 F36 F37 k 1235 [.inr (29, 0), .inr (9, 0), .inr (10, 0), .inr (80, 0), .inl (.int x4), x5, x6] [.inl (.int y0)] M =
  if am_in (x4 + 1) L then
   am_ret [] 1244 [] (k 1247 [.inr (29, 0), .inr (9, 0), .inr (10, 0), .inr (80, 0), .inl (.int x4), .inl (.int y0), x6]) (F37 [.inr (10, 0), .inl (.int (xs (Int32.toNatClampNeg (x4 + 1))))] M)
  else none := (rfl)
theorem eL_law_1235 {L : Nat} {xs : Nat → Int32} {n : Nat} {x4 : Int32} {x5 : am_V} {x6 : am_V} {y0 : Int32} {M : am_M} {res : am_O × am_M} (h : (if am_in (x4 + 1) L then
   am_ret [] 1244 [] (rL_law L xs n 1247 [.inr (29, 0), .inr (9, 0), .inr (10, 0), .inr (80, 0), .inl (.int x4), .inl (.int y0), x6]) (fX10_took [.inr (10, 0), .inl (.int (xs (Int32.toNatClampNeg (x4 + 1))))] M)
  else none) = some res) : rL_law L xs (n + 100) 1235 [.inr (29, 0), .inr (9, 0), .inr (10, 0), .inr (80, 0), .inl (.int x4), x5, x6] [.inl (.int y0)] M = some res := uL_law ((gL_law_1235 L xs fL_define fX10_define fL_curve fX10_curve fL_seal fX10_seal fL_rack fX10_rack fL_removeRack fX10_removeRack fL_reagent fX10_reagent fL_forbid fX10_forbid fL_order fX10_order fL_clock fX10_clock fL_light fX10_light fL_spoil fX10_spoil fX9_step fX10_step fL_state fX10_state fL_cuvette fX10_cuvette fL_volume fX10_volume fL_trend fX10_trend fL_rules fX10_rules fL_host fX10_host fL_took fX10_took (rL_law L xs n) x4 x5 x6 y0 M).trans h)
set_option maxRecDepth 20000 in
theorem gL_law_178 (L : Nat) (xs : Nat → Int32) (F0 F1 F2 F3 F4 F5 F6 F7 F8 F9 F10 F11 F12 F13 F14 F15 F16 F17 F18 F19 F20 F21 F22 F23 F24 F25 F26 F27 F28 F29 F30 F31 F32 F33 F34 F35 F36 F37 : am_F) (k : Nat → List am_V → List am_V → am_M → am_R) (x4 : Int32) (x5 : Int32) (x6 : am_V) (M : am_M) : gL_law L xs F0 F1 F2 F3 F4 F5 F6 F7 F8 F9 F10 F11 F12 F13 F14 F15 F16 F17 F18 F19 F20 F21 F22 F23 F24 F25 F26 F27 F28 F29 F30 F31 F32 F33 F34 F35 F36 F37 k 178 [.inr (29, 0), .inr (9, 0), .inr (10, 0), .inr (80, 0), .inl (.int x4), .inl (.int x5), x6] [] M =
  if (M 10 0 45) = x5 then
   k 1280 [.inr (29, 0), .inr (9, 0), .inr (10, 0), .inr (80, 0), .inl (.int x4), .inl (.int x5), x6] [] M
  else some (.inl (some (.inl (.int 0))), M) := (rfl)
theorem eL_law_178 {L : Nat} {xs : Nat → Int32} {n : Nat} {x4 : Int32} {x5 : Int32} {x6 : am_V} {M : am_M} {res : am_O × am_M} (h : (if (M 10 0 45) = x5 then
   rL_law L xs n 1280 [.inr (29, 0), .inr (9, 0), .inr (10, 0), .inr (80, 0), .inl (.int x4), .inl (.int x5), x6] [] M
  else some (.inl (some (.inl (.int 0))), M)) = some res) : rL_law L xs (n + 100) 178 [.inr (29, 0), .inr (9, 0), .inr (10, 0), .inr (80, 0), .inl (.int x4), .inl (.int x5), x6] [] M = some res := uL_law ((gL_law_178 L xs fL_define fX10_define fL_curve fX10_curve fL_seal fX10_seal fL_rack fX10_rack fL_removeRack fX10_removeRack fL_reagent fX10_reagent fL_forbid fX10_forbid fL_order fX10_order fL_clock fX10_clock fL_light fX10_light fL_spoil fX10_spoil fX9_step fX10_step fL_state fX10_state fL_cuvette fX10_cuvette fL_volume fX10_volume fL_trend fX10_trend fL_rules fX10_rules fL_host fX10_host fL_took fX10_took (rL_law L xs n) x4 x5 x6 M).trans h)
set_option maxRecDepth 20000 in
theorem gL_law_239 (L : Nat) (xs : Nat → Int32) (F0 F1 F2 F3 F4 F5 F6 F7 F8 F9 F10 F11 F12 F13 F14 F15 F16 F17 F18 F19 F20 F21 F22 F23 F24 F25 F26 F27 F28 F29 F30 F31 F32 F33 F34 F35 F36 F37 : am_F) (k : Nat → List am_V → List am_V → am_M → am_R) (x4 : Int32) (x5 : Int32) (x6 : am_V) (y0 : Int32) (M : am_M) : gL_law L xs F0 F1 F2 F3 F4 F5 F6 F7 F8 F9 F10 F11 F12 F13 F14 F15 F16 F17 F18 F19 F20 F21 F22 F23 F24 F25 F26 F27 F28 F29 F30 F31 F32 F33 F34 F35 F36 F37 k 239 [.inr (29, 0), .inr (9, 0), .inr (10, 0), .inr (80, 0), .inl (.int x4), .inl (.int x5), x6] [.inl (.int y0)] M =
  if (M 10 0 45) = x5 then
   if x5 = 0 then
    k 264 [.inr (29, 0), .inr (9, 0), .inr (10, 0), .inr (80, 0), .inl (.int x4), .inl (.int x5), .inl (.int y0)] [.inl (.int (lg_cmp (am_jn (M 80 0 (2 * (Int32.toNatClampNeg 0))) (M 80 0 (2 * (Int32.toNatClampNeg 0) + 1))) (Int32.toInt64 y0)))] M
   else k 1280 [.inr (29, 0), .inr (9, 0), .inr (10, 0), .inr (80, 0), .inl (.int x4), .inl (.int x5), .inl (.int y0)] [] M
  else some (.inl (some (.inl (.int 0))), M) := (rfl)
theorem eL_law_239 {L : Nat} {xs : Nat → Int32} {n : Nat} {x4 : Int32} {x5 : Int32} {x6 : am_V} {y0 : Int32} {M : am_M} {res : am_O × am_M} (h : (if (M 10 0 45) = x5 then
   if x5 = 0 then
    rL_law L xs n 264 [.inr (29, 0), .inr (9, 0), .inr (10, 0), .inr (80, 0), .inl (.int x4), .inl (.int x5), .inl (.int y0)] [.inl (.int (lg_cmp (am_jn (M 80 0 (2 * (Int32.toNatClampNeg 0))) (M 80 0 (2 * (Int32.toNatClampNeg 0) + 1))) (Int32.toInt64 y0)))] M
   else rL_law L xs n 1280 [.inr (29, 0), .inr (9, 0), .inr (10, 0), .inr (80, 0), .inl (.int x4), .inl (.int x5), .inl (.int y0)] [] M
  else some (.inl (some (.inl (.int 0))), M)) = some res) : rL_law L xs (n + 100) 239 [.inr (29, 0), .inr (9, 0), .inr (10, 0), .inr (80, 0), .inl (.int x4), .inl (.int x5), x6] [.inl (.int y0)] M = some res := uL_law ((gL_law_239 L xs fL_define fX10_define fL_curve fX10_curve fL_seal fX10_seal fL_rack fX10_rack fL_removeRack fX10_removeRack fL_reagent fX10_reagent fL_forbid fX10_forbid fL_order fX10_order fL_clock fX10_clock fL_light fX10_light fL_spoil fX10_spoil fX9_step fX10_step fL_state fX10_state fL_cuvette fX10_cuvette fL_volume fX10_volume fL_trend fX10_trend fL_rules fX10_rules fL_host fX10_host fL_took fX10_took (rL_law L xs n) x4 x5 x6 y0 M).trans h)
set_option maxRecDepth 20000 in
theorem gL_law_295 (L : Nat) (xs : Nat → Int32) (F0 F1 F2 F3 F4 F5 F6 F7 F8 F9 F10 F11 F12 F13 F14 F15 F16 F17 F18 F19 F20 F21 F22 F23 F24 F25 F26 F27 F28 F29 F30 F31 F32 F33 F34 F35 F36 F37 : am_F) (k : Nat → List am_V → List am_V → am_M → am_R) (x4 : Int32) (x5 : Int32) (x6 : am_V) (y0 : Int32) (M : am_M) : gL_law L xs F0 F1 F2 F3 F4 F5 F6 F7 F8 F9 F10 F11 F12 F13 F14 F15 F16 F17 F18 F19 F20 F21 F22 F23 F24 F25 F26 F27 F28 F29 F30 F31 F32 F33 F34 F35 F36 F37 k 295 [.inr (29, 0), .inr (9, 0), .inr (10, 0), .inr (80, 0), .inl (.int x4), .inl (.int x5), x6] [.inl (.int y0)] M =
  if (M 10 0 45) = x5 then
   if x5 = 0 then
    if y0 = 0 then
     k 327 [.inr (29, 0), .inr (9, 0), .inr (10, 0), .inr (80, 0), .inl (.int x4), .inl (.int x5), .inl (.int y0)] [.inl (.int (lg_cmp (am_jn (M 80 0 (2 * (Int32.toNatClampNeg 0))) (M 80 0 (2 * (Int32.toNatClampNeg 0) + 1))) 0))] M
    else k 327 [.inr (29, 0), .inr (9, 0), .inr (10, 0), .inr (80, 0), .inl (.int x4), .inl (.int x5), .inl (.int y0)] [.inl (.int (lg_cmp (am_jn (M 80 0 (2 * (Int32.toNatClampNeg 0))) (M 80 0 (2 * (Int32.toNatClampNeg 0) + 1))) 1))] M
   else k 1280 [.inr (29, 0), .inr (9, 0), .inr (10, 0), .inr (80, 0), .inl (.int x4), .inl (.int x5), .inl (.int y0)] [] M
  else some (.inl (some (.inl (.int 0))), M) := (rfl)
theorem eL_law_295 {L : Nat} {xs : Nat → Int32} {n : Nat} {x4 : Int32} {x5 : Int32} {x6 : am_V} {y0 : Int32} {M : am_M} {res : am_O × am_M} (h : (if (M 10 0 45) = x5 then
   if x5 = 0 then
    if y0 = 0 then
     rL_law L xs n 327 [.inr (29, 0), .inr (9, 0), .inr (10, 0), .inr (80, 0), .inl (.int x4), .inl (.int x5), .inl (.int y0)] [.inl (.int (lg_cmp (am_jn (M 80 0 (2 * (Int32.toNatClampNeg 0))) (M 80 0 (2 * (Int32.toNatClampNeg 0) + 1))) 0))] M
    else rL_law L xs n 327 [.inr (29, 0), .inr (9, 0), .inr (10, 0), .inr (80, 0), .inl (.int x4), .inl (.int x5), .inl (.int y0)] [.inl (.int (lg_cmp (am_jn (M 80 0 (2 * (Int32.toNatClampNeg 0))) (M 80 0 (2 * (Int32.toNatClampNeg 0) + 1))) 1))] M
   else rL_law L xs n 1280 [.inr (29, 0), .inr (9, 0), .inr (10, 0), .inr (80, 0), .inl (.int x4), .inl (.int x5), .inl (.int y0)] [] M
  else some (.inl (some (.inl (.int 0))), M)) = some res) : rL_law L xs (n + 100) 295 [.inr (29, 0), .inr (9, 0), .inr (10, 0), .inr (80, 0), .inl (.int x4), .inl (.int x5), x6] [.inl (.int y0)] M = some res := uL_law ((gL_law_295 L xs fL_define fX10_define fL_curve fX10_curve fL_seal fX10_seal fL_rack fX10_rack fL_removeRack fX10_removeRack fL_reagent fX10_reagent fL_forbid fX10_forbid fL_order fX10_order fL_clock fX10_clock fL_light fX10_light fL_spoil fX10_spoil fX9_step fX10_step fL_state fX10_state fL_cuvette fX10_cuvette fL_volume fX10_volume fL_trend fX10_trend fL_rules fX10_rules fL_host fX10_host fL_took fX10_took (rL_law L xs n) x4 x5 x6 y0 M).trans h)
set_option maxRecDepth 20000 in
theorem gL_law_393 (L : Nat) (xs : Nat → Int32) (F0 F1 F2 F3 F4 F5 F6 F7 F8 F9 F10 F11 F12 F13 F14 F15 F16 F17 F18 F19 F20 F21 F22 F23 F24 F25 F26 F27 F28 F29 F30 F31 F32 F33 F34 F35 F36 F37 : am_F) (k : Nat → List am_V → List am_V → am_M → am_R) (x4 : Int32) (x5 : Int32) (x6 : am_V) (M : am_M) : gL_law L xs F0 F1 F2 F3 F4 F5 F6 F7 F8 F9 F10 F11 F12 F13 F14 F15 F16 F17 F18 F19 F20 F21 F22 F23 F24 F25 F26 F27 F28 F29 F30 F31 F32 F33 F34 F35 F36 F37 k 393 [.inr (29, 0), .inr (9, 0), .inr (10, 0), .inr (80, 0), .inl (.int x4), .inl (.int x5), x6] [] M =
  if (M 10 0 45) = x5 then
   k 1280 [.inr (29, 0), .inr (9, 0), .inr (10, 0), .inr (80, 0), .inl (.int x4), .inl (.int x5), x6] [] M
  else some (.inl (some (.inl (.int 0))), M) := (rfl)
theorem eL_law_393 {L : Nat} {xs : Nat → Int32} {n : Nat} {x4 : Int32} {x5 : Int32} {x6 : am_V} {M : am_M} {res : am_O × am_M} (h : (if (M 10 0 45) = x5 then
   rL_law L xs n 1280 [.inr (29, 0), .inr (9, 0), .inr (10, 0), .inr (80, 0), .inl (.int x4), .inl (.int x5), x6] [] M
  else some (.inl (some (.inl (.int 0))), M)) = some res) : rL_law L xs (n + 100) 393 [.inr (29, 0), .inr (9, 0), .inr (10, 0), .inr (80, 0), .inl (.int x4), .inl (.int x5), x6] [] M = some res := uL_law ((gL_law_393 L xs fL_define fX10_define fL_curve fX10_curve fL_seal fX10_seal fL_rack fX10_rack fL_removeRack fX10_removeRack fL_reagent fX10_reagent fL_forbid fX10_forbid fL_order fX10_order fL_clock fX10_clock fL_light fX10_light fL_spoil fX10_spoil fX9_step fX10_step fL_state fX10_state fL_cuvette fX10_cuvette fL_volume fX10_volume fL_trend fX10_trend fL_rules fX10_rules fL_host fX10_host fL_took fX10_took (rL_law L xs n) x4 x5 x6 M).trans h)
set_option maxRecDepth 20000 in
theorem gL_law_430 (L : Nat) (xs : Nat → Int32) (F0 F1 F2 F3 F4 F5 F6 F7 F8 F9 F10 F11 F12 F13 F14 F15 F16 F17 F18 F19 F20 F21 F22 F23 F24 F25 F26 F27 F28 F29 F30 F31 F32 F33 F34 F35 F36 F37 : am_F) (k : Nat → List am_V → List am_V → am_M → am_R) (x4 : Int32) (x5 : Int32) (x6 : am_V) (y0 : Int32) (M : am_M) : gL_law L xs F0 F1 F2 F3 F4 F5 F6 F7 F8 F9 F10 F11 F12 F13 F14 F15 F16 F17 F18 F19 F20 F21 F22 F23 F24 F25 F26 F27 F28 F29 F30 F31 F32 F33 F34 F35 F36 F37 k 430 [.inr (29, 0), .inr (9, 0), .inr (10, 0), .inr (80, 0), .inl (.int x4), .inl (.int x5), x6] [.inl (.int y0)] M =
  if (M 10 0 45) = x5 then
   if x5 = 0 then
    k 455 [.inr (29, 0), .inr (9, 0), .inr (10, 0), .inr (80, 0), .inl (.int x4), .inl (.int x5), .inl (.int y0)] [.inl (.int (lg_cmp (am_jn (M 80 0 (2 * (Int32.toNatClampNeg 0))) (M 80 0 (2 * (Int32.toNatClampNeg 0) + 1))) (Int32.toInt64 y0)))] M
   else k 1280 [.inr (29, 0), .inr (9, 0), .inr (10, 0), .inr (80, 0), .inl (.int x4), .inl (.int x5), .inl (.int y0)] [] M
  else some (.inl (some (.inl (.int 0))), M) := (rfl)
theorem eL_law_430 {L : Nat} {xs : Nat → Int32} {n : Nat} {x4 : Int32} {x5 : Int32} {x6 : am_V} {y0 : Int32} {M : am_M} {res : am_O × am_M} (h : (if (M 10 0 45) = x5 then
   if x5 = 0 then
    rL_law L xs n 455 [.inr (29, 0), .inr (9, 0), .inr (10, 0), .inr (80, 0), .inl (.int x4), .inl (.int x5), .inl (.int y0)] [.inl (.int (lg_cmp (am_jn (M 80 0 (2 * (Int32.toNatClampNeg 0))) (M 80 0 (2 * (Int32.toNatClampNeg 0) + 1))) (Int32.toInt64 y0)))] M
   else rL_law L xs n 1280 [.inr (29, 0), .inr (9, 0), .inr (10, 0), .inr (80, 0), .inl (.int x4), .inl (.int x5), .inl (.int y0)] [] M
  else some (.inl (some (.inl (.int 0))), M)) = some res) : rL_law L xs (n + 100) 430 [.inr (29, 0), .inr (9, 0), .inr (10, 0), .inr (80, 0), .inl (.int x4), .inl (.int x5), x6] [.inl (.int y0)] M = some res := uL_law ((gL_law_430 L xs fL_define fX10_define fL_curve fX10_curve fL_seal fX10_seal fL_rack fX10_rack fL_removeRack fX10_removeRack fL_reagent fX10_reagent fL_forbid fX10_forbid fL_order fX10_order fL_clock fX10_clock fL_light fX10_light fL_spoil fX10_spoil fX9_step fX10_step fL_state fX10_state fL_cuvette fX10_cuvette fL_volume fX10_volume fL_trend fX10_trend fL_rules fX10_rules fL_host fX10_host fL_took fX10_took (rL_law L xs n) x4 x5 x6 y0 M).trans h)
set_option maxRecDepth 20000 in
theorem gL_law_521 (L : Nat) (xs : Nat → Int32) (F0 F1 F2 F3 F4 F5 F6 F7 F8 F9 F10 F11 F12 F13 F14 F15 F16 F17 F18 F19 F20 F21 F22 F23 F24 F25 F26 F27 F28 F29 F30 F31 F32 F33 F34 F35 F36 F37 : am_F) (k : Nat → List am_V → List am_V → am_M → am_R) (x4 : Int32) (x5 : Int32) (x6 : am_V) (M : am_M) : gL_law L xs F0 F1 F2 F3 F4 F5 F6 F7 F8 F9 F10 F11 F12 F13 F14 F15 F16 F17 F18 F19 F20 F21 F22 F23 F24 F25 F26 F27 F28 F29 F30 F31 F32 F33 F34 F35 F36 F37 k 521 [.inr (29, 0), .inr (9, 0), .inr (10, 0), .inr (80, 0), .inl (.int x4), .inl (.int x5), x6] [] M =
  if (M 10 0 45) = x5 then
   k 1280 [.inr (29, 0), .inr (9, 0), .inr (10, 0), .inr (80, 0), .inl (.int x4), .inl (.int x5), x6] [] M
  else some (.inl (some (.inl (.int 0))), M) := (rfl)
theorem eL_law_521 {L : Nat} {xs : Nat → Int32} {n : Nat} {x4 : Int32} {x5 : Int32} {x6 : am_V} {M : am_M} {res : am_O × am_M} (h : (if (M 10 0 45) = x5 then
   rL_law L xs n 1280 [.inr (29, 0), .inr (9, 0), .inr (10, 0), .inr (80, 0), .inl (.int x4), .inl (.int x5), x6] [] M
  else some (.inl (some (.inl (.int 0))), M)) = some res) : rL_law L xs (n + 100) 521 [.inr (29, 0), .inr (9, 0), .inr (10, 0), .inr (80, 0), .inl (.int x4), .inl (.int x5), x6] [] M = some res := uL_law ((gL_law_521 L xs fL_define fX10_define fL_curve fX10_curve fL_seal fX10_seal fL_rack fX10_rack fL_removeRack fX10_removeRack fL_reagent fX10_reagent fL_forbid fX10_forbid fL_order fX10_order fL_clock fX10_clock fL_light fX10_light fL_spoil fX10_spoil fX9_step fX10_step fL_state fX10_state fL_cuvette fX10_cuvette fL_volume fX10_volume fL_trend fX10_trend fL_rules fX10_rules fL_host fX10_host fL_took fX10_took (rL_law L xs n) x4 x5 x6 M).trans h)
set_option maxRecDepth 20000 in
theorem gL_law_570 (L : Nat) (xs : Nat → Int32) (F0 F1 F2 F3 F4 F5 F6 F7 F8 F9 F10 F11 F12 F13 F14 F15 F16 F17 F18 F19 F20 F21 F22 F23 F24 F25 F26 F27 F28 F29 F30 F31 F32 F33 F34 F35 F36 F37 : am_F) (k : Nat → List am_V → List am_V → am_M → am_R) (x4 : Int32) (x5 : Int32) (x6 : am_V) (y0 : Int32) (M : am_M) : gL_law L xs F0 F1 F2 F3 F4 F5 F6 F7 F8 F9 F10 F11 F12 F13 F14 F15 F16 F17 F18 F19 F20 F21 F22 F23 F24 F25 F26 F27 F28 F29 F30 F31 F32 F33 F34 F35 F36 F37 k 570 [.inr (29, 0), .inr (9, 0), .inr (10, 0), .inr (80, 0), .inl (.int x4), .inl (.int x5), x6] [.inl (.int y0)] M =
  if (M 10 0 45) = x5 then
   if x5 = 0 then
    if y0 = 0 then
     k 602 [.inr (29, 0), .inr (9, 0), .inr (10, 0), .inr (80, 0), .inl (.int x4), .inl (.int x5), .inl (.int y0)] [.inl (.int (lg_cmp (am_jn (M 80 0 (2 * (Int32.toNatClampNeg 0))) (M 80 0 (2 * (Int32.toNatClampNeg 0) + 1))) 0))] M
    else k 602 [.inr (29, 0), .inr (9, 0), .inr (10, 0), .inr (80, 0), .inl (.int x4), .inl (.int x5), .inl (.int y0)] [.inl (.int (lg_cmp (am_jn (M 80 0 (2 * (Int32.toNatClampNeg 0))) (M 80 0 (2 * (Int32.toNatClampNeg 0) + 1))) 1))] M
   else k 1280 [.inr (29, 0), .inr (9, 0), .inr (10, 0), .inr (80, 0), .inl (.int x4), .inl (.int x5), .inl (.int y0)] [] M
  else some (.inl (some (.inl (.int 0))), M) := (rfl)
theorem eL_law_570 {L : Nat} {xs : Nat → Int32} {n : Nat} {x4 : Int32} {x5 : Int32} {x6 : am_V} {y0 : Int32} {M : am_M} {res : am_O × am_M} (h : (if (M 10 0 45) = x5 then
   if x5 = 0 then
    if y0 = 0 then
     rL_law L xs n 602 [.inr (29, 0), .inr (9, 0), .inr (10, 0), .inr (80, 0), .inl (.int x4), .inl (.int x5), .inl (.int y0)] [.inl (.int (lg_cmp (am_jn (M 80 0 (2 * (Int32.toNatClampNeg 0))) (M 80 0 (2 * (Int32.toNatClampNeg 0) + 1))) 0))] M
    else rL_law L xs n 602 [.inr (29, 0), .inr (9, 0), .inr (10, 0), .inr (80, 0), .inl (.int x4), .inl (.int x5), .inl (.int y0)] [.inl (.int (lg_cmp (am_jn (M 80 0 (2 * (Int32.toNatClampNeg 0))) (M 80 0 (2 * (Int32.toNatClampNeg 0) + 1))) 1))] M
   else rL_law L xs n 1280 [.inr (29, 0), .inr (9, 0), .inr (10, 0), .inr (80, 0), .inl (.int x4), .inl (.int x5), .inl (.int y0)] [] M
  else some (.inl (some (.inl (.int 0))), M)) = some res) : rL_law L xs (n + 100) 570 [.inr (29, 0), .inr (9, 0), .inr (10, 0), .inr (80, 0), .inl (.int x4), .inl (.int x5), x6] [.inl (.int y0)] M = some res := uL_law ((gL_law_570 L xs fL_define fX10_define fL_curve fX10_curve fL_seal fX10_seal fL_rack fX10_rack fL_removeRack fX10_removeRack fL_reagent fX10_reagent fL_forbid fX10_forbid fL_order fX10_order fL_clock fX10_clock fL_light fX10_light fL_spoil fX10_spoil fX9_step fX10_step fL_state fX10_state fL_cuvette fX10_cuvette fL_volume fX10_volume fL_trend fX10_trend fL_rules fX10_rules fL_host fX10_host fL_took fX10_took (rL_law L xs n) x4 x5 x6 y0 M).trans h)
set_option maxRecDepth 20000 in
theorem gL_law_673 (L : Nat) (xs : Nat → Int32) (F0 F1 F2 F3 F4 F5 F6 F7 F8 F9 F10 F11 F12 F13 F14 F15 F16 F17 F18 F19 F20 F21 F22 F23 F24 F25 F26 F27 F28 F29 F30 F31 F32 F33 F34 F35 F36 F37 : am_F) (k : Nat → List am_V → List am_V → am_M → am_R) (x4 : Int32) (x5 : Int32) (x6 : am_V) (y0 : Int32) (M : am_M) : gL_law L xs F0 F1 F2 F3 F4 F5 F6 F7 F8 F9 F10 F11 F12 F13 F14 F15 F16 F17 F18 F19 F20 F21 F22 F23 F24 F25 F26 F27 F28 F29 F30 F31 F32 F33 F34 F35 F36 F37 k 673 [.inr (29, 0), .inr (9, 0), .inr (10, 0), .inr (80, 0), .inl (.int x4), .inl (.int x5), x6] [.inl (.int y0)] M =
  if (M 10 0 45) = x5 then
   if x5 = 0 then
    k 698 [.inr (29, 0), .inr (9, 0), .inr (10, 0), .inr (80, 0), .inl (.int x4), .inl (.int x5), .inl (.int y0)] [.inl (.int (lg_cmp (am_jn (M 80 0 (2 * (Int32.toNatClampNeg 0))) (M 80 0 (2 * (Int32.toNatClampNeg 0) + 1))) (Int32.toInt64 y0)))] M
   else k 1280 [.inr (29, 0), .inr (9, 0), .inr (10, 0), .inr (80, 0), .inl (.int x4), .inl (.int x5), .inl (.int y0)] [] M
  else some (.inl (some (.inl (.int 0))), M) := (rfl)
theorem eL_law_673 {L : Nat} {xs : Nat → Int32} {n : Nat} {x4 : Int32} {x5 : Int32} {x6 : am_V} {y0 : Int32} {M : am_M} {res : am_O × am_M} (h : (if (M 10 0 45) = x5 then
   if x5 = 0 then
    rL_law L xs n 698 [.inr (29, 0), .inr (9, 0), .inr (10, 0), .inr (80, 0), .inl (.int x4), .inl (.int x5), .inl (.int y0)] [.inl (.int (lg_cmp (am_jn (M 80 0 (2 * (Int32.toNatClampNeg 0))) (M 80 0 (2 * (Int32.toNatClampNeg 0) + 1))) (Int32.toInt64 y0)))] M
   else rL_law L xs n 1280 [.inr (29, 0), .inr (9, 0), .inr (10, 0), .inr (80, 0), .inl (.int x4), .inl (.int x5), .inl (.int y0)] [] M
  else some (.inl (some (.inl (.int 0))), M)) = some res) : rL_law L xs (n + 100) 673 [.inr (29, 0), .inr (9, 0), .inr (10, 0), .inr (80, 0), .inl (.int x4), .inl (.int x5), x6] [.inl (.int y0)] M = some res := uL_law ((gL_law_673 L xs fL_define fX10_define fL_curve fX10_curve fL_seal fX10_seal fL_rack fX10_rack fL_removeRack fX10_removeRack fL_reagent fX10_reagent fL_forbid fX10_forbid fL_order fX10_order fL_clock fX10_clock fL_light fX10_light fL_spoil fX10_spoil fX9_step fX10_step fL_state fX10_state fL_cuvette fX10_cuvette fL_volume fX10_volume fL_trend fX10_trend fL_rules fX10_rules fL_host fX10_host fL_took fX10_took (rL_law L xs n) x4 x5 x6 y0 M).trans h)
set_option maxRecDepth 20000 in
theorem gL_law_728 (L : Nat) (xs : Nat → Int32) (F0 F1 F2 F3 F4 F5 F6 F7 F8 F9 F10 F11 F12 F13 F14 F15 F16 F17 F18 F19 F20 F21 F22 F23 F24 F25 F26 F27 F28 F29 F30 F31 F32 F33 F34 F35 F36 F37 : am_F) (k : Nat → List am_V → List am_V → am_M → am_R) (x4 : Int32) (x5 : Int32) (x6 : am_V) (M : am_M) : gL_law L xs F0 F1 F2 F3 F4 F5 F6 F7 F8 F9 F10 F11 F12 F13 F14 F15 F16 F17 F18 F19 F20 F21 F22 F23 F24 F25 F26 F27 F28 F29 F30 F31 F32 F33 F34 F35 F36 F37 k 728 [.inr (29, 0), .inr (9, 0), .inr (10, 0), .inr (80, 0), .inl (.int x4), .inl (.int x5), x6] [] M =
  if (M 10 0 45) = x5 then
   k 1280 [.inr (29, 0), .inr (9, 0), .inr (10, 0), .inr (80, 0), .inl (.int x4), .inl (.int x5), x6] [] M
  else some (.inl (some (.inl (.int 0))), M) := (rfl)
theorem eL_law_728 {L : Nat} {xs : Nat → Int32} {n : Nat} {x4 : Int32} {x5 : Int32} {x6 : am_V} {M : am_M} {res : am_O × am_M} (h : (if (M 10 0 45) = x5 then
   rL_law L xs n 1280 [.inr (29, 0), .inr (9, 0), .inr (10, 0), .inr (80, 0), .inl (.int x4), .inl (.int x5), x6] [] M
  else some (.inl (some (.inl (.int 0))), M)) = some res) : rL_law L xs (n + 100) 728 [.inr (29, 0), .inr (9, 0), .inr (10, 0), .inr (80, 0), .inl (.int x4), .inl (.int x5), x6] [] M = some res := uL_law ((gL_law_728 L xs fL_define fX10_define fL_curve fX10_curve fL_seal fX10_seal fL_rack fX10_rack fL_removeRack fX10_removeRack fL_reagent fX10_reagent fL_forbid fX10_forbid fL_order fX10_order fL_clock fX10_clock fL_light fX10_light fL_spoil fX10_spoil fX9_step fX10_step fL_state fX10_state fL_cuvette fX10_cuvette fL_volume fX10_volume fL_trend fX10_trend fL_rules fX10_rules fL_host fX10_host fL_took fX10_took (rL_law L xs n) x4 x5 x6 M).trans h)
set_option maxRecDepth 20000 in
theorem gL_law_764 (L : Nat) (xs : Nat → Int32) (F0 F1 F2 F3 F4 F5 F6 F7 F8 F9 F10 F11 F12 F13 F14 F15 F16 F17 F18 F19 F20 F21 F22 F23 F24 F25 F26 F27 F28 F29 F30 F31 F32 F33 F34 F35 F36 F37 : am_F) (k : Nat → List am_V → List am_V → am_M → am_R) (x4 : Int32) (x5 : Int32) (x6 : am_V) (M : am_M) : gL_law L xs F0 F1 F2 F3 F4 F5 F6 F7 F8 F9 F10 F11 F12 F13 F14 F15 F16 F17 F18 F19 F20 F21 F22 F23 F24 F25 F26 F27 F28 F29 F30 F31 F32 F33 F34 F35 F36 F37 k 764 [.inr (29, 0), .inr (9, 0), .inr (10, 0), .inr (80, 0), .inl (.int x4), .inl (.int x5), x6] [] M =
  if (M 10 0 45) = x5 then
   k 1280 [.inr (29, 0), .inr (9, 0), .inr (10, 0), .inr (80, 0), .inl (.int x4), .inl (.int x5), x6] [] M
  else some (.inl (some (.inl (.int 0))), M) := (rfl)
theorem eL_law_764 {L : Nat} {xs : Nat → Int32} {n : Nat} {x4 : Int32} {x5 : Int32} {x6 : am_V} {M : am_M} {res : am_O × am_M} (h : (if (M 10 0 45) = x5 then
   rL_law L xs n 1280 [.inr (29, 0), .inr (9, 0), .inr (10, 0), .inr (80, 0), .inl (.int x4), .inl (.int x5), x6] [] M
  else some (.inl (some (.inl (.int 0))), M)) = some res) : rL_law L xs (n + 100) 764 [.inr (29, 0), .inr (9, 0), .inr (10, 0), .inr (80, 0), .inl (.int x4), .inl (.int x5), x6] [] M = some res := uL_law ((gL_law_764 L xs fL_define fX10_define fL_curve fX10_curve fL_seal fX10_seal fL_rack fX10_rack fL_removeRack fX10_removeRack fL_reagent fX10_reagent fL_forbid fX10_forbid fL_order fX10_order fL_clock fX10_clock fL_light fX10_light fL_spoil fX10_spoil fX9_step fX10_step fL_state fX10_state fL_cuvette fX10_cuvette fL_volume fX10_volume fL_trend fX10_trend fL_rules fX10_rules fL_host fX10_host fL_took fX10_took (rL_law L xs n) x4 x5 x6 M).trans h)
set_option maxRecDepth 20000 in
theorem gL_law_800 (L : Nat) (xs : Nat → Int32) (F0 F1 F2 F3 F4 F5 F6 F7 F8 F9 F10 F11 F12 F13 F14 F15 F16 F17 F18 F19 F20 F21 F22 F23 F24 F25 F26 F27 F28 F29 F30 F31 F32 F33 F34 F35 F36 F37 : am_F) (k : Nat → List am_V → List am_V → am_M → am_R) (x4 : Int32) (x5 : Int32) (x6 : am_V) (M : am_M) : gL_law L xs F0 F1 F2 F3 F4 F5 F6 F7 F8 F9 F10 F11 F12 F13 F14 F15 F16 F17 F18 F19 F20 F21 F22 F23 F24 F25 F26 F27 F28 F29 F30 F31 F32 F33 F34 F35 F36 F37 k 800 [.inr (29, 0), .inr (9, 0), .inr (10, 0), .inr (80, 0), .inl (.int x4), .inl (.int x5), x6] [] M =
  if (M 10 0 45) = x5 then
   k 1280 [.inr (29, 0), .inr (9, 0), .inr (10, 0), .inr (80, 0), .inl (.int x4), .inl (.int x5), x6] [] M
  else some (.inl (some (.inl (.int 0))), M) := (rfl)
theorem eL_law_800 {L : Nat} {xs : Nat → Int32} {n : Nat} {x4 : Int32} {x5 : Int32} {x6 : am_V} {M : am_M} {res : am_O × am_M} (h : (if (M 10 0 45) = x5 then
   rL_law L xs n 1280 [.inr (29, 0), .inr (9, 0), .inr (10, 0), .inr (80, 0), .inl (.int x4), .inl (.int x5), x6] [] M
  else some (.inl (some (.inl (.int 0))), M)) = some res) : rL_law L xs (n + 100) 800 [.inr (29, 0), .inr (9, 0), .inr (10, 0), .inr (80, 0), .inl (.int x4), .inl (.int x5), x6] [] M = some res := uL_law ((gL_law_800 L xs fL_define fX10_define fL_curve fX10_curve fL_seal fX10_seal fL_rack fX10_rack fL_removeRack fX10_removeRack fL_reagent fX10_reagent fL_forbid fX10_forbid fL_order fX10_order fL_clock fX10_clock fL_light fX10_light fL_spoil fX10_spoil fX9_step fX10_step fL_state fX10_state fL_cuvette fX10_cuvette fL_volume fX10_volume fL_trend fX10_trend fL_rules fX10_rules fL_host fX10_host fL_took fX10_took (rL_law L xs n) x4 x5 x6 M).trans h)
set_option maxRecDepth 20000 in
theorem gL_law_822 (L : Nat) (xs : Nat → Int32) (F0 F1 F2 F3 F4 F5 F6 F7 F8 F9 F10 F11 F12 F13 F14 F15 F16 F17 F18 F19 F20 F21 F22 F23 F24 F25 F26 F27 F28 F29 F30 F31 F32 F33 F34 F35 F36 F37 : am_F) (k : Nat → List am_V → List am_V → am_M → am_R) (x4 : Int32) (x5 : am_V) (x6 : am_V) (y0 : Int32) (y1 : Int32) (M : am_M) : gL_law L xs F0 F1 F2 F3 F4 F5 F6 F7 F8 F9 F10 F11 F12 F13 F14 F15 F16 F17 F18 F19 F20 F21 F22 F23 F24 F25 F26 F27 F28 F29 F30 F31 F32 F33 F34 F35 F36 F37 k 822 [.inr (29, 0), .inr (9, 0), .inr (10, 0), .inr (80, 0), .inl (.int x4), x5, x6] [.inl (.int y0), .inl (.int y1)] M =
  if y1 = y0 then
   k 1280 [.inr (29, 0), .inr (9, 0), .inr (10, 0), .inr (80, 0), .inl (.int x4), x5, x6] [] M
  else some (.inl (some (.inl (.int 0))), M) := (rfl)
theorem eL_law_822 {L : Nat} {xs : Nat → Int32} {n : Nat} {x4 : Int32} {x5 : am_V} {x6 : am_V} {y0 : Int32} {y1 : Int32} {M : am_M} {res : am_O × am_M} (h : (if y1 = y0 then
   rL_law L xs n 1280 [.inr (29, 0), .inr (9, 0), .inr (10, 0), .inr (80, 0), .inl (.int x4), x5, x6] [] M
  else some (.inl (some (.inl (.int 0))), M)) = some res) : rL_law L xs (n + 100) 822 [.inr (29, 0), .inr (9, 0), .inr (10, 0), .inr (80, 0), .inl (.int x4), x5, x6] [.inl (.int y0), .inl (.int y1)] M = some res := uL_law ((gL_law_822 L xs fL_define fX10_define fL_curve fX10_curve fL_seal fX10_seal fL_rack fX10_rack fL_removeRack fX10_removeRack fL_reagent fX10_reagent fL_forbid fX10_forbid fL_order fX10_order fL_clock fX10_clock fL_light fX10_light fL_spoil fX10_spoil fX9_step fX10_step fL_state fX10_state fL_cuvette fX10_cuvette fL_volume fX10_volume fL_trend fX10_trend fL_rules fX10_rules fL_host fX10_host fL_took fX10_took (rL_law L xs n) x4 x5 x6 y0 y1 M).trans h)
set_option maxRecDepth 20000 in
theorem gL_law_875 (L : Nat) (xs : Nat → Int32) (F0 F1 F2 F3 F4 F5 F6 F7 F8 F9 F10 F11 F12 F13 F14 F15 F16 F17 F18 F19 F20 F21 F22 F23 F24 F25 F26 F27 F28 F29 F30 F31 F32 F33 F34 F35 F36 F37 : am_F) (k : Nat → List am_V → List am_V → am_M → am_R) (x4 : Int32) (x5 : Int32) (x6 : am_V) (y0 : Int32) (M : am_M) : gL_law L xs F0 F1 F2 F3 F4 F5 F6 F7 F8 F9 F10 F11 F12 F13 F14 F15 F16 F17 F18 F19 F20 F21 F22 F23 F24 F25 F26 F27 F28 F29 F30 F31 F32 F33 F34 F35 F36 F37 k 875 [.inr (29, 0), .inr (9, 0), .inr (10, 0), .inr (80, 0), .inl (.int x4), .inl (.int x5), x6] [.inl (.int y0)] M =
  if (M 10 0 45) = x5 then
   if x5 = 0 then
    k 900 [.inr (29, 0), .inr (9, 0), .inr (10, 0), .inr (80, 0), .inl (.int x4), .inl (.int x5), .inl (.int y0)] [.inl (.int (lg_cmp (am_jn (M 80 0 (2 * (Int32.toNatClampNeg 0))) (M 80 0 (2 * (Int32.toNatClampNeg 0) + 1))) (Int32.toInt64 y0)))] M
   else k 1280 [.inr (29, 0), .inr (9, 0), .inr (10, 0), .inr (80, 0), .inl (.int x4), .inl (.int x5), .inl (.int y0)] [] M
  else some (.inl (some (.inl (.int 0))), M) := (rfl)
theorem eL_law_875 {L : Nat} {xs : Nat → Int32} {n : Nat} {x4 : Int32} {x5 : Int32} {x6 : am_V} {y0 : Int32} {M : am_M} {res : am_O × am_M} (h : (if (M 10 0 45) = x5 then
   if x5 = 0 then
    rL_law L xs n 900 [.inr (29, 0), .inr (9, 0), .inr (10, 0), .inr (80, 0), .inl (.int x4), .inl (.int x5), .inl (.int y0)] [.inl (.int (lg_cmp (am_jn (M 80 0 (2 * (Int32.toNatClampNeg 0))) (M 80 0 (2 * (Int32.toNatClampNeg 0) + 1))) (Int32.toInt64 y0)))] M
   else rL_law L xs n 1280 [.inr (29, 0), .inr (9, 0), .inr (10, 0), .inr (80, 0), .inl (.int x4), .inl (.int x5), .inl (.int y0)] [] M
  else some (.inl (some (.inl (.int 0))), M)) = some res) : rL_law L xs (n + 100) 875 [.inr (29, 0), .inr (9, 0), .inr (10, 0), .inr (80, 0), .inl (.int x4), .inl (.int x5), x6] [.inl (.int y0)] M = some res := uL_law ((gL_law_875 L xs fL_define fX10_define fL_curve fX10_curve fL_seal fX10_seal fL_rack fX10_rack fL_removeRack fX10_removeRack fL_reagent fX10_reagent fL_forbid fX10_forbid fL_order fX10_order fL_clock fX10_clock fL_light fX10_light fL_spoil fX10_spoil fX9_step fX10_step fL_state fX10_state fL_cuvette fX10_cuvette fL_volume fX10_volume fL_trend fX10_trend fL_rules fX10_rules fL_host fX10_host fL_took fX10_took (rL_law L xs n) x4 x5 x6 y0 M).trans h)
set_option maxRecDepth 20000 in
theorem gL_law_943 (L : Nat) (xs : Nat → Int32) (F0 F1 F2 F3 F4 F5 F6 F7 F8 F9 F10 F11 F12 F13 F14 F15 F16 F17 F18 F19 F20 F21 F22 F23 F24 F25 F26 F27 F28 F29 F30 F31 F32 F33 F34 F35 F36 F37 : am_F) (k : Nat → List am_V → List am_V → am_M → am_R) (x4 : Int32) (x5 : Int32) (x6 : am_V) (y0 : Int32) (M : am_M) : gL_law L xs F0 F1 F2 F3 F4 F5 F6 F7 F8 F9 F10 F11 F12 F13 F14 F15 F16 F17 F18 F19 F20 F21 F22 F23 F24 F25 F26 F27 F28 F29 F30 F31 F32 F33 F34 F35 F36 F37 k 943 [.inr (29, 0), .inr (9, 0), .inr (10, 0), .inr (80, 0), .inl (.int x4), .inl (.int x5), x6] [.inl (.int y0)] M =
  if (M 10 0 45) = x5 then
   if x5 = 0 then
    k 968 [.inr (29, 0), .inr (9, 0), .inr (10, 0), .inr (80, 0), .inl (.int x4), .inl (.int x5), .inl (.int y0)] [.inl (.int (lg_cmp (am_jn (M 80 0 (2 * (Int32.toNatClampNeg 0))) (M 80 0 (2 * (Int32.toNatClampNeg 0) + 1))) (Int32.toInt64 y0)))] M
   else k 1280 [.inr (29, 0), .inr (9, 0), .inr (10, 0), .inr (80, 0), .inl (.int x4), .inl (.int x5), .inl (.int y0)] [] M
  else some (.inl (some (.inl (.int 0))), M) := (rfl)
theorem eL_law_943 {L : Nat} {xs : Nat → Int32} {n : Nat} {x4 : Int32} {x5 : Int32} {x6 : am_V} {y0 : Int32} {M : am_M} {res : am_O × am_M} (h : (if (M 10 0 45) = x5 then
   if x5 = 0 then
    rL_law L xs n 968 [.inr (29, 0), .inr (9, 0), .inr (10, 0), .inr (80, 0), .inl (.int x4), .inl (.int x5), .inl (.int y0)] [.inl (.int (lg_cmp (am_jn (M 80 0 (2 * (Int32.toNatClampNeg 0))) (M 80 0 (2 * (Int32.toNatClampNeg 0) + 1))) (Int32.toInt64 y0)))] M
   else rL_law L xs n 1280 [.inr (29, 0), .inr (9, 0), .inr (10, 0), .inr (80, 0), .inl (.int x4), .inl (.int x5), .inl (.int y0)] [] M
  else some (.inl (some (.inl (.int 0))), M)) = some res) : rL_law L xs (n + 100) 943 [.inr (29, 0), .inr (9, 0), .inr (10, 0), .inr (80, 0), .inl (.int x4), .inl (.int x5), x6] [.inl (.int y0)] M = some res := uL_law ((gL_law_943 L xs fL_define fX10_define fL_curve fX10_curve fL_seal fX10_seal fL_rack fX10_rack fL_removeRack fX10_removeRack fL_reagent fX10_reagent fL_forbid fX10_forbid fL_order fX10_order fL_clock fX10_clock fL_light fX10_light fL_spoil fX10_spoil fX9_step fX10_step fL_state fX10_state fL_cuvette fX10_cuvette fL_volume fX10_volume fL_trend fX10_trend fL_rules fX10_rules fL_host fX10_host fL_took fX10_took (rL_law L xs n) x4 x5 x6 y0 M).trans h)
set_option maxRecDepth 20000 in
theorem gL_law_1011 (L : Nat) (xs : Nat → Int32) (F0 F1 F2 F3 F4 F5 F6 F7 F8 F9 F10 F11 F12 F13 F14 F15 F16 F17 F18 F19 F20 F21 F22 F23 F24 F25 F26 F27 F28 F29 F30 F31 F32 F33 F34 F35 F36 F37 : am_F) (k : Nat → List am_V → List am_V → am_M → am_R) (x4 : Int32) (x5 : Int32) (x6 : am_V) (y0 : Int32) (M : am_M) : gL_law L xs F0 F1 F2 F3 F4 F5 F6 F7 F8 F9 F10 F11 F12 F13 F14 F15 F16 F17 F18 F19 F20 F21 F22 F23 F24 F25 F26 F27 F28 F29 F30 F31 F32 F33 F34 F35 F36 F37 k 1011 [.inr (29, 0), .inr (9, 0), .inr (10, 0), .inr (80, 0), .inl (.int x4), .inl (.int x5), x6] [.inl (.int y0)] M =
  if (M 10 0 45) = x5 then
   if x5 = 0 then
    k 1036 [.inr (29, 0), .inr (9, 0), .inr (10, 0), .inr (80, 0), .inl (.int x4), .inl (.int x5), .inl (.int y0)] [.inl (.int (lg_cmp (am_jn (M 80 0 (2 * (Int32.toNatClampNeg 0))) (M 80 0 (2 * (Int32.toNatClampNeg 0) + 1))) (Int32.toInt64 y0)))] M
   else k 1280 [.inr (29, 0), .inr (9, 0), .inr (10, 0), .inr (80, 0), .inl (.int x4), .inl (.int x5), .inl (.int y0)] [] M
  else some (.inl (some (.inl (.int 0))), M) := (rfl)
theorem eL_law_1011 {L : Nat} {xs : Nat → Int32} {n : Nat} {x4 : Int32} {x5 : Int32} {x6 : am_V} {y0 : Int32} {M : am_M} {res : am_O × am_M} (h : (if (M 10 0 45) = x5 then
   if x5 = 0 then
    rL_law L xs n 1036 [.inr (29, 0), .inr (9, 0), .inr (10, 0), .inr (80, 0), .inl (.int x4), .inl (.int x5), .inl (.int y0)] [.inl (.int (lg_cmp (am_jn (M 80 0 (2 * (Int32.toNatClampNeg 0))) (M 80 0 (2 * (Int32.toNatClampNeg 0) + 1))) (Int32.toInt64 y0)))] M
   else rL_law L xs n 1280 [.inr (29, 0), .inr (9, 0), .inr (10, 0), .inr (80, 0), .inl (.int x4), .inl (.int x5), .inl (.int y0)] [] M
  else some (.inl (some (.inl (.int 0))), M)) = some res) : rL_law L xs (n + 100) 1011 [.inr (29, 0), .inr (9, 0), .inr (10, 0), .inr (80, 0), .inl (.int x4), .inl (.int x5), x6] [.inl (.int y0)] M = some res := uL_law ((gL_law_1011 L xs fL_define fX10_define fL_curve fX10_curve fL_seal fX10_seal fL_rack fX10_rack fL_removeRack fX10_removeRack fL_reagent fX10_reagent fL_forbid fX10_forbid fL_order fX10_order fL_clock fX10_clock fL_light fX10_light fL_spoil fX10_spoil fX9_step fX10_step fL_state fX10_state fL_cuvette fX10_cuvette fL_volume fX10_volume fL_trend fX10_trend fL_rules fX10_rules fL_host fX10_host fL_took fX10_took (rL_law L xs n) x4 x5 x6 y0 M).trans h)
set_option maxRecDepth 20000 in
theorem gL_law_1079 (L : Nat) (xs : Nat → Int32) (F0 F1 F2 F3 F4 F5 F6 F7 F8 F9 F10 F11 F12 F13 F14 F15 F16 F17 F18 F19 F20 F21 F22 F23 F24 F25 F26 F27 F28 F29 F30 F31 F32 F33 F34 F35 F36 F37 : am_F) (k : Nat → List am_V → List am_V → am_M → am_R) (x4 : Int32) (x5 : Int32) (x6 : am_V) (y0 : Int32) (M : am_M) : gL_law L xs F0 F1 F2 F3 F4 F5 F6 F7 F8 F9 F10 F11 F12 F13 F14 F15 F16 F17 F18 F19 F20 F21 F22 F23 F24 F25 F26 F27 F28 F29 F30 F31 F32 F33 F34 F35 F36 F37 k 1079 [.inr (29, 0), .inr (9, 0), .inr (10, 0), .inr (80, 0), .inl (.int x4), .inl (.int x5), x6] [.inl (.int y0)] M =
  if (M 10 0 45) = x5 then
   if x5 = 0 then
    k 1104 [.inr (29, 0), .inr (9, 0), .inr (10, 0), .inr (80, 0), .inl (.int x4), .inl (.int x5), .inl (.int y0)] [.inl (.int (lg_cmp (am_jn (M 80 0 (2 * (Int32.toNatClampNeg 0))) (M 80 0 (2 * (Int32.toNatClampNeg 0) + 1))) (Int32.toInt64 y0)))] M
   else k 1280 [.inr (29, 0), .inr (9, 0), .inr (10, 0), .inr (80, 0), .inl (.int x4), .inl (.int x5), .inl (.int y0)] [] M
  else some (.inl (some (.inl (.int 0))), M) := (rfl)
theorem eL_law_1079 {L : Nat} {xs : Nat → Int32} {n : Nat} {x4 : Int32} {x5 : Int32} {x6 : am_V} {y0 : Int32} {M : am_M} {res : am_O × am_M} (h : (if (M 10 0 45) = x5 then
   if x5 = 0 then
    rL_law L xs n 1104 [.inr (29, 0), .inr (9, 0), .inr (10, 0), .inr (80, 0), .inl (.int x4), .inl (.int x5), .inl (.int y0)] [.inl (.int (lg_cmp (am_jn (M 80 0 (2 * (Int32.toNatClampNeg 0))) (M 80 0 (2 * (Int32.toNatClampNeg 0) + 1))) (Int32.toInt64 y0)))] M
   else rL_law L xs n 1280 [.inr (29, 0), .inr (9, 0), .inr (10, 0), .inr (80, 0), .inl (.int x4), .inl (.int x5), .inl (.int y0)] [] M
  else some (.inl (some (.inl (.int 0))), M)) = some res) : rL_law L xs (n + 100) 1079 [.inr (29, 0), .inr (9, 0), .inr (10, 0), .inr (80, 0), .inl (.int x4), .inl (.int x5), x6] [.inl (.int y0)] M = some res := uL_law ((gL_law_1079 L xs fL_define fX10_define fL_curve fX10_curve fL_seal fX10_seal fL_rack fX10_rack fL_removeRack fX10_removeRack fL_reagent fX10_reagent fL_forbid fX10_forbid fL_order fX10_order fL_clock fX10_clock fL_light fX10_light fL_spoil fX10_spoil fX9_step fX10_step fL_state fX10_state fL_cuvette fX10_cuvette fL_volume fX10_volume fL_trend fX10_trend fL_rules fX10_rules fL_host fX10_host fL_took fX10_took (rL_law L xs n) x4 x5 x6 y0 M).trans h)
set_option maxRecDepth 20000 in
theorem gL_law_1135 (L : Nat) (xs : Nat → Int32) (F0 F1 F2 F3 F4 F5 F6 F7 F8 F9 F10 F11 F12 F13 F14 F15 F16 F17 F18 F19 F20 F21 F22 F23 F24 F25 F26 F27 F28 F29 F30 F31 F32 F33 F34 F35 F36 F37 : am_F) (k : Nat → List am_V → List am_V → am_M → am_R) (x4 : Int32) (x5 : Int32) (x6 : am_V) (y0 : Int32) (M : am_M) : gL_law L xs F0 F1 F2 F3 F4 F5 F6 F7 F8 F9 F10 F11 F12 F13 F14 F15 F16 F17 F18 F19 F20 F21 F22 F23 F24 F25 F26 F27 F28 F29 F30 F31 F32 F33 F34 F35 F36 F37 k 1135 [.inr (29, 0), .inr (9, 0), .inr (10, 0), .inr (80, 0), .inl (.int x4), .inl (.int x5), x6] [.inl (.int y0)] M =
  if (M 10 0 45) = x5 then
   if x5 = 0 then
    k 1160 [.inr (29, 0), .inr (9, 0), .inr (10, 0), .inr (80, 0), .inl (.int x4), .inl (.int x5), .inl (.int y0)] [.inl (.int (lg_cmp (am_jn (M 80 0 (2 * (Int32.toNatClampNeg 0))) (M 80 0 (2 * (Int32.toNatClampNeg 0) + 1))) (Int32.toInt64 y0)))] M
   else k 1280 [.inr (29, 0), .inr (9, 0), .inr (10, 0), .inr (80, 0), .inl (.int x4), .inl (.int x5), .inl (.int y0)] [] M
  else some (.inl (some (.inl (.int 0))), M) := (rfl)
theorem eL_law_1135 {L : Nat} {xs : Nat → Int32} {n : Nat} {x4 : Int32} {x5 : Int32} {x6 : am_V} {y0 : Int32} {M : am_M} {res : am_O × am_M} (h : (if (M 10 0 45) = x5 then
   if x5 = 0 then
    rL_law L xs n 1160 [.inr (29, 0), .inr (9, 0), .inr (10, 0), .inr (80, 0), .inl (.int x4), .inl (.int x5), .inl (.int y0)] [.inl (.int (lg_cmp (am_jn (M 80 0 (2 * (Int32.toNatClampNeg 0))) (M 80 0 (2 * (Int32.toNatClampNeg 0) + 1))) (Int32.toInt64 y0)))] M
   else rL_law L xs n 1280 [.inr (29, 0), .inr (9, 0), .inr (10, 0), .inr (80, 0), .inl (.int x4), .inl (.int x5), .inl (.int y0)] [] M
  else some (.inl (some (.inl (.int 0))), M)) = some res) : rL_law L xs (n + 100) 1135 [.inr (29, 0), .inr (9, 0), .inr (10, 0), .inr (80, 0), .inl (.int x4), .inl (.int x5), x6] [.inl (.int y0)] M = some res := uL_law ((gL_law_1135 L xs fL_define fX10_define fL_curve fX10_curve fL_seal fX10_seal fL_rack fX10_rack fL_removeRack fX10_removeRack fL_reagent fX10_reagent fL_forbid fX10_forbid fL_order fX10_order fL_clock fX10_clock fL_light fX10_light fL_spoil fX10_spoil fX9_step fX10_step fL_state fX10_state fL_cuvette fX10_cuvette fL_volume fX10_volume fL_trend fX10_trend fL_rules fX10_rules fL_host fX10_host fL_took fX10_took (rL_law L xs n) x4 x5 x6 y0 M).trans h)
set_option maxRecDepth 20000 in
theorem gL_law_1191 (L : Nat) (xs : Nat → Int32) (F0 F1 F2 F3 F4 F5 F6 F7 F8 F9 F10 F11 F12 F13 F14 F15 F16 F17 F18 F19 F20 F21 F22 F23 F24 F25 F26 F27 F28 F29 F30 F31 F32 F33 F34 F35 F36 F37 : am_F) (k : Nat → List am_V → List am_V → am_M → am_R) (x4 : Int32) (x5 : Int32) (x6 : am_V) (y0 : Int32) (M : am_M) : gL_law L xs F0 F1 F2 F3 F4 F5 F6 F7 F8 F9 F10 F11 F12 F13 F14 F15 F16 F17 F18 F19 F20 F21 F22 F23 F24 F25 F26 F27 F28 F29 F30 F31 F32 F33 F34 F35 F36 F37 k 1191 [.inr (29, 0), .inr (9, 0), .inr (10, 0), .inr (80, 0), .inl (.int x4), .inl (.int x5), x6] [.inl (.int y0)] M =
  if (M 10 0 45) = x5 then
   if x5 = 0 then
    k 1216 [.inr (29, 0), .inr (9, 0), .inr (10, 0), .inr (80, 0), .inl (.int x4), .inl (.int x5), .inl (.int y0)] [.inl (.int (lg_cmp (am_jn (M 80 0 (2 * (Int32.toNatClampNeg 0))) (M 80 0 (2 * (Int32.toNatClampNeg 0) + 1))) (Int32.toInt64 y0)))] M
   else k 1280 [.inr (29, 0), .inr (9, 0), .inr (10, 0), .inr (80, 0), .inl (.int x4), .inl (.int x5), .inl (.int y0)] [] M
  else some (.inl (some (.inl (.int 0))), M) := (rfl)
theorem eL_law_1191 {L : Nat} {xs : Nat → Int32} {n : Nat} {x4 : Int32} {x5 : Int32} {x6 : am_V} {y0 : Int32} {M : am_M} {res : am_O × am_M} (h : (if (M 10 0 45) = x5 then
   if x5 = 0 then
    rL_law L xs n 1216 [.inr (29, 0), .inr (9, 0), .inr (10, 0), .inr (80, 0), .inl (.int x4), .inl (.int x5), .inl (.int y0)] [.inl (.int (lg_cmp (am_jn (M 80 0 (2 * (Int32.toNatClampNeg 0))) (M 80 0 (2 * (Int32.toNatClampNeg 0) + 1))) (Int32.toInt64 y0)))] M
   else rL_law L xs n 1280 [.inr (29, 0), .inr (9, 0), .inr (10, 0), .inr (80, 0), .inl (.int x4), .inl (.int x5), .inl (.int y0)] [] M
  else some (.inl (some (.inl (.int 0))), M)) = some res) : rL_law L xs (n + 100) 1191 [.inr (29, 0), .inr (9, 0), .inr (10, 0), .inr (80, 0), .inl (.int x4), .inl (.int x5), x6] [.inl (.int y0)] M = some res := uL_law ((gL_law_1191 L xs fL_define fX10_define fL_curve fX10_curve fL_seal fX10_seal fL_rack fX10_rack fL_removeRack fX10_removeRack fL_reagent fX10_reagent fL_forbid fX10_forbid fL_order fX10_order fL_clock fX10_clock fL_light fX10_light fL_spoil fX10_spoil fX9_step fX10_step fL_state fX10_state fL_cuvette fX10_cuvette fL_volume fX10_volume fL_trend fX10_trend fL_rules fX10_rules fL_host fX10_host fL_took fX10_took (rL_law L xs n) x4 x5 x6 y0 M).trans h)
set_option maxRecDepth 20000 in
theorem gL_law_1247 (L : Nat) (xs : Nat → Int32) (F0 F1 F2 F3 F4 F5 F6 F7 F8 F9 F10 F11 F12 F13 F14 F15 F16 F17 F18 F19 F20 F21 F22 F23 F24 F25 F26 F27 F28 F29 F30 F31 F32 F33 F34 F35 F36 F37 : am_F) (k : Nat → List am_V → List am_V → am_M → am_R) (x4 : Int32) (x5 : Int32) (x6 : am_V) (y0 : Int32) (M : am_M) : gL_law L xs F0 F1 F2 F3 F4 F5 F6 F7 F8 F9 F10 F11 F12 F13 F14 F15 F16 F17 F18 F19 F20 F21 F22 F23 F24 F25 F26 F27 F28 F29 F30 F31 F32 F33 F34 F35 F36 F37 k 1247 [.inr (29, 0), .inr (9, 0), .inr (10, 0), .inr (80, 0), .inl (.int x4), .inl (.int x5), x6] [.inl (.int y0)] M =
  if (M 10 0 45) = x5 then
   if x5 = 0 then
    k 1272 [.inr (29, 0), .inr (9, 0), .inr (10, 0), .inr (80, 0), .inl (.int x4), .inl (.int x5), .inl (.int y0)] [.inl (.int (lg_cmp (am_jn (M 80 0 (2 * (Int32.toNatClampNeg 0))) (M 80 0 (2 * (Int32.toNatClampNeg 0) + 1))) (Int32.toInt64 y0)))] M
   else k 1280 [.inr (29, 0), .inr (9, 0), .inr (10, 0), .inr (80, 0), .inl (.int x4), .inl (.int x5), .inl (.int y0)] [] M
  else some (.inl (some (.inl (.int 0))), M) := (rfl)
theorem eL_law_1247 {L : Nat} {xs : Nat → Int32} {n : Nat} {x4 : Int32} {x5 : Int32} {x6 : am_V} {y0 : Int32} {M : am_M} {res : am_O × am_M} (h : (if (M 10 0 45) = x5 then
   if x5 = 0 then
    rL_law L xs n 1272 [.inr (29, 0), .inr (9, 0), .inr (10, 0), .inr (80, 0), .inl (.int x4), .inl (.int x5), .inl (.int y0)] [.inl (.int (lg_cmp (am_jn (M 80 0 (2 * (Int32.toNatClampNeg 0))) (M 80 0 (2 * (Int32.toNatClampNeg 0) + 1))) (Int32.toInt64 y0)))] M
   else rL_law L xs n 1280 [.inr (29, 0), .inr (9, 0), .inr (10, 0), .inr (80, 0), .inl (.int x4), .inl (.int x5), .inl (.int y0)] [] M
  else some (.inl (some (.inl (.int 0))), M)) = some res) : rL_law L xs (n + 100) 1247 [.inr (29, 0), .inr (9, 0), .inr (10, 0), .inr (80, 0), .inl (.int x4), .inl (.int x5), x6] [.inl (.int y0)] M = some res := uL_law ((gL_law_1247 L xs fL_define fX10_define fL_curve fX10_curve fL_seal fX10_seal fL_rack fX10_rack fL_removeRack fX10_removeRack fL_reagent fX10_reagent fL_forbid fX10_forbid fL_order fX10_order fL_clock fX10_clock fL_light fX10_light fL_spoil fX10_spoil fX9_step fX10_step fL_state fX10_state fL_cuvette fX10_cuvette fL_volume fX10_volume fL_trend fX10_trend fL_rules fX10_rules fL_host fX10_host fL_took fX10_took (rL_law L xs n) x4 x5 x6 y0 M).trans h)
set_option maxRecDepth 20000 in
theorem gL_law_264 (L : Nat) (xs : Nat → Int32) (F0 F1 F2 F3 F4 F5 F6 F7 F8 F9 F10 F11 F12 F13 F14 F15 F16 F17 F18 F19 F20 F21 F22 F23 F24 F25 F26 F27 F28 F29 F30 F31 F32 F33 F34 F35 F36 F37 : am_F) (k : Nat → List am_V → List am_V → am_M → am_R) (x4 : Int32) (x5 : am_V) (x6 : am_V) (y0 : Int32) (M : am_M) : gL_law L xs F0 F1 F2 F3 F4 F5 F6 F7 F8 F9 F10 F11 F12 F13 F14 F15 F16 F17 F18 F19 F20 F21 F22 F23 F24 F25 F26 F27 F28 F29 F30 F31 F32 F33 F34 F35 F36 F37 k 264 [.inr (29, 0), .inr (9, 0), .inr (10, 0), .inr (80, 0), .inl (.int x4), x5, x6] [.inl (.int y0)] M =
  if y0 = 0 then
   k 1280 [.inr (29, 0), .inr (9, 0), .inr (10, 0), .inr (80, 0), .inl (.int x4), x5, x6] [] M
  else some (.inl (some (.inl (.int 0))), M) := (rfl)
theorem eL_law_264 {L : Nat} {xs : Nat → Int32} {n : Nat} {x4 : Int32} {x5 : am_V} {x6 : am_V} {y0 : Int32} {M : am_M} {res : am_O × am_M} (h : (if y0 = 0 then
   rL_law L xs n 1280 [.inr (29, 0), .inr (9, 0), .inr (10, 0), .inr (80, 0), .inl (.int x4), x5, x6] [] M
  else some (.inl (some (.inl (.int 0))), M)) = some res) : rL_law L xs (n + 100) 264 [.inr (29, 0), .inr (9, 0), .inr (10, 0), .inr (80, 0), .inl (.int x4), x5, x6] [.inl (.int y0)] M = some res := uL_law ((gL_law_264 L xs fL_define fX10_define fL_curve fX10_curve fL_seal fX10_seal fL_rack fX10_rack fL_removeRack fX10_removeRack fL_reagent fX10_reagent fL_forbid fX10_forbid fL_order fX10_order fL_clock fX10_clock fL_light fX10_light fL_spoil fX10_spoil fX9_step fX10_step fL_state fX10_state fL_cuvette fX10_cuvette fL_volume fX10_volume fL_trend fX10_trend fL_rules fX10_rules fL_host fX10_host fL_took fX10_took (rL_law L xs n) x4 x5 x6 y0 M).trans h)
set_option maxRecDepth 20000 in
theorem gL_law_327 (L : Nat) (xs : Nat → Int32) (F0 F1 F2 F3 F4 F5 F6 F7 F8 F9 F10 F11 F12 F13 F14 F15 F16 F17 F18 F19 F20 F21 F22 F23 F24 F25 F26 F27 F28 F29 F30 F31 F32 F33 F34 F35 F36 F37 : am_F) (k : Nat → List am_V → List am_V → am_M → am_R) (x4 : Int32) (x5 : am_V) (x6 : am_V) (y0 : Int32) (M : am_M) : gL_law L xs F0 F1 F2 F3 F4 F5 F6 F7 F8 F9 F10 F11 F12 F13 F14 F15 F16 F17 F18 F19 F20 F21 F22 F23 F24 F25 F26 F27 F28 F29 F30 F31 F32 F33 F34 F35 F36 F37 k 327 [.inr (29, 0), .inr (9, 0), .inr (10, 0), .inr (80, 0), .inl (.int x4), x5, x6] [.inl (.int y0)] M =
  if y0 = 0 then
   k 1280 [.inr (29, 0), .inr (9, 0), .inr (10, 0), .inr (80, 0), .inl (.int x4), x5, x6] [] M
  else some (.inl (some (.inl (.int 0))), M) := (rfl)
theorem eL_law_327 {L : Nat} {xs : Nat → Int32} {n : Nat} {x4 : Int32} {x5 : am_V} {x6 : am_V} {y0 : Int32} {M : am_M} {res : am_O × am_M} (h : (if y0 = 0 then
   rL_law L xs n 1280 [.inr (29, 0), .inr (9, 0), .inr (10, 0), .inr (80, 0), .inl (.int x4), x5, x6] [] M
  else some (.inl (some (.inl (.int 0))), M)) = some res) : rL_law L xs (n + 100) 327 [.inr (29, 0), .inr (9, 0), .inr (10, 0), .inr (80, 0), .inl (.int x4), x5, x6] [.inl (.int y0)] M = some res := uL_law ((gL_law_327 L xs fL_define fX10_define fL_curve fX10_curve fL_seal fX10_seal fL_rack fX10_rack fL_removeRack fX10_removeRack fL_reagent fX10_reagent fL_forbid fX10_forbid fL_order fX10_order fL_clock fX10_clock fL_light fX10_light fL_spoil fX10_spoil fX9_step fX10_step fL_state fX10_state fL_cuvette fX10_cuvette fL_volume fX10_volume fL_trend fX10_trend fL_rules fX10_rules fL_host fX10_host fL_took fX10_took (rL_law L xs n) x4 x5 x6 y0 M).trans h)
set_option maxRecDepth 20000 in
theorem gL_law_455 (L : Nat) (xs : Nat → Int32) (F0 F1 F2 F3 F4 F5 F6 F7 F8 F9 F10 F11 F12 F13 F14 F15 F16 F17 F18 F19 F20 F21 F22 F23 F24 F25 F26 F27 F28 F29 F30 F31 F32 F33 F34 F35 F36 F37 : am_F) (k : Nat → List am_V → List am_V → am_M → am_R) (x4 : Int32) (x5 : am_V) (x6 : am_V) (y0 : Int32) (M : am_M) : gL_law L xs F0 F1 F2 F3 F4 F5 F6 F7 F8 F9 F10 F11 F12 F13 F14 F15 F16 F17 F18 F19 F20 F21 F22 F23 F24 F25 F26 F27 F28 F29 F30 F31 F32 F33 F34 F35 F36 F37 k 455 [.inr (29, 0), .inr (9, 0), .inr (10, 0), .inr (80, 0), .inl (.int x4), x5, x6] [.inl (.int y0)] M =
  if y0 = 0 then
   k 1280 [.inr (29, 0), .inr (9, 0), .inr (10, 0), .inr (80, 0), .inl (.int x4), x5, x6] [] M
  else some (.inl (some (.inl (.int 0))), M) := (rfl)
theorem eL_law_455 {L : Nat} {xs : Nat → Int32} {n : Nat} {x4 : Int32} {x5 : am_V} {x6 : am_V} {y0 : Int32} {M : am_M} {res : am_O × am_M} (h : (if y0 = 0 then
   rL_law L xs n 1280 [.inr (29, 0), .inr (9, 0), .inr (10, 0), .inr (80, 0), .inl (.int x4), x5, x6] [] M
  else some (.inl (some (.inl (.int 0))), M)) = some res) : rL_law L xs (n + 100) 455 [.inr (29, 0), .inr (9, 0), .inr (10, 0), .inr (80, 0), .inl (.int x4), x5, x6] [.inl (.int y0)] M = some res := uL_law ((gL_law_455 L xs fL_define fX10_define fL_curve fX10_curve fL_seal fX10_seal fL_rack fX10_rack fL_removeRack fX10_removeRack fL_reagent fX10_reagent fL_forbid fX10_forbid fL_order fX10_order fL_clock fX10_clock fL_light fX10_light fL_spoil fX10_spoil fX9_step fX10_step fL_state fX10_state fL_cuvette fX10_cuvette fL_volume fX10_volume fL_trend fX10_trend fL_rules fX10_rules fL_host fX10_host fL_took fX10_took (rL_law L xs n) x4 x5 x6 y0 M).trans h)
set_option maxRecDepth 20000 in
theorem gL_law_602 (L : Nat) (xs : Nat → Int32) (F0 F1 F2 F3 F4 F5 F6 F7 F8 F9 F10 F11 F12 F13 F14 F15 F16 F17 F18 F19 F20 F21 F22 F23 F24 F25 F26 F27 F28 F29 F30 F31 F32 F33 F34 F35 F36 F37 : am_F) (k : Nat → List am_V → List am_V → am_M → am_R) (x4 : Int32) (x5 : am_V) (x6 : am_V) (y0 : Int32) (M : am_M) : gL_law L xs F0 F1 F2 F3 F4 F5 F6 F7 F8 F9 F10 F11 F12 F13 F14 F15 F16 F17 F18 F19 F20 F21 F22 F23 F24 F25 F26 F27 F28 F29 F30 F31 F32 F33 F34 F35 F36 F37 k 602 [.inr (29, 0), .inr (9, 0), .inr (10, 0), .inr (80, 0), .inl (.int x4), x5, x6] [.inl (.int y0)] M =
  if y0 = 0 then
   k 1280 [.inr (29, 0), .inr (9, 0), .inr (10, 0), .inr (80, 0), .inl (.int x4), x5, x6] [] M
  else some (.inl (some (.inl (.int 0))), M) := (rfl)
theorem eL_law_602 {L : Nat} {xs : Nat → Int32} {n : Nat} {x4 : Int32} {x5 : am_V} {x6 : am_V} {y0 : Int32} {M : am_M} {res : am_O × am_M} (h : (if y0 = 0 then
   rL_law L xs n 1280 [.inr (29, 0), .inr (9, 0), .inr (10, 0), .inr (80, 0), .inl (.int x4), x5, x6] [] M
  else some (.inl (some (.inl (.int 0))), M)) = some res) : rL_law L xs (n + 100) 602 [.inr (29, 0), .inr (9, 0), .inr (10, 0), .inr (80, 0), .inl (.int x4), x5, x6] [.inl (.int y0)] M = some res := uL_law ((gL_law_602 L xs fL_define fX10_define fL_curve fX10_curve fL_seal fX10_seal fL_rack fX10_rack fL_removeRack fX10_removeRack fL_reagent fX10_reagent fL_forbid fX10_forbid fL_order fX10_order fL_clock fX10_clock fL_light fX10_light fL_spoil fX10_spoil fX9_step fX10_step fL_state fX10_state fL_cuvette fX10_cuvette fL_volume fX10_volume fL_trend fX10_trend fL_rules fX10_rules fL_host fX10_host fL_took fX10_took (rL_law L xs n) x4 x5 x6 y0 M).trans h)
set_option maxRecDepth 20000 in
theorem gL_law_698 (L : Nat) (xs : Nat → Int32) (F0 F1 F2 F3 F4 F5 F6 F7 F8 F9 F10 F11 F12 F13 F14 F15 F16 F17 F18 F19 F20 F21 F22 F23 F24 F25 F26 F27 F28 F29 F30 F31 F32 F33 F34 F35 F36 F37 : am_F) (k : Nat → List am_V → List am_V → am_M → am_R) (x4 : Int32) (x5 : am_V) (x6 : am_V) (y0 : Int32) (M : am_M) : gL_law L xs F0 F1 F2 F3 F4 F5 F6 F7 F8 F9 F10 F11 F12 F13 F14 F15 F16 F17 F18 F19 F20 F21 F22 F23 F24 F25 F26 F27 F28 F29 F30 F31 F32 F33 F34 F35 F36 F37 k 698 [.inr (29, 0), .inr (9, 0), .inr (10, 0), .inr (80, 0), .inl (.int x4), x5, x6] [.inl (.int y0)] M =
  if y0 = 0 then
   k 1280 [.inr (29, 0), .inr (9, 0), .inr (10, 0), .inr (80, 0), .inl (.int x4), x5, x6] [] M
  else some (.inl (some (.inl (.int 0))), M) := (rfl)
theorem eL_law_698 {L : Nat} {xs : Nat → Int32} {n : Nat} {x4 : Int32} {x5 : am_V} {x6 : am_V} {y0 : Int32} {M : am_M} {res : am_O × am_M} (h : (if y0 = 0 then
   rL_law L xs n 1280 [.inr (29, 0), .inr (9, 0), .inr (10, 0), .inr (80, 0), .inl (.int x4), x5, x6] [] M
  else some (.inl (some (.inl (.int 0))), M)) = some res) : rL_law L xs (n + 100) 698 [.inr (29, 0), .inr (9, 0), .inr (10, 0), .inr (80, 0), .inl (.int x4), x5, x6] [.inl (.int y0)] M = some res := uL_law ((gL_law_698 L xs fL_define fX10_define fL_curve fX10_curve fL_seal fX10_seal fL_rack fX10_rack fL_removeRack fX10_removeRack fL_reagent fX10_reagent fL_forbid fX10_forbid fL_order fX10_order fL_clock fX10_clock fL_light fX10_light fL_spoil fX10_spoil fX9_step fX10_step fL_state fX10_state fL_cuvette fX10_cuvette fL_volume fX10_volume fL_trend fX10_trend fL_rules fX10_rules fL_host fX10_host fL_took fX10_took (rL_law L xs n) x4 x5 x6 y0 M).trans h)
set_option maxRecDepth 20000 in
theorem gL_law_900 (L : Nat) (xs : Nat → Int32) (F0 F1 F2 F3 F4 F5 F6 F7 F8 F9 F10 F11 F12 F13 F14 F15 F16 F17 F18 F19 F20 F21 F22 F23 F24 F25 F26 F27 F28 F29 F30 F31 F32 F33 F34 F35 F36 F37 : am_F) (k : Nat → List am_V → List am_V → am_M → am_R) (x4 : Int32) (x5 : am_V) (x6 : am_V) (y0 : Int32) (M : am_M) : gL_law L xs F0 F1 F2 F3 F4 F5 F6 F7 F8 F9 F10 F11 F12 F13 F14 F15 F16 F17 F18 F19 F20 F21 F22 F23 F24 F25 F26 F27 F28 F29 F30 F31 F32 F33 F34 F35 F36 F37 k 900 [.inr (29, 0), .inr (9, 0), .inr (10, 0), .inr (80, 0), .inl (.int x4), x5, x6] [.inl (.int y0)] M =
  if y0 = 0 then
   k 1280 [.inr (29, 0), .inr (9, 0), .inr (10, 0), .inr (80, 0), .inl (.int x4), x5, x6] [] M
  else some (.inl (some (.inl (.int 0))), M) := (rfl)
theorem eL_law_900 {L : Nat} {xs : Nat → Int32} {n : Nat} {x4 : Int32} {x5 : am_V} {x6 : am_V} {y0 : Int32} {M : am_M} {res : am_O × am_M} (h : (if y0 = 0 then
   rL_law L xs n 1280 [.inr (29, 0), .inr (9, 0), .inr (10, 0), .inr (80, 0), .inl (.int x4), x5, x6] [] M
  else some (.inl (some (.inl (.int 0))), M)) = some res) : rL_law L xs (n + 100) 900 [.inr (29, 0), .inr (9, 0), .inr (10, 0), .inr (80, 0), .inl (.int x4), x5, x6] [.inl (.int y0)] M = some res := uL_law ((gL_law_900 L xs fL_define fX10_define fL_curve fX10_curve fL_seal fX10_seal fL_rack fX10_rack fL_removeRack fX10_removeRack fL_reagent fX10_reagent fL_forbid fX10_forbid fL_order fX10_order fL_clock fX10_clock fL_light fX10_light fL_spoil fX10_spoil fX9_step fX10_step fL_state fX10_state fL_cuvette fX10_cuvette fL_volume fX10_volume fL_trend fX10_trend fL_rules fX10_rules fL_host fX10_host fL_took fX10_took (rL_law L xs n) x4 x5 x6 y0 M).trans h)
set_option maxRecDepth 20000 in
theorem gL_law_968 (L : Nat) (xs : Nat → Int32) (F0 F1 F2 F3 F4 F5 F6 F7 F8 F9 F10 F11 F12 F13 F14 F15 F16 F17 F18 F19 F20 F21 F22 F23 F24 F25 F26 F27 F28 F29 F30 F31 F32 F33 F34 F35 F36 F37 : am_F) (k : Nat → List am_V → List am_V → am_M → am_R) (x4 : Int32) (x5 : am_V) (x6 : am_V) (y0 : Int32) (M : am_M) : gL_law L xs F0 F1 F2 F3 F4 F5 F6 F7 F8 F9 F10 F11 F12 F13 F14 F15 F16 F17 F18 F19 F20 F21 F22 F23 F24 F25 F26 F27 F28 F29 F30 F31 F32 F33 F34 F35 F36 F37 k 968 [.inr (29, 0), .inr (9, 0), .inr (10, 0), .inr (80, 0), .inl (.int x4), x5, x6] [.inl (.int y0)] M =
  if y0 = 0 then
   k 1280 [.inr (29, 0), .inr (9, 0), .inr (10, 0), .inr (80, 0), .inl (.int x4), x5, x6] [] M
  else some (.inl (some (.inl (.int 0))), M) := (rfl)
theorem eL_law_968 {L : Nat} {xs : Nat → Int32} {n : Nat} {x4 : Int32} {x5 : am_V} {x6 : am_V} {y0 : Int32} {M : am_M} {res : am_O × am_M} (h : (if y0 = 0 then
   rL_law L xs n 1280 [.inr (29, 0), .inr (9, 0), .inr (10, 0), .inr (80, 0), .inl (.int x4), x5, x6] [] M
  else some (.inl (some (.inl (.int 0))), M)) = some res) : rL_law L xs (n + 100) 968 [.inr (29, 0), .inr (9, 0), .inr (10, 0), .inr (80, 0), .inl (.int x4), x5, x6] [.inl (.int y0)] M = some res := uL_law ((gL_law_968 L xs fL_define fX10_define fL_curve fX10_curve fL_seal fX10_seal fL_rack fX10_rack fL_removeRack fX10_removeRack fL_reagent fX10_reagent fL_forbid fX10_forbid fL_order fX10_order fL_clock fX10_clock fL_light fX10_light fL_spoil fX10_spoil fX9_step fX10_step fL_state fX10_state fL_cuvette fX10_cuvette fL_volume fX10_volume fL_trend fX10_trend fL_rules fX10_rules fL_host fX10_host fL_took fX10_took (rL_law L xs n) x4 x5 x6 y0 M).trans h)
set_option maxRecDepth 20000 in
theorem gL_law_1036 (L : Nat) (xs : Nat → Int32) (F0 F1 F2 F3 F4 F5 F6 F7 F8 F9 F10 F11 F12 F13 F14 F15 F16 F17 F18 F19 F20 F21 F22 F23 F24 F25 F26 F27 F28 F29 F30 F31 F32 F33 F34 F35 F36 F37 : am_F) (k : Nat → List am_V → List am_V → am_M → am_R) (x4 : Int32) (x5 : am_V) (x6 : am_V) (y0 : Int32) (M : am_M) : gL_law L xs F0 F1 F2 F3 F4 F5 F6 F7 F8 F9 F10 F11 F12 F13 F14 F15 F16 F17 F18 F19 F20 F21 F22 F23 F24 F25 F26 F27 F28 F29 F30 F31 F32 F33 F34 F35 F36 F37 k 1036 [.inr (29, 0), .inr (9, 0), .inr (10, 0), .inr (80, 0), .inl (.int x4), x5, x6] [.inl (.int y0)] M =
  if y0 = 0 then
   k 1280 [.inr (29, 0), .inr (9, 0), .inr (10, 0), .inr (80, 0), .inl (.int x4), x5, x6] [] M
  else some (.inl (some (.inl (.int 0))), M) := (rfl)
theorem eL_law_1036 {L : Nat} {xs : Nat → Int32} {n : Nat} {x4 : Int32} {x5 : am_V} {x6 : am_V} {y0 : Int32} {M : am_M} {res : am_O × am_M} (h : (if y0 = 0 then
   rL_law L xs n 1280 [.inr (29, 0), .inr (9, 0), .inr (10, 0), .inr (80, 0), .inl (.int x4), x5, x6] [] M
  else some (.inl (some (.inl (.int 0))), M)) = some res) : rL_law L xs (n + 100) 1036 [.inr (29, 0), .inr (9, 0), .inr (10, 0), .inr (80, 0), .inl (.int x4), x5, x6] [.inl (.int y0)] M = some res := uL_law ((gL_law_1036 L xs fL_define fX10_define fL_curve fX10_curve fL_seal fX10_seal fL_rack fX10_rack fL_removeRack fX10_removeRack fL_reagent fX10_reagent fL_forbid fX10_forbid fL_order fX10_order fL_clock fX10_clock fL_light fX10_light fL_spoil fX10_spoil fX9_step fX10_step fL_state fX10_state fL_cuvette fX10_cuvette fL_volume fX10_volume fL_trend fX10_trend fL_rules fX10_rules fL_host fX10_host fL_took fX10_took (rL_law L xs n) x4 x5 x6 y0 M).trans h)
set_option maxRecDepth 20000 in
theorem gL_law_1104 (L : Nat) (xs : Nat → Int32) (F0 F1 F2 F3 F4 F5 F6 F7 F8 F9 F10 F11 F12 F13 F14 F15 F16 F17 F18 F19 F20 F21 F22 F23 F24 F25 F26 F27 F28 F29 F30 F31 F32 F33 F34 F35 F36 F37 : am_F) (k : Nat → List am_V → List am_V → am_M → am_R) (x4 : Int32) (x5 : am_V) (x6 : am_V) (y0 : Int32) (M : am_M) : gL_law L xs F0 F1 F2 F3 F4 F5 F6 F7 F8 F9 F10 F11 F12 F13 F14 F15 F16 F17 F18 F19 F20 F21 F22 F23 F24 F25 F26 F27 F28 F29 F30 F31 F32 F33 F34 F35 F36 F37 k 1104 [.inr (29, 0), .inr (9, 0), .inr (10, 0), .inr (80, 0), .inl (.int x4), x5, x6] [.inl (.int y0)] M =
  if y0 = 0 then
   k 1280 [.inr (29, 0), .inr (9, 0), .inr (10, 0), .inr (80, 0), .inl (.int x4), x5, x6] [] M
  else some (.inl (some (.inl (.int 0))), M) := (rfl)
theorem eL_law_1104 {L : Nat} {xs : Nat → Int32} {n : Nat} {x4 : Int32} {x5 : am_V} {x6 : am_V} {y0 : Int32} {M : am_M} {res : am_O × am_M} (h : (if y0 = 0 then
   rL_law L xs n 1280 [.inr (29, 0), .inr (9, 0), .inr (10, 0), .inr (80, 0), .inl (.int x4), x5, x6] [] M
  else some (.inl (some (.inl (.int 0))), M)) = some res) : rL_law L xs (n + 100) 1104 [.inr (29, 0), .inr (9, 0), .inr (10, 0), .inr (80, 0), .inl (.int x4), x5, x6] [.inl (.int y0)] M = some res := uL_law ((gL_law_1104 L xs fL_define fX10_define fL_curve fX10_curve fL_seal fX10_seal fL_rack fX10_rack fL_removeRack fX10_removeRack fL_reagent fX10_reagent fL_forbid fX10_forbid fL_order fX10_order fL_clock fX10_clock fL_light fX10_light fL_spoil fX10_spoil fX9_step fX10_step fL_state fX10_state fL_cuvette fX10_cuvette fL_volume fX10_volume fL_trend fX10_trend fL_rules fX10_rules fL_host fX10_host fL_took fX10_took (rL_law L xs n) x4 x5 x6 y0 M).trans h)
set_option maxRecDepth 20000 in
theorem gL_law_1160 (L : Nat) (xs : Nat → Int32) (F0 F1 F2 F3 F4 F5 F6 F7 F8 F9 F10 F11 F12 F13 F14 F15 F16 F17 F18 F19 F20 F21 F22 F23 F24 F25 F26 F27 F28 F29 F30 F31 F32 F33 F34 F35 F36 F37 : am_F) (k : Nat → List am_V → List am_V → am_M → am_R) (x4 : Int32) (x5 : am_V) (x6 : am_V) (y0 : Int32) (M : am_M) : gL_law L xs F0 F1 F2 F3 F4 F5 F6 F7 F8 F9 F10 F11 F12 F13 F14 F15 F16 F17 F18 F19 F20 F21 F22 F23 F24 F25 F26 F27 F28 F29 F30 F31 F32 F33 F34 F35 F36 F37 k 1160 [.inr (29, 0), .inr (9, 0), .inr (10, 0), .inr (80, 0), .inl (.int x4), x5, x6] [.inl (.int y0)] M =
  if y0 = 0 then
   k 1280 [.inr (29, 0), .inr (9, 0), .inr (10, 0), .inr (80, 0), .inl (.int x4), x5, x6] [] M
  else some (.inl (some (.inl (.int 0))), M) := (rfl)
theorem eL_law_1160 {L : Nat} {xs : Nat → Int32} {n : Nat} {x4 : Int32} {x5 : am_V} {x6 : am_V} {y0 : Int32} {M : am_M} {res : am_O × am_M} (h : (if y0 = 0 then
   rL_law L xs n 1280 [.inr (29, 0), .inr (9, 0), .inr (10, 0), .inr (80, 0), .inl (.int x4), x5, x6] [] M
  else some (.inl (some (.inl (.int 0))), M)) = some res) : rL_law L xs (n + 100) 1160 [.inr (29, 0), .inr (9, 0), .inr (10, 0), .inr (80, 0), .inl (.int x4), x5, x6] [.inl (.int y0)] M = some res := uL_law ((gL_law_1160 L xs fL_define fX10_define fL_curve fX10_curve fL_seal fX10_seal fL_rack fX10_rack fL_removeRack fX10_removeRack fL_reagent fX10_reagent fL_forbid fX10_forbid fL_order fX10_order fL_clock fX10_clock fL_light fX10_light fL_spoil fX10_spoil fX9_step fX10_step fL_state fX10_state fL_cuvette fX10_cuvette fL_volume fX10_volume fL_trend fX10_trend fL_rules fX10_rules fL_host fX10_host fL_took fX10_took (rL_law L xs n) x4 x5 x6 y0 M).trans h)
set_option maxRecDepth 20000 in
theorem gL_law_1216 (L : Nat) (xs : Nat → Int32) (F0 F1 F2 F3 F4 F5 F6 F7 F8 F9 F10 F11 F12 F13 F14 F15 F16 F17 F18 F19 F20 F21 F22 F23 F24 F25 F26 F27 F28 F29 F30 F31 F32 F33 F34 F35 F36 F37 : am_F) (k : Nat → List am_V → List am_V → am_M → am_R) (x4 : Int32) (x5 : am_V) (x6 : am_V) (y0 : Int32) (M : am_M) : gL_law L xs F0 F1 F2 F3 F4 F5 F6 F7 F8 F9 F10 F11 F12 F13 F14 F15 F16 F17 F18 F19 F20 F21 F22 F23 F24 F25 F26 F27 F28 F29 F30 F31 F32 F33 F34 F35 F36 F37 k 1216 [.inr (29, 0), .inr (9, 0), .inr (10, 0), .inr (80, 0), .inl (.int x4), x5, x6] [.inl (.int y0)] M =
  if y0 = 0 then
   k 1280 [.inr (29, 0), .inr (9, 0), .inr (10, 0), .inr (80, 0), .inl (.int x4), x5, x6] [] M
  else some (.inl (some (.inl (.int 0))), M) := (rfl)
theorem eL_law_1216 {L : Nat} {xs : Nat → Int32} {n : Nat} {x4 : Int32} {x5 : am_V} {x6 : am_V} {y0 : Int32} {M : am_M} {res : am_O × am_M} (h : (if y0 = 0 then
   rL_law L xs n 1280 [.inr (29, 0), .inr (9, 0), .inr (10, 0), .inr (80, 0), .inl (.int x4), x5, x6] [] M
  else some (.inl (some (.inl (.int 0))), M)) = some res) : rL_law L xs (n + 100) 1216 [.inr (29, 0), .inr (9, 0), .inr (10, 0), .inr (80, 0), .inl (.int x4), x5, x6] [.inl (.int y0)] M = some res := uL_law ((gL_law_1216 L xs fL_define fX10_define fL_curve fX10_curve fL_seal fX10_seal fL_rack fX10_rack fL_removeRack fX10_removeRack fL_reagent fX10_reagent fL_forbid fX10_forbid fL_order fX10_order fL_clock fX10_clock fL_light fX10_light fL_spoil fX10_spoil fX9_step fX10_step fL_state fX10_state fL_cuvette fX10_cuvette fL_volume fX10_volume fL_trend fX10_trend fL_rules fX10_rules fL_host fX10_host fL_took fX10_took (rL_law L xs n) x4 x5 x6 y0 M).trans h)
set_option maxRecDepth 20000 in
theorem gL_law_1272 (L : Nat) (xs : Nat → Int32) (F0 F1 F2 F3 F4 F5 F6 F7 F8 F9 F10 F11 F12 F13 F14 F15 F16 F17 F18 F19 F20 F21 F22 F23 F24 F25 F26 F27 F28 F29 F30 F31 F32 F33 F34 F35 F36 F37 : am_F) (k : Nat → List am_V → List am_V → am_M → am_R) (x4 : Int32) (x5 : am_V) (x6 : am_V) (y0 : Int32) (M : am_M) : gL_law L xs F0 F1 F2 F3 F4 F5 F6 F7 F8 F9 F10 F11 F12 F13 F14 F15 F16 F17 F18 F19 F20 F21 F22 F23 F24 F25 F26 F27 F28 F29 F30 F31 F32 F33 F34 F35 F36 F37 k 1272 [.inr (29, 0), .inr (9, 0), .inr (10, 0), .inr (80, 0), .inl (.int x4), x5, x6] [.inl (.int y0)] M =
  if y0 = 0 then
   k 1280 [.inr (29, 0), .inr (9, 0), .inr (10, 0), .inr (80, 0), .inl (.int x4), x5, x6] [] M
  else some (.inl (some (.inl (.int 0))), M) := (rfl)
theorem eL_law_1272 {L : Nat} {xs : Nat → Int32} {n : Nat} {x4 : Int32} {x5 : am_V} {x6 : am_V} {y0 : Int32} {M : am_M} {res : am_O × am_M} (h : (if y0 = 0 then
   rL_law L xs n 1280 [.inr (29, 0), .inr (9, 0), .inr (10, 0), .inr (80, 0), .inl (.int x4), x5, x6] [] M
  else some (.inl (some (.inl (.int 0))), M)) = some res) : rL_law L xs (n + 100) 1272 [.inr (29, 0), .inr (9, 0), .inr (10, 0), .inr (80, 0), .inl (.int x4), x5, x6] [.inl (.int y0)] M = some res := uL_law ((gL_law_1272 L xs fL_define fX10_define fL_curve fX10_curve fL_seal fX10_seal fL_rack fX10_rack fL_removeRack fX10_removeRack fL_reagent fX10_reagent fL_forbid fX10_forbid fL_order fX10_order fL_clock fX10_clock fL_light fX10_light fL_spoil fX10_spoil fX9_step fX10_step fL_state fX10_state fL_cuvette fX10_cuvette fL_volume fX10_volume fL_trend fX10_trend fL_rules fX10_rules fL_host fX10_host fL_took fX10_took (rL_law L xs n) x4 x5 x6 y0 M).trans h)
