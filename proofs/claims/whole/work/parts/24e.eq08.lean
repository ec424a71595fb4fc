/-! ===== the runs, piece by piece ===== -/
def rX9_seal (n pc : Nat) (ls st : List am_V) (M : am_M) : am_R := am_run [fX9_isWithin, fX9_demandArgument, fX6_isComplete] [] 2 am_X0 pX9_seal n pc ls st M
def gX9_seal (k : Nat → List am_V → List am_V → am_M → am_R) (pc : Nat) (ls st : List am_V) (M : am_M) : am_R := am_go [fX9_isWithin, fX9_demandArgument, fX6_isComplete] [] 2 am_X0 pX9_seal [6, 9, 21] k 100 pc ls st M
theorem uX9_seal {n pc : Nat} {ls st : List am_V} {M : am_M} {res : am_O × am_M} (h : gX9_seal (rX9_seal n) pc ls st M = some res) : rX9_seal (n + 100) pc ls st M = some res := am_go_ok h
theorem eX9_seal (x1 : Int32) (M : am_M) : fX9_seal [.inr (9, 0), .inl (.int x1)] M = rX9_seal 100000 0 [.inr (9, 0), .inl (.int x1), am_D] [] M := am_meth_eq rfl rfl
set_option maxRecDepth 20000 in
theorem gX9_seal_0 (k : Nat → List am_V → List am_V → am_M → am_R) (x1 : Int32) (M : am_M) : gX9_seal k 0 [.inr (9, 0), .inl (.int x1), am_D] [] M =
  am_ret [] 3 [] (k 6 [.inr (9, 0), .inl (.int x1), am_D]) (fX9_isWithin [.inl (.int x1), .inl (.int 0), .inl (.int 3)] M) := (rfl)
theorem eX9_seal_0 {n : Nat} {x1 : Int32} {M : am_M} {res : am_O × am_M} (h : (am_ret [] 3 [] (rX9_seal n 6 [.inr (9, 0), .inl (.int x1), am_D]) (fX9_isWithin [.inl (.int x1), .inl (.int 0), .inl (.int 3)] M)) = some res) : rX9_seal (n + 100) 0 [.inr (9, 0), .inl (.int x1), am_D] [] M = some res := uX9_seal ((gX9_seal_0 (rX9_seal n) x1 M).trans h)
set_option maxRecDepth 20000 in
theorem gX9_seal_6 (k : Nat → List am_V → List am_V → am_M → am_R) (x1 : Int32) (y0 : Int32) (M : am_M) : gX9_seal k 6 [.inr (9, 0), .inl (.int x1), am_D] [.inl (.int y0)] M =
  am_ret [] 6 [] (k 9 [.inr (9, 0), .inl (.int x1), am_D]) (fX9_demandArgument [.inl (.int y0)] M) := (rfl)
theorem eX9_seal_6 {n : Nat} {x1 : Int32} {y0 : Int32} {M : am_M} {res : am_O × am_M} (h : (am_ret [] 6 [] (rX9_seal n 9 [.inr (9, 0), .inl (.int x1), am_D]) (fX9_demandArgument [.inl (.int y0)] M)) = some res) : rX9_seal (n + 100) 6 [.inr (9, 0), .inl (.int x1), am_D] [.inl (.int y0)] M = some res := uX9_seal ((gX9_seal_6 (rX9_seal n) x1 y0 M).trans h)
set_option maxRecDepth 20000 in
theorem gX9_seal_9 (k : Nat → List am_V → List am_V → am_M → am_R) (x1 : Int32) (M : am_M) : gX9_seal k 9 [.inr (9, 0), .inl (.int x1), am_D] [] M =
  if am_in x1 4 then
   am_ret [] 18 [.inr (6, (Int32.toNatClampNeg x1))] (k 21 [.inr (9, 0), .inl (.int x1), .inr (6, (Int32.toNatClampNeg x1))]) (fX6_isComplete [.inr (6, (Int32.toNatClampNeg x1))] M)
  else none := (rfl)
theorem eX9_seal_9 {n : Nat} {x1 : Int32} {M : am_M} {res : am_O × am_M} (h : (if am_in x1 4 then
   am_ret [] 18 [.inr (6, (Int32.toNatClampNeg x1))] (rX9_seal n 21 [.inr (9, 0), .inl (.int x1), .inr (6, (Int32.toNatClampNeg x1))]) (fX6_isComplete [.inr (6, (Int32.toNatClampNeg x1))] M)
  else none) = some res) : rX9_seal (n + 100) 9 [.inr (9, 0), .inl (.int x1), am_D] [] M = some res := uX9_seal ((gX9_seal_9 (rX9_seal n) x1 M).trans h)
set_option maxRecDepth 20000 in
theorem gX9_seal_21 (k : Nat → List am_V → List am_V → am_M → am_R) (x1 : Int32) (x2 : Nat) (y0 : Int32) (y1 : Nat) (M : am_M) : gX9_seal k 21 [.inr (9, 0), .inl (.int x1), .inr (6, x2)] [.inl (.int y0), .inr (6, y1)] M =
  if am_b y0 = y0 then
   Option.map (fun o => (o, (am_put M 6 y1 3 y0))) (am_fin 2 .ireturn [.inr (9, 0), .inl (.int x1), .inr (6, x2)] [.inl (.int (am_b ((am_put M 6 y1 3 y0) 6 x2 3)))])
  else none := (rfl)
theorem eX9_seal_21 {n : Nat} {x1 : Int32} {x2 : Nat} {y0 : Int32} {y1 : Nat} {M : am_M} {res : am_O × am_M} (h : (if am_b y0 = y0 then
   Option.map (fun o => (o, (am_put M 6 y1 3 y0))) (am_fin 2 .ireturn [.inr (9, 0), .inl (.int x1), .inr (6, x2)] [.inl (.int (am_b ((am_put M 6 y1 3 y0) 6 x2 3)))])
  else none) = some res) : rX9_seal (n + 100) 21 [.inr (9, 0), .inl (.int x1), .inr (6, x2)] [.inl (.int y0), .inr (6, y1)] M = some res := uX9_seal ((gX9_seal_21 (rX9_seal n) x1 x2 y0 y1 M).trans h)
def rX9_slotOf (n pc : Nat) (ls st : List am_V) (M : am_M) : am_R := am_run [] [] 1 am_X0 pX9_slotOf n pc ls st M
def gX9_slotOf (k : Nat → List am_V → List am_V → am_M → am_R) (pc : Nat) (ls st : List am_V) (M : am_M) : am_R := am_go [] [] 1 am_X0 pX9_slotOf [2] k 100 pc ls st M
theorem uX9_slotOf {n pc : Nat} {ls st : List am_V} {M : am_M} {res : am_O × am_M} (h : gX9_slotOf (rX9_slotOf n) pc ls st M = some res) : rX9_slotOf (n + 100) pc ls st M = some res := am_go_ok h
theorem eX9_slotOf (x1 : Int32) (M : am_M) : fX9_slotOf [.inr (9, 0), .inl (.int x1)] M = rX9_slotOf 100000 0 [.inr (9, 0), .inl (.int x1), am_D] [] M := am_meth_eq rfl rfl
set_option maxRecDepth 20000 in
theorem gX9_slotOf_0 (k : Nat → List am_V → List am_V → am_M → am_R) (x1 : Int32) (M : am_M) : gX9_slotOf k 0 [.inr (9, 0), .inl (.int x1), am_D] [] M =
  k 2 [.inr (9, 0), .inl (.int x1), .inl (.int 0)] [] M := (rfl)
theorem eX9_slotOf_0 {n : Nat} {x1 : Int32} {M : am_M} {res : am_O × am_M} (h : (rX9_slotOf n 2 [.inr (9, 0), .inl (.int x1), .inl (.int 0)] [] M) = some res) : rX9_slotOf (n + 100) 0 [.inr (9, 0), .inl (.int x1), am_D] [] M = some res := uX9_slotOf ((gX9_slotOf_0 (rX9_slotOf n) x1 M).trans h)
set_option maxRecDepth 20000 in
theorem gX9_slotOf_2 (k : Nat → List am_V → List am_V → am_M → am_R) (x1 : Int32) (x2 : Int32) (M : am_M) : gX9_slotOf k 2 [.inr (9, 0), .inl (.int x1), .inl (.int x2)] [] M =
  if 6 ≤ x2 then
   some (.inl (some (.inl (.int (-1)))), M)
  else if am_in x2 6 then
   if (M 8 (Int32.toNatClampNeg x2) 0) = x1 then
    some (.inl (some (.inl (.int x2))), M)
   else k 2 [.inr (9, 0), .inl (.int x1), .inl (.int (x2 + 1))] [] M
  else none := (rfl)
theorem eX9_slotOf_2 {n : Nat} {x1 : Int32} {x2 : Int32} {M : am_M} {res : am_O × am_M} (h : (if 6 ≤ x2 then
   some (.inl (some (.inl (.int (-1)))), M)
  else if am_in x2 6 then
   if (M 8 (Int32.toNatClampNeg x2) 0) = x1 then
    some (.inl (some (.inl (.int x2))), M)
   else rX9_slotOf n 2 [.inr (9, 0), .inl (.int x1), .inl (.int (x2 + 1))] [] M
  else none) = some res) : rX9_slotOf (n + 100) 2 [.inr (9, 0), .inl (.int x1), .inl (.int x2)] [] M = some res := uX9_slotOf ((gX9_slotOf_2 (rX9_slotOf n) x1 x2 M).trans h)
def rX9_rack (n pc : Nat) (ls st : List am_V) (M : am_M) : am_R := am_run [fX9_isWithin, fX9_demandArgument, fX8_isEmpty, fX9_slotOf, fX9_demandState, fX8_fill] [] 0 am_X0 pX9_rack n pc ls st M
def gX9_rack (k : Nat → List am_V → List am_V → am_M → am_R) (pc : Nat) (ls st : List am_V) (M : am_M) : am_R := am_go [fX9_isWithin, fX9_demandArgument, fX8_isEmpty, fX9_slotOf, fX9_demandState, fX8_fill] [] 0 am_X0 pX9_rack [6, 16, 27, 33, 44, 55, 64, 72, 84] k 100 pc ls st M
theorem uX9_rack {n pc : Nat} {ls st : List am_V} {M : am_M} {res : am_O × am_M} (h : gX9_rack (rX9_rack n) pc ls st M = some res) : rX9_rack (n + 100) pc ls st M = some res := am_go_ok h
theorem eX9_rack (x1 : Int32) (x2 : Int32) (x3 : Int32) (x4 : Int32) (M : am_M) : fX9_rack [.inr (9, 0), .inl (.int x1), .inl (.int x2), .inl (.int x3), .inl (.int x4)] M = rX9_rack 100000 0 [.inr (9, 0), .inl (.int x1), .inl (.int x2), .inl (.int x3), .inl (.int x4)] [] M := am_meth_eq rfl rfl
set_option maxRecDepth 20000 in
theorem gX9_rack_0 (k : Nat → List am_V → List am_V → am_M → am_R) (x1 : Int32) (x2 : Int32) (x3 : Int32) (x4 : Int32) (M : am_M) : gX9_rack k 0 [.inr (9, 0), .inl (.int x1), .inl (.int x2), .inl (.int x3), .inl (.int x4)] [] M =
  am_ret [] 3 [] (k 6 [.inr (9, 0), .inl (.int x1), .inl (.int x2), .inl (.int x3), .inl (.int x4)]) (fX9_isWithin [.inl (.int x1), .inl (.int 0), .inl (.int 5)] M) := (rfl)
theorem eX9_rack_0 {n : Nat} {x1 : Int32} {x2 : Int32} {x3 : Int32} {x4 : Int32} {M : am_M} {res : am_O × am_M} (h : (am_ret [] 3 [] (rX9_rack n 6 [.inr (9, 0), .inl (.int x1), .inl (.int x2), .inl (.int x3), .inl (.int x4)]) (fX9_isWithin [.inl (.int x1), .inl (.int 0), .inl (.int 5)] M)) = some res) : rX9_rack (n + 100) 0 [.inr (9, 0), .inl (.int x1), .inl (.int x2), .inl (.int x3), .inl (.int x4)] [] M = some res := uX9_rack ((gX9_rack_0 (rX9_rack n) x1 x2 x3 x4 M).trans h)
set_option maxRecDepth 20000 in
theorem gX9_rack_6 (k : Nat → List am_V → List am_V → am_M → am_R) (x1 : Int32) (x2 : Int32) (x3 : Int32) (x4 : Int32) (y0 : Int32) (M : am_M) : gX9_rack k 6 [.inr (9, 0), .inl (.int x1), .inl (.int x2), .inl (.int x3), .inl (.int x4)] [.inl (.int y0)] M =
  if y0 = 0 then
   am_ret [] 24 [] (k 27 [.inr (9, 0), .inl (.int x1), .inl (.int x2), .inl (.int x3), .inl (.int x4)]) (fX9_demandArgument [.inl (.int 0)] M)
  else am_ret [] 13 [] (k 16 [.inr (9, 0), .inl (.int x1), .inl (.int x2), .inl (.int x3), .inl (.int x4)]) (fX9_isWithin [.inl (.int x2), .inl (.int 1), .inl (.int 999999)] M) := (rfl)
theorem eX9_rack_6 {n : Nat} {x1 : Int32} {x2 : Int32} {x3 : Int32} {x4 : Int32} {y0 : Int32} {M : am_M} {res : am_O × am_M} (h : (if y0 = 0 then
   am_ret [] 24 [] (rX9_rack n 27 [.inr (9, 0), .inl (.int x1), .inl (.int x2), .inl (.int x3), .inl (.int x4)]) (fX9_demandArgument [.inl (.int 0)] M)
  else am_ret [] 13 [] (rX9_rack n 16 [.inr (9, 0), .inl (.int x1), .inl (.int x2), .inl (.int x3), .inl (.int x4)]) (fX9_isWithin [.inl (.int x2), .inl (.int 1), .inl (.int 999999)] M)) = some res) : rX9_rack (n + 100) 6 [.inr (9, 0), .inl (.int x1), .inl (.int x2), .inl (.int x3), .inl (.int x4)] [.inl (.int y0)] M = some res := uX9_rack ((gX9_rack_6 (rX9_rack n) x1 x2 x3 x4 y0 M).trans h)
set_option maxRecDepth 20000 in
theorem gX9_rack_27 (k : Nat → List am_V → List am_V → am_M → am_R) (x1 : Int32) (x2 : Int32) (x3 : Int32) (x4 : Int32) (M : am_M) : gX9_rack k 27 [.inr (9, 0), .inl (.int x1), .inl (.int x2), .inl (.int x3), .inl (.int x4)] [] M =
  am_ret [] 30 [] (k 33 [.inr (9, 0), .inl (.int x1), .inl (.int x2), .inl (.int x3), .inl (.int x4)]) (fX9_isWithin [.inl (.int x3), .inl (.int 0), .inl (.int 1)] M) := (rfl)
theorem eX9_rack_27 {n : Nat} {x1 : Int32} {x2 : Int32} {x3 : Int32} {x4 : Int32} {M : am_M} {res : am_O × am_M} (h : (am_ret [] 30 [] (rX9_rack n 33 [.inr (9, 0), .inl (.int x1), .inl (.int x2), .inl (.int x3), .inl (.int x4)]) (fX9_isWithin [.inl (.int x3), .inl (.int 0), .inl (.int 1)] M)) = some res) : rX9_rack (n + 100) 27 [.inr (9, 0), .inl (.int x1), .inl (.int x2), .inl (.int x3), .inl (.int x4)] [] M = some res := uX9_rack ((gX9_rack_27 (rX9_rack n) x1 x2 x3 x4 M).trans h)
set_option maxRecDepth 20000 in
theorem gX9_rack_16 (k : Nat → List am_V → List am_V → am_M → am_R) (x1 : Int32) (x2 : Int32) (x3 : Int32) (x4 : Int32) (y0 : Int32) (M : am_M) : gX9_rack k 16 [.inr (9, 0), .inl (.int x1), .inl (.int x2), .inl (.int x3), .inl (.int x4)] [.inl (.int y0)] M =
  if y0 = 0 then
   am_ret [] 24 [] (k 27 [.inr (9, 0), .inl (.int x1), .inl (.int x2), .inl (.int x3), .inl (.int x4)]) (fX9_demandArgument [.inl (.int 0)] M)
  else am_ret [] 24 [] (k 27 [.inr (9, 0), .inl (.int x1), .inl (.int x2), .inl (.int x3), .inl (.int x4)]) (fX9_demandArgument [.inl (.int 1)] M) := (rfl)
theorem eX9_rack_16 {n : Nat} {x1 : Int32} {x2 : Int32} {x3 : Int32} {x4 : Int32} {y0 : Int32} {M : am_M} {res : am_O × am_M} (h : (if y0 = 0 then
   am_ret [] 24 [] (rX9_rack n 27 [.inr (9, 0), .inl (.int x1), .inl (.int x2), .inl (.int x3), .inl (.int x4)]) (fX9_demandArgument [.inl (.int 0)] M)
  else am_ret [] 24 [] (rX9_rack n 27 [.inr (9, 0), .inl (.int x1), .inl (.int x2), .inl (.int x3), .inl (.int x4)]) (fX9_demandArgument [.inl (.int 1)] M)) = some res) : rX9_rack (n + 100) 16 [.inr (9, 0), .inl (.int x1), .inl (.int x2), .inl (.int x3), .inl (.int x4)] [.inl (.int y0)] M = some res := uX9_rack ((gX9_rack_16 (rX9_rack n) x1 x2 x3 x4 y0 M).trans h)
set_option maxRecDepth 20000 in
theorem gX9_rack_33 (k : Nat → List am_V → List am_V → am_M → am_R) (x1 : Int32) (x2 : Int32) (x3 : Int32) (x4 : Int32) (y0 : Int32) (M : am_M) : gX9_rack k 33 [.inr (9, 0), .inl (.int x1), .inl (.int x2), .inl (.int x3), .inl (.int x4)] [.inl (.int y0)] M =
  if y0 = 0 then
   am_ret [] 52 [] (k 55 [.inr (9, 0), .inl (.int x1), .inl (.int x2), .inl (.int x3), .inl (.int x4)]) (fX9_demandArgument [.inl (.int 0)] M)
  else am_ret [] 41 [] (k 44 [.inr (9, 0), .inl (.int x1), .inl (.int x2), .inl (.int x3), .inl (.int x4)]) (fX9_isWithin [.inl (.int x4), .inl (.int 0), .inl (.int 100000)] M) := (rfl)
theorem eX9_rack_33 {n : Nat} {x1 : Int32} {x2 : Int32} {x3 : Int32} {x4 : Int32} {y0 : Int32} {M : am_M} {res : am_O × am_M} (h : (if y0 = 0 then
   am_ret [] 52 [] (rX9_rack n 55 [.inr (9, 0), .inl (.int x1), .inl (.int x2), .inl (.int x3), .inl (.int x4)]) (fX9_demandArgument [.inl (.int 0)] M)
  else am_ret [] 41 [] (rX9_rack n 44 [.inr (9, 0), .inl (.int x1), .inl (.int x2), .inl (.int x3), .inl (.int x4)]) (fX9_isWithin [.inl (.int x4), .inl (.int 0), .inl (.int 100000)] M)) = some res) : rX9_rack (n + 100) 33 [.inr (9, 0), .inl (.int x1), .inl (.int x2), .inl (.int x3), .inl (.int x4)] [.inl (.int y0)] M = some res := uX9_rack ((gX9_rack_33 (rX9_rack n) x1 x2 x3 x4 y0 M).trans h)
set_option maxRecDepth 20000 in
theorem gX9_rack_55 (k : Nat → List am_V → List am_V → am_M → am_R) (x1 : Int32) (x2 : Int32) (x3 : Int32) (x4 : Int32) (M : am_M) : gX9_rack k 55 [.inr (9, 0), .inl (.int x1), .inl (.int x2), .inl (.int x3), .inl (.int x4)] [] M =
  if am_in x1 6 then
   am_ret [] 61 [] (k 64 [.inr (9, 0), .inl (.int x1), .inl (.int x2), .inl (.int x3), .inl (.int x4)]) (fX8_isEmpty [.inr (8, (Int32.toNatClampNeg x1))] M)
  else none := (rfl)
theorem eX9_rack_55 {n : Nat} {x1 : Int32} {x2 : Int32} {x3 : Int32} {x4 : Int32} {M : am_M} {res : am_O × am_M} (h : (if am_in x1 6 then
   am_ret [] 61 [] (rX9_rack n 64 [.inr (9, 0), .inl (.int x1), .inl (.int x2), .inl (.int x3), .inl (.int x4)]) (fX8_isEmpty [.inr (8, (Int32.toNatClampNeg x1))] M)
  else none) = some res) : rX9_rack (n + 100) 55 [.inr (9, 0), .inl (.int x1), .inl (.int x2), .inl (.int x3), .inl (.int x4)] [] M = some res := uX9_rack ((gX9_rack_55 (rX9_rack n) x1 x2 x3 x4 M).trans h)
set_option maxRecDepth 20000 in
theorem gX9_rack_44 (k : Nat → List am_V → List am_V → am_M → am_R) (x1 : Int32) (x2 : Int32) (x3 : Int32) (x4 : Int32) (y0 : Int32) (M : am_M) : gX9_rack k 44 [.inr (9, 0), .inl (.int x1), .inl (.int x2), .inl (.int x3), .inl (.int x4)] [.inl (.int y0)] M =
  if y0 = 0 then
   am_ret [] 52 [] (k 55 [.inr (9, 0), .inl (.int x1), .inl (.int x2), .inl (.int x3), .inl (.int x4)]) (fX9_demandArgument [.inl (.int 0)] M)
  else am_ret [] 52 [] (k 55 [.inr (9, 0), .inl (.int x1), .inl (.int x2), .inl (.int x3), .inl (.int x4)]) (fX9_demandArgument [.inl (.int 1)] M) := (rfl)
theorem eX9_rack_44 {n : Nat} {x1 : Int32} {x2 : Int32} {x3 : Int32} {x4 : Int32} {y0 : Int32} {M : am_M} {res : am_O × am_M} (h : (if y0 = 0 then
   am_ret [] 52 [] (rX9_rack n 55 [.inr (9, 0), .inl (.int x1), .inl (.int x2), .inl (.int x3), .inl (.int x4)]) (fX9_demandArgument [.inl (.int 0)] M)
  else am_ret [] 52 [] (rX9_rack n 55 [.inr (9, 0), .inl (.int x1), .inl (.int x2), .inl (.int x3), .inl (.int x4)]) (fX9_demandArgument [.inl (.int 1)] M)) = some res) : rX9_rack (n + 100) 44 [.inr (9, 0), .inl (.int x1), .inl (.int x2), .inl (.int x3), .inl (.int x4)] [.inl (.int y0)] M = some res := uX9_rack ((gX9_rack_44 (rX9_rack n) x1 x2 x3 x4 y0 M).trans h)
set_option maxRecDepth 20000 in
theorem gX9_rack_64 (k : Nat → List am_V → List am_V → am_M → am_R) (x1 : Int32) (x2 : Int32) (x3 : Int32) (x4 : Int32) (y0 : Int32) (M : am_M) : gX9_rack k 64 [.inr (9, 0), .inl (.int x1), .inl (.int x2), .inl (.int x3), .inl (.int x4)] [.inl (.int y0)] M =
  if y0 = 0 then
   am_ret [] 81 [] (k 84 [.inr (9, 0), .inl (.int x1), .inl (.int x2), .inl (.int x3), .inl (.int x4)]) (fX9_demandState [.inl (.int 0)] M)
  else am_ret [] 69 [] (k 72 [.inr (9, 0), .inl (.int x1), .inl (.int x2), .inl (.int x3), .inl (.int x4)]) (fX9_slotOf [.inr (9, 0), .inl (.int x2)] M) := (rfl)
theorem eX9_rack_64 {n : Nat} {x1 : Int32} {x2 : Int32} {x3 : Int32} {x4 : Int32} {y0 : Int32} {M : am_M} {res : am_O × am_M} (h : (if y0 = 0 then
   am_ret [] 81 [] (rX9_rack n 84 [.inr (9, 0), .inl (.int x1), .inl (.int x2), .inl (.int x3), .inl (.int x4)]) (fX9_demandState [.inl (.int 0)] M)
  else am_ret [] 69 [] (rX9_rack n 72 [.inr (9, 0), .inl (.int x1), .inl (.int x2), .inl (.int x3), .inl (.int x4)]) (fX9_slotOf [.inr (9, 0), .inl (.int x2)] M)) = some res) : rX9_rack (n + 100) 64 [.inr (9, 0), .inl (.int x1), .inl (.int x2), .inl (.int x3), .inl (.int x4)] [.inl (.int y0)] M = some res := uX9_rack ((gX9_rack_64 (rX9_rack n) x1 x2 x3 x4 y0 M).trans h)
set_option maxRecDepth 20000 in
theorem gX9_rack_84 (k : Nat → List am_V → List am_V → am_M → am_R) (x1 : Int32) (x2 : Int32) (x3 : Int32) (x4 : Int32) (M : am_M) : gX9_rack k 84 [.inr (9, 0), .inl (.int x1), .inl (.int x2), .inl (.int x3), .inl (.int x4)] [] M =
  if am_in x1 6 then
   if x3 = 1 then
    some (.inl none, (am_put (am_put (am_put M 8 (Int32.toNatClampNeg x1) 0 x2) 8 (Int32.toNatClampNeg x1) 1 1) 8 (Int32.toNatClampNeg x1) 2 x4))
   else some (.inl none, (am_put (am_put (am_put M 8 (Int32.toNatClampNeg x1) 0 x2) 8 (Int32.toNatClampNeg x1) 1 0) 8 (Int32.toNatClampNeg x1) 2 x4))
  else none := (rfl)
theorem eX9_rack_84 {n : Nat} {x1 : Int32} {x2 : Int32} {x3 : Int32} {x4 : Int32} {M : am_M} {res : am_O × am_M} (h : (if am_in x1 6 then
   if x3 = 1 then
    some (.inl none, (am_put (am_put (am_put M 8 (Int32.toNatClampNeg x1) 0 x2) 8 (Int32.toNatClampNeg x1) 1 1) 8 (Int32.toNatClampNeg x1) 2 x4))
   else some (.inl none, (am_put (am_put (am_put M 8 (Int32.toNatClampNeg x1) 0 x2) 8 (Int32.toNatClampNeg x1) 1 0) 8 (Int32.toNatClampNeg x1) 2 x4))
  else none) = some res) : rX9_rack (n + 100) 84 [.inr (9, 0), .inl (.int x1), .inl (.int x2), .inl (.int x3), .inl (.int x4)] [] M = some res := uX9_rack ((gX9_rack_84 (rX9_rack n) x1 x2 x3 x4 M).trans h)
set_option maxRecDepth 20000 in
theorem gX9_rack_72 (k : Nat → List am_V → List am_V → am_M → am_R) (x1 : Int32) (x2 : Int32) (x3 : Int32) (x4 : Int32) (y0 : Int32) (M : am_M) : gX9_rack k 72 [.inr (9, 0), .inl (.int x1), .inl (.int x2), .inl (.int x3), .inl (.int x4)] [.inl (.int y0)] M =
  if y0 = (-1) then
   am_ret [] 81 [] (k 84 [.inr (9, 0), .inl (.int x1), .inl (.int x2), .inl (.int x3), .inl (.int x4)]) (fX9_demandState [.inl (.int 1)] M)
  else am_ret [] 81 [] (k 84 [.inr (9, 0), .inl (.int x1), .inl (.int x2), .inl (.int x3), .inl (.int x4)]) (fX9_demandState [.inl (.int 0)] M) := (rfl)
theorem eX9_rack_72 {n : Nat} {x1 : Int32} {x2 : Int32} {x3 : Int32} {x4 : Int32} {y0 : Int32} {M : am_M} {res : am_O × am_M} (h : (if y0 = (-1) then
   am_ret [] 81 [] (rX9_rack n 84 [.inr (9, 0), .inl (.int x1), .inl (.int x2), .inl (.int x3), .inl (.int x4)]) (fX9_demandState [.inl (.int 1)] M)
  else am_ret [] 81 [] (rX9_rack n 84 [.inr (9, 0), .inl (.int x1), .inl (.int x2), .inl (.int x3), .inl (.int x4)]) (fX9_demandState [.inl (.int 0)] M)) = some res) : rX9_rack (n + 100) 72 [.inr (9, 0), .inl (.int x1), .inl (.int x2), .inl (.int x3), .inl (.int x4)] [.inl (.int y0)] M = some res := uX9_rack ((gX9_rack_72 (rX9_rack n) x1 x2 x3 x4 y0 M).trans h)
def rX9_isAwaited (n pc : Nat) (ls st : List am_V) (M : am_M) : am_R := am_run [fX4_isOpen] [] 2 am_X0 pX9_isAwaited n pc ls st M
def gX9_isAwaited (k : Nat → List am_V → List am_V → am_M → am_R) (pc : Nat) (ls st : List am_V) (M : am_M) : am_R := am_go [fX4_isOpen] [] 2 am_X0 pX9_isAwaited [2, 19] k 100 pc ls st M
theorem uX9_isAwaited {n pc : Nat} {ls st : List am_V} {M : am_M} {res : am_O × am_M} (h : gX9_isAwaited (rX9_isAwaited n) pc ls st M = some res) : rX9_isAwaited (n + 100) pc ls st M = some res := am_go_ok h
theorem eX9_isAwaited (x1 : Int32) (M : am_M) : fX9_isAwaited [.inr (9, 0), .inl (.int x1)] M = rX9_isAwaited 100000 0 [.inr (9, 0), .inl (.int x1), am_D] [] M := am_meth_eq rfl rfl
set_option maxRecDepth 20000 in
theorem gX9_isAwaited_0 (k : Nat → List am_V → List am_V → am_M → am_R) (x1 : Int32) (M : am_M) : gX9_isAwaited k 0 [.inr (9, 0), .inl (.int x1), am_D] [] M =
  k 2 [.inr (9, 0), .inl (.int x1), .inl (.int 0)] [] M := (rfl)
theorem eX9_isAwaited_0 {n : Nat} {x1 : Int32} {M : am_M} {res : am_O × am_M} (h : (rX9_isAwaited n 2 [.inr (9, 0), .inl (.int x1), .inl (.int 0)] [] M) = some res) : rX9_isAwaited (n + 100) 0 [.inr (9, 0), .inl (.int x1), am_D] [] M = some res := uX9_isAwaited ((gX9_isAwaited_0 (rX9_isAwaited n) x1 M).trans h)
set_option maxRecDepth 20000 in
theorem gX9_isAwaited_2 (k : Nat → List am_V → List am_V → am_M → am_R) (x1 : Int32) (x2 : Int32) (M : am_M) : gX9_isAwaited k 2 [.inr (9, 0), .inl (.int x1), .inl (.int x2)] [] M =
  if (M 9 0 7) ≤ x2 then
   some (.inl (some (.inl (.int 0))), M)
  else if am_in x2 40 then
   am_ret [] 16 [] (k 19 [.inr (9, 0), .inl (.int x1), .inl (.int x2)]) (fX4_isOpen [.inr (4, (Int32.toNatClampNeg x2))] M)
  else none := (rfl)
theorem eX9_isAwaited_2 {n : Nat} {x1 : Int32} {x2 : Int32} {M : am_M} {res : am_O × am_M} (h : (if (M 9 0 7) ≤ x2 then
   some (.inl (some (.inl (.int 0))), M)
  else if am_in x2 40 then
   am_ret [] 16 [] (rX9_isAwaited n 19 [.inr (9, 0), .inl (.int x1), .inl (.int x2)]) (fX4_isOpen [.inr (4, (Int32.toNatClampNeg x2))] M)
  else none) = some res) : rX9_isAwaited (n + 100) 2 [.inr (9, 0), .inl (.int x1), .inl (.int x2)] [] M = some res := uX9_isAwaited ((gX9_isAwaited_2 (rX9_isAwaited n) x1 x2 M).trans h)
set_option maxRecDepth 20000 in
theorem gX9_isAwaited_19 (k : Nat → List am_V → List am_V → am_M → am_R) (x1 : Int32) (x2 : Int32) (y0 : Int32) (M : am_M) : gX9_isAwaited k 19 [.inr (9, 0), .inl (.int x1), .inl (.int x2)] [.inl (.int y0)] M =
  if y0 = 0 then
   k 2 [.inr (9, 0), .inl (.int x1), .inl (.int (x2 + 1))] [] M
  else if am_in x2 40 then
   if (M 4 (Int32.toNatClampNeg x2) 0) = x1 then
    some (.inl (some (.inl (.int 1))), M)
   else k 2 [.inr (9, 0), .inl (.int x1), .inl (.int (x2 + 1))] [] M
  else none := (rfl)
theorem eX9_isAwaited_19 {n : Nat} {x1 : Int32} {x2 : Int32} {y0 : Int32} {M : am_M} {res : am_O × am_M} (h : (if y0 = 0 then
   rX9_isAwaited n 2 [.inr (9, 0), .inl (.int x1), .inl (.int (x2 + 1))] [] M
  else if am_in x2 40 then
   if (M 4 (Int32.toNatClampNeg x2) 0) = x1 then
    some (.inl (some (.inl (.int 1))), M)
   else rX9_isAwaited n 2 [.inr (9, 0), .inl (.int x1), .inl (.int (x2 + 1))] [] M
  else none) = some res) : rX9_isAwaited (n + 100) 19 [.inr (9, 0), .inl (.int x1), .inl (.int x2)] [.inl (.int y0)] M = some res := uX9_isAwaited ((gX9_isAwaited_19 (rX9_isAwaited n) x1 x2 y0 M).trans h)
def rX9_removeRack (n pc : Nat) (ls st : List am_V) (M : am_M) : am_R := am_run [fX9_isWithin, fX9_demandArgument, fX8_isEmpty, fX9_demandElement, fX9_isAwaited, fX9_demandState] [] 1 am_X0 pX9_removeRack n pc ls st M
def gX9_removeRack (k : Nat → List am_V → List am_V → am_M → am_R) (pc : Nat) (ls st : List am_V) (M : am_M) : am_R := am_go [fX9_isWithin, fX9_demandArgument, fX8_isEmpty, fX9_demandElement, fX9_isAwaited, fX9_demandState] [] 1 am_X0 pX9_removeRack [6, 9, 18, 29, 42, 53] k 100 pc ls st M
theorem uX9_removeRack {n pc : Nat} {ls st : List am_V} {M : am_M} {res : am_O × am_M} (h : gX9_removeRack (rX9_removeRack n) pc ls st M = some res) : rX9_removeRack (n + 100) pc ls st M = some res := am_go_ok h
theorem eX9_removeRack (x1 : Int32) (M : am_M) : fX9_removeRack [.inr (9, 0), .inl (.int x1)] M = rX9_removeRack 100000 0 [.inr (9, 0), .inl (.int x1)] [] M := am_meth_eq rfl rfl
set_option maxRecDepth 20000 in
theorem gX9_removeRack_0 (k : Nat → List am_V → List am_V → am_M → am_R) (x1 : Int32) (M : am_M) : gX9_removeRack k 0 [.inr (9, 0), .inl (.int x1)] [] M =
  am_ret [] 3 [] (k 6 [.inr (9, 0), .inl (.int x1)]) (fX9_isWithin [.inl (.int x1), .inl (.int 0), .inl (.int 5)] M) := (rfl)
theorem eX9_removeRack_0 {n : Nat} {x1 : Int32} {M : am_M} {res : am_O × am_M} (h : (am_ret [] 3 [] (rX9_removeRack n 6 [.inr (9, 0), .inl (.int x1)]) (fX9_isWithin [.inl (.int x1), .inl (.int 0), .inl (.int 5)] M)) = some res) : rX9_removeRack (n + 100) 0 [.inr (9, 0), .inl (.int x1)] [] M = some res := uX9_removeRack ((gX9_removeRack_0 (rX9_removeRack n) x1 M).trans h)
set_option maxRecDepth 20000 in
theorem gX9_removeRack_6 (k : Nat → List am_V → List am_V → am_M → am_R) (x1 : Int32) (y0 : Int32) (M : am_M) : gX9_removeRack k 6 [.inr (9, 0), .inl (.int x1)] [.inl (.int y0)] M =
  am_ret [] 6 [] (k 9 [.inr (9, 0), .inl (.int x1)]) (fX9_demandArgument [.inl (.int y0)] M) := (rfl)
theorem eX9_removeRack_6 {n : Nat} {x1 : Int32} {y0 : Int32} {M : am_M} {res : am_O × am_M} (h : (am_ret [] 6 [] (rX9_removeRack n 9 [.inr (9, 0), .inl (.int x1)]) (fX9_demandArgument [.inl (.int y0)] M)) = some res) : rX9_removeRack (n + 100) 6 [.inr (9, 0), .inl (.int x1)] [.inl (.int y0)] M = some res := uX9_removeRack ((gX9_removeRack_6 (rX9_removeRack n) x1 y0 M).trans h)
set_option maxRecDepth 20000 in
theorem gX9_removeRack_9 (k : Nat → List am_V → List am_V → am_M → am_R) (x1 : Int32) (M : am_M) : gX9_removeRack k 9 [.inr (9, 0), .inl (.int x1)] [] M =
  if am_in x1 6 then
   am_ret [] 15 [] (k 18 [.inr (9, 0), .inl (.int x1)]) (fX8_isEmpty [.inr (8, (Int32.toNatClampNeg x1))] M)
  else none := (rfl)
theorem eX9_removeRack_9 {n : Nat} {x1 : Int32} {M : am_M} {res : am_O × am_M} (h : (if am_in x1 6 then
   am_ret [] 15 [] (rX9_removeRack n 18 [.inr (9, 0), .inl (.int x1)]) (fX8_isEmpty [.inr (8, (Int32.toNatClampNeg x1))] M)
  else none) = some res) : rX9_removeRack (n + 100) 9 [.inr (9, 0), .inl (.int x1)] [] M = some res := uX9_removeRack ((gX9_removeRack_9 (rX9_removeRack n) x1 M).trans h)
set_option maxRecDepth 20000 in
theorem gX9_removeRack_18 (k : Nat → List am_V → List am_V → am_M → am_R) (x1 : Int32) (y0 : Int32) (M : am_M) : gX9_removeRack k 18 [.inr (9, 0), .inl (.int x1)] [.inl (.int y0)] M =
  if y0 = 0 then
   am_ret [] 26 [] (k 29 [.inr (9, 0), .inl (.int x1)]) (fX9_demandElement [.inl (.int 1)] M)
  else am_ret [] 26 [] (k 29 [.inr (9, 0), .inl (.int x1)]) (fX9_demandElement [.inl (.int 0)] M) := (rfl)
theorem eX9_removeRack_18 {n : Nat} {x1 : Int32} {y0 : Int32} {M : am_M} {res : am_O × am_M} (h : (if y0 = 0 then
   am_ret [] 26 [] (rX9_removeRack n 29 [.inr (9, 0), .inl (.int x1)]) (fX9_demandElement [.inl (.int 1)] M)
  else am_ret [] 26 [] (rX9_removeRack n 29 [.inr (9, 0), .inl (.int x1)]) (fX9_demandElement [.inl (.int 0)] M)) = some res) : rX9_removeRack (n + 100) 18 [.inr (9, 0), .inl (.int x1)] [.inl (.int y0)] M = some res := uX9_removeRack ((gX9_removeRack_18 (rX9_removeRack n) x1 y0 M).trans h)
set_option maxRecDepth 20000 in
theorem gX9_removeRack_29 (k : Nat → List am_V → List am_V → am_M → am_R) (x1 : Int32) (M : am_M) : gX9_removeRack k 29 [.inr (9, 0), .inl (.int x1)] [] M =
  if am_in x1 6 then
   am_ret [] 39 [] (k 42 [.inr (9, 0), .inl (.int x1)]) (fX9_isAwaited [.inr (9, 0), .inl (.int (M 8 (Int32.toNatClampNeg x1) 0))] M)
  else none := (rfl)
theorem eX9_removeRack_29 {n : Nat} {x1 : Int32} {M : am_M} {res : am_O × am_M} (h : (if am_in x1 6 then
   am_ret [] 39 [] (rX9_removeRack n 42 [.inr (9, 0), .inl (.int x1)]) (fX9_isAwaited [.inr (9, 0), .inl (.int (M 8 (Int32.toNatClampNeg x1) 0))] M)
  else none) = some res) : rX9_removeRack (n + 100) 29 [.inr (9, 0), .inl (.int x1)] [] M = some res := uX9_removeRack ((gX9_removeRack_29 (rX9_removeRack n) x1 M).trans h)
set_option maxRecDepth 20000 in
theorem gX9_removeRack_42 (k : Nat → List am_V → List am_V → am_M → am_R) (x1 : Int32) (y0 : Int32) (M : am_M) : gX9_removeRack k 42 [.inr (9, 0), .inl (.int x1)] [.inl (.int y0)] M =
  if y0 = 0 then
   am_ret [] 50 [] (k 53 [.inr (9, 0), .inl (.int x1)]) (fX9_demandState [.inl (.int 1)] M)
  else am_ret [] 50 [] (k 53 [.inr (9, 0), .inl (.int x1)]) (fX9_demandState [.inl (.int 0)] M) := (rfl)
theorem eX9_removeRack_42 {n : Nat} {x1 : Int32} {y0 : Int32} {M : am_M} {res : am_O × am_M} (h : (if y0 = 0 then
   am_ret [] 50 [] (rX9_removeRack n 53 [.inr (9, 0), .inl (.int x1)]) (fX9_demandState [.inl (.int 1)] M)
  else am_ret [] 50 [] (rX9_removeRack n 53 [.inr (9, 0), .inl (.int x1)]) (fX9_demandState [.inl (.int 0)] M)) = some res) : rX9_removeRack (n + 100) 42 [.inr (9, 0), .inl (.int x1)] [.inl (.int y0)] M = some res := uX9_removeRack ((gX9_removeRack_42 (rX9_removeRack n) x1 y0 M).trans h)
set_option maxRecDepth 20000 in
theorem gX9_removeRack_53 (k : Nat → List am_V → List am_V → am_M → am_R) (x1 : Int32) (M : am_M) : gX9_removeRack k 53 [.inr (9, 0), .inl (.int x1)] [] M =
  if am_in x1 6 then
   if am_in x1 6 then
    some (.inl (some (.inl (.int ((am_put M 8 (Int32.toNatClampNeg x1) 0 (-1)) 8 (Int32.toNatClampNeg x1) 2)))), (am_put M 8 (Int32.toNatClampNeg x1) 0 (-1)))
   else none
  else none := (rfl)
theorem eX9_removeRack_53 {n : Nat} {x1 : Int32} {M : am_M} {res : am_O × am_M} (h : (if am_in x1 6 then
   if am_in x1 6 then
    some (.inl (some (.inl (.int ((am_put M 8 (Int32.toNatClampNeg x1) 0 (-1)) 8 (Int32.toNatClampNeg x1) 2)))), (am_put M 8 (Int32.toNatClampNeg x1) 0 (-1)))
   else none
  else none) = some res) : rX9_removeRack (n + 100) 53 [.inr (9, 0), .inl (.int x1)] [] M = some res := uX9_removeRack ((gX9_removeRack_53 (rX9_removeRack n) x1 M).trans h)
def rX9_reagent (n pc : Nat) (ls st : List am_V) (M : am_M) : am_R := am_run [fX9_isWithin, fX9_demandArgument, fX9_demandState, fX5_fill] [] 0 am_X0 pX9_reagent n pc ls st M
def gX9_reagent (k : Nat → List am_V → List am_V → am_M → am_R) (pc : Nat) (ls st : List am_V) (M : am_M) : am_R := am_go [fX9_isWithin, fX9_demandArgument, fX9_demandState, fX5_fill] [] 0 am_X0 pX9_reagent [7, 16, 27, 34, 50, 70] k 100 pc ls st M
theorem uX9_reagent {n pc : Nat} {ls st : List am_V} {M : am_M} {res : am_O × am_M} (h : gX9_reagent (rX9_reagent n) pc ls st M = some res) : rX9_reagent (n + 100) pc ls st M = some res := am_go_ok h
theorem eX9_reagent (x1 : Int32) (x2 : Int32) (x3 : Int32) (x4 : Int32) (M : am_M) : fX9_reagent [.inr (9, 0), .inl (.int x1), .inl (.int x2), .inl (.int x3), .inl (.int x4)] M = rX9_reagent 100000 0 [.inr (9, 0), .inl (.int x1), .inl (.int x2), .inl (.int x3), .inl (.int x4)] [] M := am_meth_eq rfl rfl
set_option maxRecDepth 20000 in
theorem gX9_reagent_0 (k : Nat → List am_V → List am_V → am_M → am_R) (x1 : Int32) (x2 : Int32) (x3 : Int32) (x4 : Int32) (M : am_M) : gX9_reagent k 0 [.inr (9, 0), .inl (.int x1), .inl (.int x2), .inl (.int x3), .inl (.int x4)] [] M =
  am_ret [] 4 [] (k 7 [.inr (9, 0), .inl (.int x1), .inl (.int x2), .inl (.int x3), .inl (.int x4)]) (fX9_isWithin [.inl (.int x1), .inl (.int 0), .inl (.int 7)] M) := (rfl)
theorem eX9_reagent_0 {n : Nat} {x1 : Int32} {x2 : Int32} {x3 : Int32} {x4 : Int32} {M : am_M} {res : am_O × am_M} (h : (am_ret [] 4 [] (rX9_reagent n 7 [.inr (9, 0), .inl (.int x1), .inl (.int x2), .inl (.int x3), .inl (.int x4)]) (fX9_isWithin [.inl (.int x1), .inl (.int 0), .inl (.int 7)] M)) = some res) : rX9_reagent (n + 100) 0 [.inr (9, 0), .inl (.int x1), .inl (.int x2), .inl (.int x3), .inl (.int x4)] [] M = some res := uX9_reagent ((gX9_reagent_0 (rX9_reagent n) x1 x2 x3 x4 M).trans h)
set_option maxRecDepth 20000 in
theorem gX9_reagent_7 (k : Nat → List am_V → List am_V → am_M → am_R) (x1 : Int32) (x2 : Int32) (x3 : Int32) (x4 : Int32) (y0 : Int32) (M : am_M) : gX9_reagent k 7 [.inr (9, 0), .inl (.int x1), .inl (.int x2), .inl (.int x3), .inl (.int x4)] [.inl (.int y0)] M =
  if y0 = 0 then
   am_ret [] 24 [] (k 27 [.inr (9, 0), .inl (.int x1), .inl (.int x2), .inl (.int x3), .inl (.int x4)]) (fX9_demandArgument [.inl (.int 0)] M)
  else am_ret [] 13 [] (k 16 [.inr (9, 0), .inl (.int x1), .inl (.int x2), .inl (.int x3), .inl (.int x4)]) (fX9_isWithin [.inl (.int x2), .inl (.int 0), .inl (.int 5)] M) := (rfl)
theorem eX9_reagent_7 {n : Nat} {x1 : Int32} {x2 : Int32} {x3 : Int32} {x4 : Int32} {y0 : Int32} {M : am_M} {res : am_O × am_M} (h : (if y0 = 0 then
   am_ret [] 24 [] (rX9_reagent n 27 [.inr (9, 0), .inl (.int x1), .inl (.int x2), .inl (.int x3), .inl (.int x4)]) (fX9_demandArgument [.inl (.int 0)] M)
  else am_ret [] 13 [] (rX9_reagent n 16 [.inr (9, 0), .inl (.int x1), .inl (.int x2), .inl (.int x3), .inl (.int x4)]) (fX9_isWithin [.inl (.int x2), .inl (.int 0), .inl (.int 5)] M)) = some res) : rX9_reagent (n + 100) 7 [.inr (9, 0), .inl (.int x1), .inl (.int x2), .inl (.int x3), .inl (.int x4)] [.inl (.int y0)] M = some res := uX9_reagent ((gX9_reagent_7 (rX9_reagent n) x1 x2 x3 x4 y0 M).trans h)
set_option maxRecDepth 20000 in
theorem gX9_reagent_27 (k : Nat → List am_V → List am_V → am_M → am_R) (x1 : Int32) (x2 : Int32) (x3 : Int32) (x4 : Int32) (M : am_M) : gX9_reagent k 27 [.inr (9, 0), .inl (.int x1), .inl (.int x2), .inl (.int x3), .inl (.int x4)] [] M =
  am_ret [] 31 [] (k 34 [.inr (9, 0), .inl (.int x1), .inl (.int x2), .inl (.int x3), .inl (.int x4)]) (fX9_isWithin [.inl (.int x3), .inl (.int 0), .inl (.int 100000)] M) := (rfl)
theorem eX9_reagent_27 {n : Nat} {x1 : Int32} {x2 : Int32} {x3 : Int32} {x4 : Int32} {M : am_M} {res : am_O × am_M} (h : (am_ret [] 31 [] (rX9_reagent n 34 [.inr (9, 0), .inl (.int x1), .inl (.int x2), .inl (.int x3), .inl (.int x4)]) (fX9_isWithin [.inl (.int x3), .inl (.int 0), .inl (.int 100000)] M)) = some res) : rX9_reagent (n + 100) 27 [.inr (9, 0), .inl (.int x1), .inl (.int x2), .inl (.int x3), .inl (.int x4)] [] M = some res := uX9_reagent ((gX9_reagent_27 (rX9_reagent n) x1 x2 x3 x4 M).trans h)
set_option maxRecDepth 20000 in
theorem gX9_reagent_16 (k : Nat → List am_V → List am_V → am_M → am_R) (x1 : Int32) (x2 : Int32) (x3 : Int32) (x4 : Int32) (y0 : Int32) (M : am_M) : gX9_reagent k 16 [.inr (9, 0), .inl (.int x1), .inl (.int x2), .inl (.int x3), .inl (.int x4)] [.inl (.int y0)] M =
  if y0 = 0 then
   am_ret [] 24 [] (k 27 [.inr (9, 0), .inl (.int x1), .inl (.int x2), .inl (.int x3), .inl (.int x4)]) (fX9_demandArgument [.inl (.int 0)] M)
  else am_ret [] 24 [] (k 27 [.inr (9, 0), .inl (.int x1), .inl (.int x2), .inl (.int x3), .inl (.int x4)]) (fX9_demandArgument [.inl (.int 1)] M) := (rfl)
theorem eX9_reagent_16 {n : Nat} {x1 : Int32} {x2 : Int32} {x3 : Int32} {x4 : Int32} {y0 : Int32} {M : am_M} {res : am_O × am_M} (h : (if y0 = 0 then
   am_ret [] 24 [] (rX9_reagent n 27 [.inr (9, 0), .inl (.int x1), .inl (.int x2), .inl (.int x3), .inl (.int x4)]) (fX9_demandArgument [.inl (.int 0)] M)
  else am_ret [] 24 [] (rX9_reagent n 27 [.inr (9, 0), .inl (.int x1), .inl (.int x2), .inl (.int x3), .inl (.int x4)]) (fX9_demandArgument [.inl (.int 1)] M)) = some res) : rX9_reagent (n + 100) 16 [.inr (9, 0), .inl (.int x1), .inl (.int x2), .inl (.int x3), .inl (.int x4)] [.inl (.int y0)] M = some res := uX9_reagent ((gX9_reagent_16 (rX9_reagent n) x1 x2 x3 x4 y0 M).trans h)
set_option maxRecDepth 20000 in
theorem gX9_reagent_34 (k : Nat → List am_V → List am_V → am_M → am_R) (x1 : Int32) (x2 : Int32) (x3 : Int32) (x4 : Int32) (y0 : Int32) (M : am_M) : gX9_reagent k 34 [.inr (9, 0), .inl (.int x1), .inl (.int x2), .inl (.int x3), .inl (.int x4)] [.inl (.int y0)] M =
  if y0 = 0 then
   am_ret [] 47 [] (k 50 [.inr (9, 0), .inl (.int x1), .inl (.int x2), .inl (.int x3), .inl (.int x4)]) (fX9_demandArgument [.inl (.int 0)] M)
  else if x4 < 0 then
   am_ret [] 47 [] (k 50 [.inr (9, 0), .inl (.int x1), .inl (.int x2), .inl (.int x3), .inl (.int x4)]) (fX9_demandArgument [.inl (.int 0)] M)
  else am_ret [] 47 [] (k 50 [.inr (9, 0), .inl (.int x1), .inl (.int x2), .inl (.int x3), .inl (.int x4)]) (fX9_demandArgument [.inl (.int 1)] M) := (rfl)
theorem eX9_reagent_34 {n : Nat} {x1 : Int32} {x2 : Int32} {x3 : Int32} {x4 : Int32} {y0 : Int32} {M : am_M} {res : am_O × am_M} (h : (if y0 = 0 then
   am_ret [] 47 [] (rX9_reagent n 50 [.inr (9, 0), .inl (.int x1), .inl (.int x2), .inl (.int x3), .inl (.int x4)]) (fX9_demandArgument [.inl (.int 0)] M)
  else if x4 < 0 then
   am_ret [] 47 [] (rX9_reagent n 50 [.inr (9, 0), .inl (.int x1), .inl (.int x2), .inl (.int x3), .inl (.int x4)]) (fX9_demandArgument [.inl (.int 0)] M)
  else am_ret [] 47 [] (rX9_reagent n 50 [.inr (9, 0), .inl (.int x1), .inl (.int x2), .inl (.int x3), .inl (.int x4)]) (fX9_demandArgument [.inl (.int 1)] M)) = some res) : rX9_reagent (n + 100) 34 [.inr (9, 0), .inl (.int x1), .inl (.int x2), .inl (.int x3), .inl (.int x4)] [.inl (.int y0)] M = some res := uX9_reagent ((gX9_reagent_34 (rX9_reagent n) x1 x2 x3 x4 y0 M).trans h)
set_option maxRecDepth 20000 in
theorem gX9_reagent_50 (k : Nat → List am_V → List am_V → am_M → am_R) (x1 : Int32) (x2 : Int32) (x3 : Int32) (x4 : Int32) (M : am_M) : gX9_reagent k 50 [.inr (9, 0), .inl (.int x1), .inl (.int x2), .inl (.int x3), .inl (.int x4)] [] M =
  if am_in x1 8 then
   if (M 5 (Int32.toNatClampNeg x1) 2) = 0 then
    am_ret [] 67 [] (k 70 [.inr (9, 0), .inl (.int x1), .inl (.int x2), .inl (.int x3), .inl (.int x4)]) (fX9_demandState [.inl (.int 1)] M)
   else am_ret [] 67 [] (k 70 [.inr (9, 0), .inl (.int x1), .inl (.int x2), .inl (.int x3), .inl (.int x4)]) (fX9_demandState [.inl (.int 0)] M)
  else none := (rfl)
theorem eX9_reagent_50 {n : Nat} {x1 : Int32} {x2 : Int32} {x3 : Int32} {x4 : Int32} {M : am_M} {res : am_O × am_M} (h : (if am_in x1 8 then
   if (M 5 (Int32.toNatClampNeg x1) 2) = 0 then
    am_ret [] 67 [] (rX9_reagent n 70 [.inr (9, 0), .inl (.int x1), .inl (.int x2), .inl (.int x3), .inl (.int x4)]) (fX9_demandState [.inl (.int 1)] M)
   else am_ret [] 67 [] (rX9_reagent n 70 [.inr (9, 0), .inl (.int x1), .inl (.int x2), .inl (.int x3), .inl (.int x4)]) (fX9_demandState [.inl (.int 0)] M)
  else none) = some res) : rX9_reagent (n + 100) 50 [.inr (9, 0), .inl (.int x1), .inl (.int x2), .inl (.int x3), .inl (.int x4)] [] M = some res := uX9_reagent ((gX9_reagent_50 (rX9_reagent n) x1 x2 x3 x4 M).trans h)
set_option maxRecDepth 20000 in
theorem gX9_reagent_70 (k : Nat → List am_V → List am_V → am_M → am_R) (x1 : Int32) (x2 : Int32) (x3 : Int32) (x4 : Int32) (M : am_M) : gX9_reagent k 70 [.inr (9, 0), .inl (.int x1), .inl (.int x2), .inl (.int x3), .inl (.int x4)] [] M =
  if am_in x1 8 then
   some (.inl none, (am_put (am_put (am_put M 5 (Int32.toNatClampNeg x1) 0 x2) 5 (Int32.toNatClampNeg x1) 1 x3) 5 (Int32.toNatClampNeg x1) 3 x4))
  else none := (rfl)
theorem eX9_reagent_70 {n : Nat} {x1 : Int32} {x2 : Int32} {x3 : Int32} {x4 : Int32} {M : am_M} {res : am_O × am_M} (h : (if am_in x1 8 then
   some (.inl none, (am_put (am_put (am_put M 5 (Int32.toNatClampNeg x1) 0 x2) 5 (Int32.toNatClampNeg x1) 1 x3) 5 (Int32.toNatClampNeg x1) 3 x4))
  else none) = some res) : rX9_reagent (n + 100) 70 [.inr (9, 0), .inl (.int x1), .inl (.int x2), .inl (.int x3), .inl (.int x4)] [] M = some res := uX9_reagent ((gX9_reagent_70 (rX9_reagent n) x1 x2 x3 x4 M).trans h)
def rX9_forbid (n pc : Nat) (ls st : List am_V) (M : am_M) : am_R := am_run [fX9_isWithin, fX9_demandArgument, fX7_turnSuccession] [] 2 am_X0 pX9_forbid n pc ls st M
def gX9_forbid (k : Nat → List am_V → List am_V → am_M → am_R) (pc : Nat) (ls st : List am_V) (M : am_M) : am_R := am_go [fX9_isWithin, fX9_demandArgument, fX7_turnSuccession] [] 2 am_X0 pX9_forbid [6, 15, 26, 35] k 100 pc ls st M
theorem uX9_forbid {n pc : Nat} {ls st : List am_V} {M : am_M} {res : am_O × am_M} (h : gX9_forbid (rX9_forbid n) pc ls st M = some res) : rX9_forbid (n + 100) pc ls st M = some res := am_go_ok h
theorem eX9_forbid (x1 : Int32) (x2 : Int32) (M : am_M) : fX9_forbid [.inr (9, 0), .inl (.int x1), .inl (.int x2)] M = rX9_forbid 100000 0 [.inr (9, 0), .inl (.int x1), .inl (.int x2)] [] M := am_meth_eq rfl rfl
set_option maxRecDepth 20000 in
theorem gX9_forbid_0 (k : Nat → List am_V → List am_V → am_M → am_R) (x1 : Int32) (x2 : Int32) (M : am_M) : gX9_forbid k 0 [.inr (9, 0), .inl (.int x1), .inl (.int x2)] [] M =
  am_ret [] 3 [] (k 6 [.inr (9, 0), .inl (.int x1), .inl (.int x2)]) (fX9_isWithin [.inl (.int x1), .inl (.int 0), .inl (.int 5)] M) := (rfl)
theorem eX9_forbid_0 {n : Nat} {x1 : Int32} {x2 : Int32} {M : am_M} {res : am_O × am_M} (h : (am_ret [] 3 [] (rX9_forbid n 6 [.inr (9, 0), .inl (.int x1), .inl (.int x2)]) (fX9_isWithin [.inl (.int x1), .inl (.int 0), .inl (.int 5)] M)) = some res) : rX9_forbid (n + 100) 0 [.inr (9, 0), .inl (.int x1), .inl (.int x2)] [] M = some res := uX9_forbid ((gX9_forbid_0 (rX9_forbid n) x1 x2 M).trans h)
set_option maxRecDepth 20000 in
theorem gX9_forbid_6 (k : Nat → List am_V → List am_V → am_M → am_R) (x1 : Int32) (x2 : Int32) (y0 : Int32) (M : am_M) : gX9_forbid k 6 [.inr (9, 0), .inl (.int x1), .inl (.int x2)] [.inl (.int y0)] M =
  if y0 = 0 then
   am_ret [] 23 [] (k 26 [.inr (9, 0), .inl (.int x1), .inl (.int x2)]) (fX9_demandArgument [.inl (.int 0)] M)
  else am_ret [] 12 [] (k 15 [.inr (9, 0), .inl (.int x1), .inl (.int x2)]) (fX9_isWithin [.inl (.int x2), .inl (.int 0), .inl (.int 5)] M) := (rfl)
theorem eX9_forbid_6 {n : Nat} {x1 : Int32} {x2 : Int32} {y0 : Int32} {M : am_M} {res : am_O × am_M} (h : (if y0 = 0 then
   am_ret [] 23 [] (rX9_forbid n 26 [.inr (9, 0), .inl (.int x1), .inl (.int x2)]) (fX9_demandArgument [.inl (.int 0)] M)
  else am_ret [] 12 [] (rX9_forbid n 15 [.inr (9, 0), .inl (.int x1), .inl (.int x2)]) (fX9_isWithin [.inl (.int x2), .inl (.int 0), .inl (.int 5)] M)) = some res) : rX9_forbid (n + 100) 6 [.inr (9, 0), .inl (.int x1), .inl (.int x2)] [.inl (.int y0)] M = some res := uX9_forbid ((gX9_forbid_6 (rX9_forbid n) x1 x2 y0 M).trans h)
set_option maxRecDepth 20000 in
theorem gX9_forbid_26 (k : Nat → List am_V → List am_V → am_M → am_R) (x1 : Int32) (x2 : Int32) (M : am_M) : gX9_forbid k 26 [.inr (9, 0), .inl (.int x1), .inl (.int x2)] [] M =
  am_ret [] 32 [] (k 35 [.inr (9, 0), .inl (.int x1), .inl (.int x2)]) (fX7_turnSuccession [.inr (7, 0), .inl (.int x1), .inl (.int x2)] M) := (rfl)
theorem eX9_forbid_26 {n : Nat} {x1 : Int32} {x2 : Int32} {M : am_M} {res : am_O × am_M} (h : (am_ret [] 32 [] (rX9_forbid n 35 [.inr (9, 0), .inl (.int x1), .inl (.int x2)]) (fX7_turnSuccession [.inr (7, 0), .inl (.int x1), .inl (.int x2)] M)) = some res) : rX9_forbid (n + 100) 26 [.inr (9, 0), .inl (.int x1), .inl (.int x2)] [] M = some res := uX9_forbid ((gX9_forbid_26 (rX9_forbid n) x1 x2 M).trans h)
set_option maxRecDepth 20000 in
theorem gX9_forbid_15 (k : Nat → List am_V → List am_V → am_M → am_R) (x1 : Int32) (x2 : Int32) (y0 : Int32) (M : am_M) : gX9_forbid k 15 [.inr (9, 0), .inl (.int x1), .inl (.int x2)] [.inl (.int y0)] M =
  if y0 = 0 then
   am_ret [] 23 [] (k 26 [.inr (9, 0), .inl (.int x1), .inl (.int x2)]) (fX9_demandArgument [.inl (.int 0)] M)
  else am_ret [] 23 [] (k 26 [.inr (9, 0), .inl (.int x1), .inl (.int x2)]) (fX9_demandArgument [.inl (.int 1)] M) := (rfl)
theorem eX9_forbid_15 {n : Nat} {x1 : Int32} {x2 : Int32} {y0 : Int32} {M : am_M} {res : am_O × am_M} (h : (if y0 = 0 then
   am_ret [] 23 [] (rX9_forbid n 26 [.inr (9, 0), .inl (.int x1), .inl (.int x2)]) (fX9_demandArgument [.inl (.int 0)] M)
  else am_ret [] 23 [] (rX9_forbid n 26 [.inr (9, 0), .inl (.int x1), .inl (.int x2)]) (fX9_demandArgument [.inl (.int 1)] M)) = some res) : rX9_forbid (n + 100) 15 [.inr (9, 0), .inl (.int x1), .inl (.int x2)] [.inl (.int y0)] M = some res := uX9_forbid ((gX9_forbid_15 (rX9_forbid n) x1 x2 y0 M).trans h)
set_option maxRecDepth 20000 in
theorem gX9_forbid_35 (k : Nat → List am_V → List am_V → am_M → am_R) (x1 : Int32) (x2 : Int32) (y0 : Int32) (M : am_M) : gX9_forbid k 35 [.inr (9, 0), .inl (.int x1), .inl (.int x2)] [.inl (.int y0)] M =
  Option.map (fun o => (o, M)) (am_fin 2 .ireturn [.inr (9, 0), .inl (.int x1), .inl (.int x2)] [.inl (.int y0)]) := (rfl)
theorem eX9_forbid_35 {n : Nat} {x1 : Int32} {x2 : Int32} {y0 : Int32} {M : am_M} {res : am_O × am_M} (h : (Option.map (fun o => (o, M)) (am_fin 2 .ireturn [.inr (9, 0), .inl (.int x1), .inl (.int x2)] [.inl (.int y0)])) = some res) : rX9_forbid (n + 100) 35 [.inr (9, 0), .inl (.int x1), .inl (.int x2)] [.inl (.int y0)] M = some res := uX9_forbid ((gX9_forbid_35 (rX9_forbid n) x1 x2 y0 M).trans h)
def rX9_order (n pc : Nat) (ls st : List am_V) (M : am_M) : am_R := am_run [fX9_isWithin, fX9_demandArgument, fX9_demandState, fX4_place] [] 1 am_X0 pX9_order n pc ls st M
def gX9_order (k : Nat → List am_V → List am_V → am_M → am_R) (pc : Nat) (ls st : List am_V) (M : am_M) : am_R := am_go [fX9_isWithin, fX9_demandArgument, fX9_demandState, fX4_place] [] 1 am_X0 pX9_order [7, 16, 27, 56, 75] k 100 pc ls st M
theorem uX9_order {n pc : Nat} {ls st : List am_V} {M : am_M} {res : am_O × am_M} (h : gX9_order (rX9_order n) pc ls st M = some res) : rX9_order (n + 100) pc ls st M = some res := am_go_ok h
theorem eX9_order (x1 : Int32) (x2 : Int32) (x3 : Int32) (M : am_M) : fX9_order [.inr (9, 0), .inl (.int x1), .inl (.int x2), .inl (.int x3)] M = rX9_order 100000 0 [.inr (9, 0), .inl (.int x1), .inl (.int x2), .inl (.int x3), am_D] [] M := am_meth_eq rfl rfl
set_option maxRecDepth 20000 in
theorem gX9_order_0 (k : Nat → List am_V → List am_V → am_M → am_R) (x1 : Int32) (x2 : Int32) (x3 : Int32) (M : am_M) : gX9_order k 0 [.inr (9, 0), .inl (.int x1), .inl (.int x2), .inl (.int x3), am_D] [] M =
  am_ret [] 4 [] (k 7 [.inr (9, 0), .inl (.int x1), .inl (.int x2), .inl (.int x3), am_D]) (fX9_isWithin [.inl (.int x1), .inl (.int 1), .inl (.int 999999)] M) := (rfl)
theorem eX9_order_0 {n : Nat} {x1 : Int32} {x2 : Int32} {x3 : Int32} {M : am_M} {res : am_O × am_M} (h : (am_ret [] 4 [] (rX9_order n 7 [.inr (9, 0), .inl (.int x1), .inl (.int x2), .inl (.int x3), am_D]) (fX9_isWithin [.inl (.int x1), .inl (.int 1), .inl (.int 999999)] M)) = some res) : rX9_order (n + 100) 0 [.inr (9, 0), .inl (.int x1), .inl (.int x2), .inl (.int x3), am_D] [] M = some res := uX9_order ((gX9_order_0 (rX9_order n) x1 x2 x3 M).trans h)
set_option maxRecDepth 20000 in
theorem gX9_order_7 (k : Nat → List am_V → List am_V → am_M → am_R) (x1 : Int32) (x2 : Int32) (x3 : Int32) (y0 : Int32) (M : am_M) : gX9_order k 7 [.inr (9, 0), .inl (.int x1), .inl (.int x2), .inl (.int x3), am_D] [.inl (.int y0)] M =
  if y0 = 0 then
   am_ret [] 24 [] (k 27 [.inr (9, 0), .inl (.int x1), .inl (.int x2), .inl (.int x3), am_D]) (fX9_demandArgument [.inl (.int 0)] M)
  else am_ret [] 13 [] (k 16 [.inr (9, 0), .inl (.int x1), .inl (.int x2), .inl (.int x3), am_D]) (fX9_isWithin [.inl (.int x2), .inl (.int 0), .inl (.int 3)] M) := (rfl)
theorem eX9_order_7 {n : Nat} {x1 : Int32} {x2 : Int32} {x3 : Int32} {y0 : Int32} {M : am_M} {res : am_O × am_M} (h : (if y0 = 0 then
   am_ret [] 24 [] (rX9_order n 27 [.inr (9, 0), .inl (.int x1), .inl (.int x2), .inl (.int x3), am_D]) (fX9_demandArgument [.inl (.int 0)] M)
  else am_ret [] 13 [] (rX9_order n 16 [.inr (9, 0), .inl (.int x1), .inl (.int x2), .inl (.int x3), am_D]) (fX9_isWithin [.inl (.int x2), .inl (.int 0), .inl (.int 3)] M)) = some res) : rX9_order (n + 100) 7 [.inr (9, 0), .inl (.int x1), .inl (.int x2), .inl (.int x3), am_D] [.inl (.int y0)] M = some res := uX9_order ((gX9_order_7 (rX9_order n) x1 x2 x3 y0 M).trans h)
set_option maxRecDepth 20000 in
theorem gX9_order_27 (k : Nat → List am_V → List am_V → am_M → am_R) (x1 : Int32) (x2 : Int32) (x3 : Int32) (M : am_M) : gX9_order k 27 [.inr (9, 0), .inl (.int x1), .inl (.int x2), .inl (.int x3), am_D] [] M =
  if am_in x2 4 then
   if (am_b (M 6 (Int32.toNatClampNeg x2) 3)) = 0 then
    am_ret [] 53 [] (k 56 [.inr (9, 0), .inl (.int x1), .inl (.int x2), .inl (.int x3), am_D]) (fX9_demandState [.inl (.int 0)] M)
   else if 40 ≤ (M 9 0 7) then
    am_ret [] 53 [] (k 56 [.inr (9, 0), .inl (.int x1), .inl (.int x2), .inl (.int x3), am_D]) (fX9_demandState [.inl (.int 0)] M)
   else am_ret [] 53 [] (k 56 [.inr (9, 0), .inl (.int x1), .inl (.int x2), .inl (.int x3), am_D]) (fX9_demandState [.inl (.int 1)] M)
  else none := (rfl)
theorem eX9_order_27 {n : Nat} {x1 : Int32} {x2 : Int32} {x3 : Int32} {M : am_M} {res : am_O × am_M} (h : (if am_in x2 4 then
   if (am_b (M 6 (Int32.toNatClampNeg x2) 3)) = 0 then
    am_ret [] 53 [] (rX9_order n 56 [.inr (9, 0), .inl (.int x1), .inl (.int x2), .inl (.int x3), am_D]) (fX9_demandState [.inl (.int 0)] M)
   else if 40 ≤ (M 9 0 7) then
    am_ret [] 53 [] (rX9_order n 56 [.inr (9, 0), .inl (.int x1), .inl (.int x2), .inl (.int x3), am_D]) (fX9_demandState [.inl (.int 0)] M)
   else am_ret [] 53 [] (rX9_order n 56 [.inr (9, 0), .inl (.int x1), .inl (.int x2), .inl (.int x3), am_D]) (fX9_demandState [.inl (.int 1)] M)
  else none) = some res) : rX9_order (n + 100) 27 [.inr (9, 0), .inl (.int x1), .inl (.int x2), .inl (.int x3), am_D] [] M = some res := uX9_order ((gX9_order_27 (rX9_order n) x1 x2 x3 M).trans h)
set_option maxRecDepth 20000 in
theorem gX9_order_16 (k : Nat → List am_V → List am_V → am_M → am_R) (x1 : Int32) (x2 : Int32) (x3 : Int32) (y0 : Int32) (M : am_M) : gX9_order k 16 [.inr (9, 0), .inl (.int x1), .inl (.int x2), .inl (.int x3), am_D] [.inl (.int y0)] M =
  if y0 = 0 then
   am_ret [] 24 [] (k 27 [.inr (9, 0), .inl (.int x1), .inl (.int x2), .inl (.int x3), am_D]) (fX9_demandArgument [.inl (.int 0)] M)
  else am_ret [] 24 [] (k 27 [.inr (9, 0), .inl (.int x1), .inl (.int x2), .inl (.int x3), am_D]) (fX9_demandArgument [.inl (.int 1)] M) := (rfl)
theorem eX9_order_16 {n : Nat} {x1 : Int32} {x2 : Int32} {x3 : Int32} {y0 : Int32} {M : am_M} {res : am_O × am_M} (h : (if y0 = 0 then
   am_ret [] 24 [] (rX9_order n 27 [.inr (9, 0), .inl (.int x1), .inl (.int x2), .inl (.int x3), am_D]) (fX9_demandArgument [.inl (.int 0)] M)
  else am_ret [] 24 [] (rX9_order n 27 [.inr (9, 0), .inl (.int x1), .inl (.int x2), .inl (.int x3), am_D]) (fX9_demandArgument [.inl (.int 1)] M)) = some res) : rX9_order (n + 100) 16 [.inr (9, 0), .inl (.int x1), .inl (.int x2), .inl (.int x3), am_D] [.inl (.int y0)] M = some res := uX9_order ((gX9_order_16 (rX9_order n) x1 x2 x3 y0 M).trans h)
set_option maxRecDepth 20000 in
theorem gX9_order_56 (k : Nat → List am_V → List am_V → am_M → am_R) (x1 : Int32) (x2 : Int32) (x3 : Int32) (M : am_M) : gX9_order k 56 [.inr (9, 0), .inl (.int x1), .inl (.int x2), .inl (.int x3), am_D] [] M =
  if am_in (M 9 0 7) 40 then
   am_ret [] 72 [] (k 75 [.inr (9, 0), .inl (.int x1), .inl (.int x2), .inl (.int x3), .inl (.int (M 9 0 7))]) (fX4_place [.inr (4, (Int32.toNatClampNeg (M 9 0 7))), .inl (.int x1), .inl (.int x2), .inl (.int x3)] M)
  else none := (rfl)
theorem eX9_order_56 {n : Nat} {x1 : Int32} {x2 : Int32} {x3 : Int32} {M : am_M} {res : am_O × am_M} (h : (if am_in (M 9 0 7) 40 then
   am_ret [] 72 [] (rX9_order n 75 [.inr (9, 0), .inl (.int x1), .inl (.int x2), .inl (.int x3), .inl (.int (M 9 0 7))]) (fX4_place [.inr (4, (Int32.toNatClampNeg (M 9 0 7))), .inl (.int x1), .inl (.int x2), .inl (.int x3)] M)
  else none) = some res) : rX9_order (n + 100) 56 [.inr (9, 0), .inl (.int x1), .inl (.int x2), .inl (.int x3), am_D] [] M = some res := uX9_order ((gX9_order_56 (rX9_order n) x1 x2 x3 M).trans h)
set_option maxRecDepth 20000 in
theorem gX9_order_75 (k : Nat → List am_V → List am_V → am_M → am_R) (x1 : Int32) (x2 : Int32) (x3 : Int32) (x4 : Int32) (M : am_M) : gX9_order k 75 [.inr (9, 0), .inl (.int x1), .inl (.int x2), .inl (.int x3), .inl (.int x4)] [] M =
  some (.inl (some (.inl (.int x4))), (am_put M 9 0 7 (x4 + 1))) := (rfl)
theorem eX9_order_75 {n : Nat} {x1 : Int32} {x2 : Int32} {x3 : Int32} {x4 : Int32} {M : am_M} {res : am_O × am_M} (h : (some (.inl (some (.inl (.int x4))), (am_put M 9 0 7 (x4 + 1)))) = some res) : rX9_order (n + 100) 75 [.inr (9, 0), .inl (.int x1), .inl (.int x2), .inl (.int x3), .inl (.int x4)] [] M = some res := uX9_order ((gX9_order_75 (rX9_order n) x1 x2 x3 x4 M).trans h)
