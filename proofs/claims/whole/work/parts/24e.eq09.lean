/-! ===== the runs, piece by piece ===== -/
def rX9_clock (n pc : Nat) (ls st : List am_V) (M : am_M) : am_R := am_run [fX9_demandArgument] [] 0 am_X0 pX9_clock n pc ls st M
def gX9_clock (k : Nat → List am_V → List am_V → am_M → am_R) (pc : Nat) (ls st : List am_V) (M : am_M) : am_R := am_go [fX9_demandArgument] [] 0 am_X0 pX9_clock [16] k 100 pc ls st M
theorem uX9_clock {n pc : Nat} {ls st : List am_V} {M : am_M} {res : am_O × am_M} (h : gX9_clock (rX9_clock n) pc ls st M = some res) : rX9_clock (n + 100) pc ls st M = some res := am_go_ok h
theorem eX9_clock (x1 : Int32) (M : am_M) : fX9_clock [.inr (9, 0), .inl (.int x1)] M = rX9_clock 100000 0 [.inr (9, 0), .inl (.int x1)] [] M := am_meth_eq rfl rfl
set_option maxRecDepth 20000 in
theorem gX9_clock_0 (k : Nat → List am_V → List am_V → am_M → am_R) (x1 : Int32) (M : am_M) : gX9_clock k 0 [.inr (9, 0), .inl (.int x1)] [] M =
  if x1 < (M 9 0 8) then
   am_ret [] 13 [] (k 16 [.inr (9, 0), .inl (.int x1)]) (fX9_demandArgument [.inl (.int 0)] M)
  else am_ret [] 13 [] (k 16 [.inr (9, 0), .inl (.int x1)]) (fX9_demandArgument [.inl (.int 1)] M) := (rfl)
theorem eX9_clock_0 {n : Nat} {x1 : Int32} {M : am_M} {res : am_O × am_M} (h : (if x1 < (M 9 0 8) then
   am_ret [] 13 [] (rX9_clock n 16 [.inr (9, 0), .inl (.int x1)]) (fX9_demandArgument [.inl (.int 0)] M)
  else am_ret [] 13 [] (rX9_clock n 16 [.inr (9, 0), .inl (.int x1)]) (fX9_demandArgument [.inl (.int 1)] M)) = some res) : rX9_clock (n + 100) 0 [.inr (9, 0), .inl (.int x1)] [] M = some res := uX9_clock ((gX9_clock_0 (rX9_clock n) x1 M).trans h)
set_option maxRecDepth 20000 in
theorem gX9_clock_16 (k : Nat → List am_V → List am_V → am_M → am_R) (x1 : Int32) (M : am_M) : gX9_clock k 16 [.inr (9, 0), .inl (.int x1)] [] M =
  some (.inl none, (am_put M 9 0 8 x1)) := (rfl)
theorem eX9_clock_16 {n : Nat} {x1 : Int32} {M : am_M} {res : am_O × am_M} (h : (some (.inl none, (am_put M 9 0 8 x1))) = some res) : rX9_clock (n + 100) 16 [.inr (9, 0), .inl (.int x1)] [] M = some res := uX9_clock ((gX9_clock_16 (rX9_clock n) x1 M).trans h)
def rX9_light (n pc : Nat) (ls st : List am_V) (M : am_M) : am_R := am_run [fX9_isWithin, fX9_demandArgument] [] 0 am_X0 pX9_light n pc ls st M
def gX9_light (k : Nat → List am_V → List am_V → am_M → am_R) (pc : Nat) (ls st : List am_V) (M : am_M) : am_R := am_go [fX9_isWithin, fX9_demandArgument] [] 0 am_X0 pX9_light [7, 10] k 100 pc ls st M
theorem uX9_light {n pc : Nat} {ls st : List am_V} {M : am_M} {res : am_O × am_M} (h : gX9_light (rX9_light n) pc ls st M = some res) : rX9_light (n + 100) pc ls st M = some res := am_go_ok h
theorem eX9_light (x1 : Int32) (M : am_M) : fX9_light [.inr (9, 0), .inl (.int x1)] M = rX9_light 100000 0 [.inr (9, 0), .inl (.int x1)] [] M := am_meth_eq rfl rfl
set_option maxRecDepth 20000 in
theorem gX9_light_0 (k : Nat → List am_V → List am_V → am_M → am_R) (x1 : Int32) (M : am_M) : gX9_light k 0 [.inr (9, 0), .inl (.int x1)] [] M =
  am_ret [] 4 [] (k 7 [.inr (9, 0), .inl (.int x1)]) (fX9_isWithin [.inl (.int x1), .inl (.int 1), .inl (.int 65535)] M) := (rfl)
theorem eX9_light_0 {n : Nat} {x1 : Int32} {M : am_M} {res : am_O × am_M} (h : (am_ret [] 4 [] (rX9_light n 7 [.inr (9, 0), .inl (.int x1)]) (fX9_isWithin [.inl (.int x1), .inl (.int 1), .inl (.int 65535)] M)) = some res) : rX9_light (n + 100) 0 [.inr (9, 0), .inl (.int x1)] [] M = some res := uX9_light ((gX9_light_0 (rX9_light n) x1 M).trans h)
set_option maxRecDepth 20000 in
theorem gX9_light_7 (k : Nat → List am_V → List am_V → am_M → am_R) (x1 : Int32) (y0 : Int32) (M : am_M) : gX9_light k 7 [.inr (9, 0), .inl (.int x1)] [.inl (.int y0)] M =
  am_ret [] 7 [] (k 10 [.inr (9, 0), .inl (.int x1)]) (fX9_demandArgument [.inl (.int y0)] M) := (rfl)
theorem eX9_light_7 {n : Nat} {x1 : Int32} {y0 : Int32} {M : am_M} {res : am_O × am_M} (h : (am_ret [] 7 [] (rX9_light n 10 [.inr (9, 0), .inl (.int x1)]) (fX9_demandArgument [.inl (.int y0)] M)) = some res) : rX9_light (n + 100) 7 [.inr (9, 0), .inl (.int x1)] [.inl (.int y0)] M = some res := uX9_light ((gX9_light_7 (rX9_light n) x1 y0 M).trans h)
set_option maxRecDepth 20000 in
theorem gX9_light_10 (k : Nat → List am_V → List am_V → am_M → am_R) (x1 : Int32) (M : am_M) : gX9_light k 10 [.inr (9, 0), .inl (.int x1)] [] M =
  some (.inl none, (am_put M 9 0 9 x1)) := (rfl)
theorem eX9_light_10 {n : Nat} {x1 : Int32} {M : am_M} {res : am_O × am_M} (h : (some (.inl none, (am_put M 9 0 9 x1))) = some res) : rX9_light (n + 100) 10 [.inr (9, 0), .inl (.int x1)] [] M = some res := uX9_light ((gX9_light_10 (rX9_light n) x1 M).trans h)
def rX9_spoil (n pc : Nat) (ls st : List am_V) (M : am_M) : am_R := am_run [fX9_isWithin, fX9_demandArgument] [] 0 am_X0 pX9_spoil n pc ls st M
def gX9_spoil (k : Nat → List am_V → List am_V → am_M → am_R) (pc : Nat) (ls st : List am_V) (M : am_M) : am_R := am_go [fX9_isWithin, fX9_demandArgument] [] 0 am_X0 pX9_spoil [6, 9] k 100 pc ls st M
theorem uX9_spoil {n pc : Nat} {ls st : List am_V} {M : am_M} {res : am_O × am_M} (h : gX9_spoil (rX9_spoil n) pc ls st M = some res) : rX9_spoil (n + 100) pc ls st M = some res := am_go_ok h
theorem eX9_spoil (x1 : Int32) (M : am_M) : fX9_spoil [.inr (9, 0), .inl (.int x1)] M = rX9_spoil 100000 0 [.inr (9, 0), .inl (.int x1)] [] M := am_meth_eq rfl rfl
set_option maxRecDepth 20000 in
theorem gX9_spoil_0 (k : Nat → List am_V → List am_V → am_M → am_R) (x1 : Int32) (M : am_M) : gX9_spoil k 0 [.inr (9, 0), .inl (.int x1)] [] M =
  am_ret [] 3 [] (k 6 [.inr (9, 0), .inl (.int x1)]) (fX9_isWithin [.inl (.int x1), .inl (.int 0), .inl (.int 1)] M) := (rfl)
theorem eX9_spoil_0 {n : Nat} {x1 : Int32} {M : am_M} {res : am_O × am_M} (h : (am_ret [] 3 [] (rX9_spoil n 6 [.inr (9, 0), .inl (.int x1)]) (fX9_isWithin [.inl (.int x1), .inl (.int 0), .inl (.int 1)] M)) = some res) : rX9_spoil (n + 100) 0 [.inr (9, 0), .inl (.int x1)] [] M = some res := uX9_spoil ((gX9_spoil_0 (rX9_spoil n) x1 M).trans h)
set_option maxRecDepth 20000 in
theorem gX9_spoil_6 (k : Nat → List am_V → List am_V → am_M → am_R) (x1 : Int32) (y0 : Int32) (M : am_M) : gX9_spoil k 6 [.inr (9, 0), .inl (.int x1)] [.inl (.int y0)] M =
  am_ret [] 6 [] (k 9 [.inr (9, 0), .inl (.int x1)]) (fX9_demandArgument [.inl (.int y0)] M) := (rfl)
theorem eX9_spoil_6 {n : Nat} {x1 : Int32} {y0 : Int32} {M : am_M} {res : am_O × am_M} (h : (am_ret [] 6 [] (rX9_spoil n 9 [.inr (9, 0), .inl (.int x1)]) (fX9_demandArgument [.inl (.int y0)] M)) = some res) : rX9_spoil (n + 100) 6 [.inr (9, 0), .inl (.int x1)] [.inl (.int y0)] M = some res := uX9_spoil ((gX9_spoil_6 (rX9_spoil n) x1 y0 M).trans h)
set_option maxRecDepth 20000 in
theorem gX9_spoil_9 (k : Nat → List am_V → List am_V → am_M → am_R) (x1 : Int32) (M : am_M) : gX9_spoil k 9 [.inr (9, 0), .inl (.int x1)] [] M =
  if x1 = 0 then
   some (.inl none, (am_put M 9 0 10 1))
  else some (.inl none, (am_put M 9 0 11 1)) := (rfl)
theorem eX9_spoil_9 {n : Nat} {x1 : Int32} {M : am_M} {res : am_O × am_M} (h : (if x1 = 0 then
   some (.inl none, (am_put M 9 0 10 1))
  else some (.inl none, (am_put M 9 0 11 1))) = some res) : rX9_spoil (n + 100) 9 [.inr (9, 0), .inl (.int x1)] [] M = some res := uX9_spoil ((gX9_spoil_9 (rX9_spoil n) x1 M).trans h)
def rX9_turnDisc (n pc : Nat) (ls st : List am_V) (M : am_M) : am_R := am_run [fX1_turn, fX7_turn] [] 0 am_X0 pX9_turnDisc n pc ls st M
def gX9_turnDisc (k : Nat → List am_V → List am_V → am_M → am_R) (pc : Nat) (ls st : List am_V) (M : am_M) : am_R := am_go [fX1_turn, fX7_turn] [] 0 am_X0 pX9_turnDisc [2, 17, 30] k 100 pc ls st M
theorem uX9_turnDisc {n pc : Nat} {ls st : List am_V} {M : am_M} {res : am_O × am_M} (h : gX9_turnDisc (rX9_turnDisc n) pc ls st M = some res) : rX9_turnDisc (n + 100) pc ls st M = some res := am_go_ok h
theorem eX9_turnDisc (M : am_M) : fX9_turnDisc [.inr (9, 0)] M = rX9_turnDisc 100000 0 [.inr (9, 0), am_D] [] M := am_meth_eq rfl rfl
set_option maxRecDepth 20000 in
theorem gX9_turnDisc_0 (k : Nat → List am_V → List am_V → am_M → am_R) (M : am_M) : gX9_turnDisc k 0 [.inr (9, 0), am_D] [] M =
  k 2 [.inr (9, 0), .inl (.int 0)] [] M := (rfl)
theorem eX9_turnDisc_0 {n : Nat} {M : am_M} {res : am_O × am_M} (h : (rX9_turnDisc n 2 [.inr (9, 0), .inl (.int 0)] [] M) = some res) : rX9_turnDisc (n + 100) 0 [.inr (9, 0), am_D] [] M = some res := uX9_turnDisc ((gX9_turnDisc_0 (rX9_turnDisc n) M).trans h)
set_option maxRecDepth 20000 in
theorem gX9_turnDisc_2 (k : Nat → List am_V → List am_V → am_M → am_R) (x1 : Int32) (M : am_M) : gX9_turnDisc k 2 [.inr (9, 0), .inl (.int x1)] [] M =
  if 10 ≤ x1 then
   am_ret [] 27 [] (k 30 [.inr (9, 0), .inl (.int x1)]) (fX7_turn [.inr (7, 0)] M)
  else if am_in x1 10 then
   am_ret [] 14 [] (k 17 [.inr (9, 0), .inl (.int x1)]) (fX1_turn [.inr (1, (Int32.toNatClampNeg x1))] M)
  else none := (rfl)
theorem eX9_turnDisc_2 {n : Nat} {x1 : Int32} {M : am_M} {res : am_O × am_M} (h : (if 10 ≤ x1 then
   am_ret [] 27 [] (rX9_turnDisc n 30 [.inr (9, 0), .inl (.int x1)]) (fX7_turn [.inr (7, 0)] M)
  else if am_in x1 10 then
   am_ret [] 14 [] (rX9_turnDisc n 17 [.inr (9, 0), .inl (.int x1)]) (fX1_turn [.inr (1, (Int32.toNatClampNeg x1))] M)
  else none) = some res) : rX9_turnDisc (n + 100) 2 [.inr (9, 0), .inl (.int x1)] [] M = some res := uX9_turnDisc ((gX9_turnDisc_2 (rX9_turnDisc n) x1 M).trans h)
set_option maxRecDepth 20000 in
theorem gX9_turnDisc_30 (k : Nat → List am_V → List am_V → am_M → am_R) (x1 : Int32) (M : am_M) : gX9_turnDisc k 30 [.inr (9, 0), .inl (.int x1)] [] M =
  some (.inl none, M) := (rfl)
theorem eX9_turnDisc_30 {n : Nat} {x1 : Int32} {M : am_M} {res : am_O × am_M} (h : (some (.inl none, M)) = some res) : rX9_turnDisc (n + 100) 30 [.inr (9, 0), .inl (.int x1)] [] M = some res := uX9_turnDisc ((gX9_turnDisc_30 (rX9_turnDisc n) x1 M).trans h)
set_option maxRecDepth 20000 in
theorem gX9_turnDisc_17 (k : Nat → List am_V → List am_V → am_M → am_R) (x1 : Int32) (M : am_M) : gX9_turnDisc k 17 [.inr (9, 0), .inl (.int x1)] [] M =
  k 2 [.inr (9, 0), .inl (.int (x1 + 1))] [] M := (rfl)
theorem eX9_turnDisc_17 {n : Nat} {x1 : Int32} {M : am_M} {res : am_O × am_M} (h : (rX9_turnDisc n 2 [.inr (9, 0), .inl (.int (x1 + 1))] [] M) = some res) : rX9_turnDisc (n + 100) 17 [.inr (9, 0), .inl (.int x1)] [] M = some res := uX9_turnDisc ((gX9_turnDisc_17 (rX9_turnDisc n) x1 M).trans h)
def rX9_breakOff (n pc : Nat) (ls st : List am_V) (M : am_M) : am_R := am_run [fX9_isWithin, fX7_cancel, fX4_breakOff, fX1_sendToWash] [] 0 am_X0 pX9_breakOff n pc ls st M
def gX9_breakOff (k : Nat → List am_V → List am_V → am_M → am_R) (pc : Nat) (ls st : List am_V) (M : am_M) : am_R := am_go [fX9_isWithin, fX7_cancel, fX4_breakOff, fX1_sendToWash] [] 0 am_X0 pX9_breakOff [13, 32, 76, 90, 106] k 100 pc ls st M
theorem uX9_breakOff {n pc : Nat} {ls st : List am_V} {M : am_M} {res : am_O × am_M} (h : gX9_breakOff (rX9_breakOff n) pc ls st M = some res) : rX9_breakOff (n + 100) pc ls st M = some res := am_go_ok h
theorem eX9_breakOff (x1 : Int32) (x2 : Int32) (M : am_M) : fX9_breakOff [.inr (9, 0), .inl (.int x1), .inl (.int x2)] M = rX9_breakOff 100000 0 [.inr (9, 0), .inl (.int x1), .inl (.int x2), am_D, am_D] [] M := am_meth_eq rfl rfl
set_option maxRecDepth 20000 in
theorem gX9_breakOff_0 (k : Nat → List am_V → List am_V → am_M → am_R) (x1 : Int32) (x2 : Int32) (M : am_M) : gX9_breakOff k 0 [.inr (9, 0), .inl (.int x1), .inl (.int x2), am_D, am_D] [] M =
  if am_in x1 10 then
   k 13 [.inr (9, 0), .inl (.int x1), .inl (.int x2), .inr (1, (Int32.toNatClampNeg x1)), .inl (.int (M 1 (Int32.toNatClampNeg x1) 4))] [] M
  else none := (rfl)
theorem eX9_breakOff_0 {n : Nat} {x1 : Int32} {x2 : Int32} {M : am_M} {res : am_O × am_M} (h : (if am_in x1 10 then
   rX9_breakOff n 13 [.inr (9, 0), .inl (.int x1), .inl (.int x2), .inr (1, (Int32.toNatClampNeg x1)), .inl (.int (M 1 (Int32.toNatClampNeg x1) 4))] [] M
  else none) = some res) : rX9_breakOff (n + 100) 0 [.inr (9, 0), .inl (.int x1), .inl (.int x2), am_D, am_D] [] M = some res := uX9_breakOff ((gX9_breakOff_0 (rX9_breakOff n) x1 x2 M).trans h)
set_option maxRecDepth 20000 in
theorem gX9_breakOff_13 (k : Nat → List am_V → List am_V → am_M → am_R) (x1 : Int32) (x2 : Int32) (x3 : Nat) (x4 : Int32) (M : am_M) : gX9_breakOff k 13 [.inr (9, 0), .inl (.int x1), .inl (.int x2), .inr (1, x3), .inl (.int x4)] [] M =
  if 2 ≤ x4 then
   am_ret [] 73 [] (k 76 [.inr (9, 0), .inl (.int x1), .inl (.int x2), .inr (1, x3), .inl (.int x4)]) (fX7_cancel [.inr (7, 0), .inl (.int x1)] M)
  else if am_in x4 2 then
   am_ret [] 29 [] (k 32 [.inr (9, 0), .inl (.int x1), .inl (.int x2), .inr (1, x3), .inl (.int x4)]) (fX9_isWithin [.inl (.int (M 14 x3 (Int32.toNatClampNeg x4))), .inl (.int 0), .inl (.int 7)] M)
  else none := (rfl)
theorem eX9_breakOff_13 {n : Nat} {x1 : Int32} {x2 : Int32} {x3 : Nat} {x4 : Int32} {M : am_M} {res : am_O × am_M} (h : (if 2 ≤ x4 then
   am_ret [] 73 [] (rX9_breakOff n 76 [.inr (9, 0), .inl (.int x1), .inl (.int x2), .inr (1, x3), .inl (.int x4)]) (fX7_cancel [.inr (7, 0), .inl (.int x1)] M)
  else if am_in x4 2 then
   am_ret [] 29 [] (rX9_breakOff n 32 [.inr (9, 0), .inl (.int x1), .inl (.int x2), .inr (1, x3), .inl (.int x4)]) (fX9_isWithin [.inl (.int (M 14 x3 (Int32.toNatClampNeg x4))), .inl (.int 0), .inl (.int 7)] M)
  else none) = some res) : rX9_breakOff (n + 100) 13 [.inr (9, 0), .inl (.int x1), .inl (.int x2), .inr (1, x3), .inl (.int x4)] [] M = some res := uX9_breakOff ((gX9_breakOff_13 (rX9_breakOff n) x1 x2 x3 x4 M).trans h)
set_option maxRecDepth 20000 in
theorem gX9_breakOff_76 (k : Nat → List am_V → List am_V → am_M → am_R) (x1 : Int32) (x2 : Int32) (x3 : Nat) (x4 : Int32) (M : am_M) : gX9_breakOff k 76 [.inr (9, 0), .inl (.int x1), .inl (.int x2), .inr (1, x3), .inl (.int x4)] [] M =
  am_ret [] 87 [] (k 90 [.inr (9, 0), .inl (.int x1), .inl (.int x2), .inr (1, x3), .inl (.int x4)]) (fX9_isWithin [.inl (.int (M 1 x3 5)), .inl (.int 0), .inl (.int ((M 9 0 7) - 1))] M) := (rfl)
theorem eX9_breakOff_76 {n : Nat} {x1 : Int32} {x2 : Int32} {x3 : Nat} {x4 : Int32} {M : am_M} {res : am_O × am_M} (h : (am_ret [] 87 [] (rX9_breakOff n 90 [.inr (9, 0), .inl (.int x1), .inl (.int x2), .inr (1, x3), .inl (.int x4)]) (fX9_isWithin [.inl (.int (M 1 x3 5)), .inl (.int 0), .inl (.int ((M 9 0 7) - 1))] M)) = some res) : rX9_breakOff (n + 100) 76 [.inr (9, 0), .inl (.int x1), .inl (.int x2), .inr (1, x3), .inl (.int x4)] [] M = some res := uX9_breakOff ((gX9_breakOff_76 (rX9_breakOff n) x1 x2 x3 x4 M).trans h)
set_option maxRecDepth 20000 in
theorem gX9_breakOff_32 (k : Nat → List am_V → List am_V → am_M → am_R) (x1 : Int32) (x2 : Int32) (x3 : Nat) (x4 : Int32) (y0 : Int32) (M : am_M) : gX9_breakOff k 32 [.inr (9, 0), .inl (.int x1), .inl (.int x2), .inr (1, x3), .inl (.int x4)] [.inl (.int y0)] M =
  if y0 = 0 then
   k 13 [.inr (9, 0), .inl (.int x1), .inl (.int x2), .inr (1, x3), .inl (.int (x4 + 1))] [] M
  else if am_in x4 2 then
   if am_in (M 14 x3 (Int32.toNatClampNeg x4)) 8 then
    if am_in x4 2 then
     k 13 [.inr (9, 0), .inl (.int x1), .inl (.int x2), .inr (1, x3), .inl (.int (x4 + 1))] [] (am_put M 5 (Int32.toNatClampNeg (M 14 x3 (Int32.toNatClampNeg x4))) 2 ((M 5 (Int32.toNatClampNeg (M 14 x3 (Int32.toNatClampNeg x4))) 2) - (M 15 x3 (Int32.toNatClampNeg x4))))
    else none
   else none
  else none := (rfl)
theorem eX9_breakOff_32 {n : Nat} {x1 : Int32} {x2 : Int32} {x3 : Nat} {x4 : Int32} {y0 : Int32} {M : am_M} {res : am_O × am_M} (h : (if y0 = 0 then
   rX9_breakOff n 13 [.inr (9, 0), .inl (.int x1), .inl (.int x2), .inr (1, x3), .inl (.int (x4 + 1))] [] M
  else if am_in x4 2 then
   if am_in (M 14 x3 (Int32.toNatClampNeg x4)) 8 then
    if am_in x4 2 then
     rX9_breakOff n 13 [.inr (9, 0), .inl (.int x1), .inl (.int x2), .inr (1, x3), .inl (.int (x4 + 1))] [] (am_put M 5 (Int32.toNatClampNeg (M 14 x3 (Int32.toNatClampNeg x4))) 2 ((M 5 (Int32.toNatClampNeg (M 14 x3 (Int32.toNatClampNeg x4))) 2) - (M 15 x3 (Int32.toNatClampNeg x4))))
    else none
   else none
  else none) = some res) : rX9_breakOff (n + 100) 32 [.inr (9, 0), .inl (.int x1), .inl (.int x2), .inr (1, x3), .inl (.int x4)] [.inl (.int y0)] M = some res := uX9_breakOff ((gX9_breakOff_32 (rX9_breakOff n) x1 x2 x3 x4 y0 M).trans h)
set_option maxRecDepth 20000 in
theorem gX9_breakOff_90 (k : Nat → List am_V → List am_V → am_M → am_R) (x1 : Int32) (x2 : Int32) (x3 : Nat) (x4 : Int32) (y0 : Int32) (M : am_M) : gX9_breakOff k 90 [.inr (9, 0), .inl (.int x1), .inl (.int x2), .inr (1, x3), .inl (.int x4)] [.inl (.int y0)] M =
  if y0 = 0 then
   some (.inl none, (am_put (am_put (am_put M 1 x3 5 (-1)) 1 x3 9 0) 1 x3 8 3))
  else if am_in (M 1 x3 5) 40 then
   am_ret [] 103 [] (k 106 [.inr (9, 0), .inl (.int x1), .inl (.int x2), .inr (1, x3), .inl (.int x4)]) (fX4_breakOff [.inr (4, (Int32.toNatClampNeg (M 1 x3 5))), .inl (.int x2)] M)
  else none := (rfl)
theorem eX9_breakOff_90 {n : Nat} {x1 : Int32} {x2 : Int32} {x3 : Nat} {x4 : Int32} {y0 : Int32} {M : am_M} {res : am_O × am_M} (h : (if y0 = 0 then
   some (.inl none, (am_put (am_put (am_put M 1 x3 5 (-1)) 1 x3 9 0) 1 x3 8 3))
  else if am_in (M 1 x3 5) 40 then
   am_ret [] 103 [] (rX9_breakOff n 106 [.inr (9, 0), .inl (.int x1), .inl (.int x2), .inr (1, x3), .inl (.int x4)]) (fX4_breakOff [.inr (4, (Int32.toNatClampNeg (M 1 x3 5))), .inl (.int x2)] M)
  else none) = some res) : rX9_breakOff (n + 100) 90 [.inr (9, 0), .inl (.int x1), .inl (.int x2), .inr (1, x3), .inl (.int x4)] [.inl (.int y0)] M = some res := uX9_breakOff ((gX9_breakOff_90 (rX9_breakOff n) x1 x2 x3 x4 y0 M).trans h)
set_option maxRecDepth 20000 in
theorem gX9_breakOff_106 (k : Nat → List am_V → List am_V → am_M → am_R) (x1 : Int32) (x2 : Int32) (x3 : Nat) (x4 : Int32) (M : am_M) : gX9_breakOff k 106 [.inr (9, 0), .inl (.int x1), .inl (.int x2), .inr (1, x3), .inl (.int x4)] [] M =
  some (.inl none, (am_put (am_put (am_put M 1 x3 5 (-1)) 1 x3 9 0) 1 x3 8 3)) := (rfl)
theorem eX9_breakOff_106 {n : Nat} {x1 : Int32} {x2 : Int32} {x3 : Nat} {x4 : Int32} {M : am_M} {res : am_O × am_M} (h : (some (.inl none, (am_put (am_put (am_put M 1 x3 5 (-1)) 1 x3 9 0) 1 x3 8 3))) = some res) : rX9_breakOff (n + 100) 106 [.inr (9, 0), .inl (.int x1), .inl (.int x2), .inr (1, x3), .inl (.int x4)] [] M = some res := uX9_breakOff ((gX9_breakOff_106 (rX9_breakOff n) x1 x2 x3 x4 M).trans h)
def rX9_giveNextDose (n pc : Nat) (ls st : List am_V) (M : am_M) : am_R := am_run [fX9_isWithin] [] 0 am_X0 pX9_giveNextDose n pc ls st M
def gX9_giveNextDose (k : Nat → List am_V → List am_V → am_M → am_R) (pc : Nat) (ls st : List am_V) (M : am_M) : am_R := am_go [fX9_isWithin] [] 0 am_X0 pX9_giveNextDose [22] k 100 pc ls st M
theorem uX9_giveNextDose {n pc : Nat} {ls st : List am_V} {M : am_M} {res : am_O × am_M} (h : gX9_giveNextDose (rX9_giveNextDose n) pc ls st M = some res) : rX9_giveNextDose (n + 100) pc ls st M = some res := am_go_ok h
theorem eX9_giveNextDose (x1 : Nat) (M : am_M) : fX9_giveNextDose [.inr (9, 0), .inr (1, x1)] M = rX9_giveNextDose 100000 0 [.inr (9, 0), .inr (1, x1), am_D, am_D, am_D] [] M := am_meth_eq rfl rfl
set_option maxRecDepth 20000 in
theorem gX9_giveNextDose_0 (k : Nat → List am_V → List am_V → am_M → am_R) (x1 : Nat) (M : am_M) : gX9_giveNextDose k 0 [.inr (9, 0), .inr (1, x1), am_D, am_D, am_D] [] M =
  if 2 ≤ (M 1 x1 4) then
   some (.inl none, M)
  else if am_in (M 1 x1 4) 2 then
   am_ret [] 19 [] (k 22 [.inr (9, 0), .inr (1, x1), .inl (.int (M 1 x1 4)), am_D, am_D]) (fX9_isWithin [.inl (.int (M 14 x1 (Int32.toNatClampNeg (M 1 x1 4)))), .inl (.int 0), .inl (.int 7)] M)
  else none := (rfl)
theorem eX9_giveNextDose_0 {n : Nat} {x1 : Nat} {M : am_M} {res : am_O × am_M} (h : (if 2 ≤ (M 1 x1 4) then
   some (.inl none, M)
  else if am_in (M 1 x1 4) 2 then
   am_ret [] 19 [] (rX9_giveNextDose n 22 [.inr (9, 0), .inr (1, x1), .inl (.int (M 1 x1 4)), am_D, am_D]) (fX9_isWithin [.inl (.int (M 14 x1 (Int32.toNatClampNeg (M 1 x1 4)))), .inl (.int 0), .inl (.int 7)] M)
  else none) = some res) : rX9_giveNextDose (n + 100) 0 [.inr (9, 0), .inr (1, x1), am_D, am_D, am_D] [] M = some res := uX9_giveNextDose ((gX9_giveNextDose_0 (rX9_giveNextDose n) x1 M).trans h)
set_option maxRecDepth 20000 in
theorem gX9_giveNextDose_22 (k : Nat → List am_V → List am_V → am_M → am_R) (x1 : Nat) (x2 : Int32) (y0 : Int32) (M : am_M) : gX9_giveNextDose k 22 [.inr (9, 0), .inr (1, x1), .inl (.int x2), am_D, am_D] [.inl (.int y0)] M =
  if y0 = 0 then
   some (.inl none, M)
  else if am_in x2 2 then
   if am_in x2 2 then
    if am_in (M 14 x1 (Int32.toNatClampNeg x2)) 8 then
     some (.inl none, (am_put (am_put (am_put (am_put M 5 (Int32.toNatClampNeg (M 14 x1 (Int32.toNatClampNeg x2))) 2 ((M 5 (Int32.toNatClampNeg (M 14 x1 (Int32.toNatClampNeg x2))) 2) - (M 15 x1 (Int32.toNatClampNeg x2)))) 5 (Int32.toNatClampNeg (M 14 x1 (Int32.toNatClampNeg x2))) 1 (((am_put M 5 (Int32.toNatClampNeg (M 14 x1 (Int32.toNatClampNeg x2))) 2 ((M 5 (Int32.toNatClampNeg (M 14 x1 (Int32.toNatClampNeg x2))) 2) - (M 15 x1 (Int32.toNatClampNeg x2)))) 5 (Int32.toNatClampNeg (M 14 x1 (Int32.toNatClampNeg x2))) 1) - (M 15 x1 (Int32.toNatClampNeg x2)))) 1 x1 9 ((M 1 x1 9) + (M 15 x1 (Int32.toNatClampNeg x2)))) 1 x1 4 (x2 + 1)))
    else none
   else none
  else none := (rfl)
theorem eX9_giveNextDose_22 {n : Nat} {x1 : Nat} {x2 : Int32} {y0 : Int32} {M : am_M} {res : am_O × am_M} (h : (if y0 = 0 then
   some (.inl none, M)
  else if am_in x2 2 then
   if am_in x2 2 then
    if am_in (M 14 x1 (Int32.toNatClampNeg x2)) 8 then
     some (.inl none, (am_put (am_put (am_put (am_put M 5 (Int32.toNatClampNeg (M 14 x1 (Int32.toNatClampNeg x2))) 2 ((M 5 (Int32.toNatClampNeg (M 14 x1 (Int32.toNatClampNeg x2))) 2) - (M 15 x1 (Int32.toNatClampNeg x2)))) 5 (Int32.toNatClampNeg (M 14 x1 (Int32.toNatClampNeg x2))) 1 (((am_put M 5 (Int32.toNatClampNeg (M 14 x1 (Int32.toNatClampNeg x2))) 2 ((M 5 (Int32.toNatClampNeg (M 14 x1 (Int32.toNatClampNeg x2))) 2) - (M 15 x1 (Int32.toNatClampNeg x2)))) 5 (Int32.toNatClampNeg (M 14 x1 (Int32.toNatClampNeg x2))) 1) - (M 15 x1 (Int32.toNatClampNeg x2)))) 1 x1 9 ((M 1 x1 9) + (M 15 x1 (Int32.toNatClampNeg x2)))) 1 x1 4 (x2 + 1)))
    else none
   else none
  else none) = some res) : rX9_giveNextDose (n + 100) 22 [.inr (9, 0), .inr (1, x1), .inl (.int x2), am_D, am_D] [.inl (.int y0)] M = some res := uX9_giveNextDose ((gX9_giveNextDose_22 (rX9_giveNextDose n) x1 x2 y0 M).trans h)
def rX9_giveReagent (n pc : Nat) (ls st : List am_V) (M : am_M) : am_R := am_run [fX7_userNow, fX9_isWithin, fX9_breakOff, fX9_giveNextDose] [] 0 am_X0 pX9_giveReagent n pc ls st M
def gX9_giveReagent (k : Nat → List am_V → List am_V → am_M → am_R) (pc : Nat) (ls st : List am_V) (M : am_M) : am_R := am_go [fX7_userNow, fX9_isWithin, fX9_breakOff, fX9_giveNextDose] [] 0 am_X0 pX9_giveReagent [15, 37, 50] k 100 pc ls st M
theorem uX9_giveReagent {n pc : Nat} {ls st : List am_V} {M : am_M} {res : am_O × am_M} (h : gX9_giveReagent (rX9_giveReagent n) pc ls st M = some res) : rX9_giveReagent (n + 100) pc ls st M = some res := am_go_ok h
theorem eX9_giveReagent (M : am_M) : fX9_giveReagent [.inr (9, 0)] M = rX9_giveReagent 100000 0 [.inr (9, 0), am_D] [] M := am_meth_eq rfl rfl
set_option maxRecDepth 20000 in
theorem gX9_giveReagent_0 (k : Nat → List am_V → List am_V → am_M → am_R) (M : am_M) : gX9_giveReagent k 0 [.inr (9, 0), am_D] [] M =
  am_ret [] 12 [] (k 15 [.inr (9, 0), .inl (.int (M 20 0 0))]) (fX9_isWithin [.inl (.int (M 20 0 0)), .inl (.int 0), .inl (.int 9)] M) := (rfl)
theorem eX9_giveReagent_0 {n : Nat} {M : am_M} {res : am_O × am_M} (h : (am_ret [] 12 [] (rX9_giveReagent n 15 [.inr (9, 0), .inl (.int (M 20 0 0))]) (fX9_isWithin [.inl (.int (M 20 0 0)), .inl (.int 0), .inl (.int 9)] M)) = some res) : rX9_giveReagent (n + 100) 0 [.inr (9, 0), am_D] [] M = some res := uX9_giveReagent ((gX9_giveReagent_0 (rX9_giveReagent n) M).trans h)
set_option maxRecDepth 20000 in
theorem gX9_giveReagent_15 (k : Nat → List am_V → List am_V → am_M → am_R) (x1 : Int32) (y0 : Int32) (M : am_M) : gX9_giveReagent k 15 [.inr (9, 0), .inl (.int x1)] [.inl (.int y0)] M =
  if y0 = 0 then
   some (.inl none, M)
  else if (am_b (M 9 0 11)) = 0 then
   if am_in x1 10 then
    am_ret [] 47 [] (k 50 [.inr (9, 0), .inl (.int x1)]) (fX9_giveNextDose [.inr (9, 0), .inr (1, (Int32.toNatClampNeg x1))] M)
   else none
  else am_ret [] 34 [] (k 37 [.inr (9, 0), .inl (.int x1)]) (fX9_breakOff [.inr (9, 0), .inl (.int x1), .inl (.int 4)] (am_put M 9 0 11 0)) := (rfl)
theorem eX9_giveReagent_15 {n : Nat} {x1 : Int32} {y0 : Int32} {M : am_M} {res : am_O × am_M} (h : (if y0 = 0 then
   some (.inl none, M)
  else if (am_b (M 9 0 11)) = 0 then
   if am_in x1 10 then
    am_ret [] 47 [] (rX9_giveReagent n 50 [.inr (9, 0), .inl (.int x1)]) (fX9_giveNextDose [.inr (9, 0), .inr (1, (Int32.toNatClampNeg x1))] M)
   else none
  else am_ret [] 34 [] (rX9_giveReagent n 37 [.inr (9, 0), .inl (.int x1)]) (fX9_breakOff [.inr (9, 0), .inl (.int x1), .inl (.int 4)] (am_put M 9 0 11 0))) = some res) : rX9_giveReagent (n + 100) 15 [.inr (9, 0), .inl (.int x1)] [.inl (.int y0)] M = some res := uX9_giveReagent ((gX9_giveReagent_15 (rX9_giveReagent n) x1 y0 M).trans h)
set_option maxRecDepth 20000 in
theorem gX9_giveReagent_50 (k : Nat → List am_V → List am_V → am_M → am_R) (x1 : Int32) (M : am_M) : gX9_giveReagent k 50 [.inr (9, 0), .inl (.int x1)] [] M =
  some (.inl none, M) := (rfl)
theorem eX9_giveReagent_50 {n : Nat} {x1 : Int32} {M : am_M} {res : am_O × am_M} (h : (some (.inl none, M)) = some res) : rX9_giveReagent (n + 100) 50 [.inr (9, 0), .inl (.int x1)] [] M = some res := uX9_giveReagent ((gX9_giveReagent_50 (rX9_giveReagent n) x1 M).trans h)
set_option maxRecDepth 20000 in
theorem gX9_giveReagent_37 (k : Nat → List am_V → List am_V → am_M → am_R) (x1 : Int32) (M : am_M) : gX9_giveReagent k 37 [.inr (9, 0), .inl (.int x1)] [] M =
  some (.inl none, M) := (rfl)
theorem eX9_giveReagent_37 {n : Nat} {x1 : Int32} {M : am_M} {res : am_O × am_M} (h : (some (.inl none, M)) = some res) : rX9_giveReagent (n + 100) 37 [.inr (9, 0), .inl (.int x1)] [] M = some res := uX9_giveReagent ((gX9_giveReagent_37 (rX9_giveReagent n) x1 M).trans h)
def rX9_absorbanceOf (n pc : Nat) (ls st : List am_V) (M : am_M) : am_R := am_run [] [] 1 am_X0 pX9_absorbanceOf n pc ls st M
def gX9_absorbanceOf (k : Nat → List am_V → List am_V → am_M → am_R) (pc : Nat) (ls st : List am_V) (M : am_M) : am_R := am_go [] [] 1 am_X0 pX9_absorbanceOf [4, 38] k 100 pc ls st M
theorem uX9_absorbanceOf {n pc : Nat} {ls st : List am_V} {M : am_M} {res : am_O × am_M} (h : gX9_absorbanceOf (rX9_absorbanceOf n) pc ls st M = some res) : rX9_absorbanceOf (n + 100) pc ls st M = some res := am_go_ok h
theorem eX9_absorbanceOf (x0 : Int32) (M : am_M) : fX9_absorbanceOf [.inl (.int x0)] M = rX9_absorbanceOf 100000 0 [.inl (.int x0), am_D, am_D, am_D, am_D, am_D] [] M := am_meth_eq rfl rfl
set_option maxRecDepth 20000 in
theorem gX9_absorbanceOf_0 (k : Nat → List am_V → List am_V → am_M → am_R) (x0 : Int32) (M : am_M) : gX9_absorbanceOf k 0 [.inl (.int x0), am_D, am_D, am_D, am_D, am_D] [] M =
  k 4 [.inl (.int x0), .inl (.int 0), .inl (.int 1), am_D, am_D, am_D] [] M := (rfl)
theorem eX9_absorbanceOf_0 {n : Nat} {x0 : Int32} {M : am_M} {res : am_O × am_M} (h : (rX9_absorbanceOf n 4 [.inl (.int x0), .inl (.int 0), .inl (.int 1), am_D, am_D, am_D] [] M) = some res) : rX9_absorbanceOf (n + 100) 0 [.inl (.int x0), am_D, am_D, am_D, am_D, am_D] [] M = some res := uX9_absorbanceOf ((gX9_absorbanceOf_0 (rX9_absorbanceOf n) x0 M).trans h)
set_option maxRecDepth 20000 in
theorem gX9_absorbanceOf_4 (k : Nat → List am_V → List am_V → am_M → am_R) (x0 : Int32) (x1 : Int32) (x2 : Int32) (M : am_M) : gX9_absorbanceOf k 4 [.inl (.int x0), .inl (.int x1), .inl (.int x2), am_D, am_D, am_D] [] M =
  if 16 ≤ x2 then
   k 38 [.inl (.int x0), .inl (.int x1), .inl (.long ((Int32.toInt64 x0) <<< (((15 - x1) : Int32).toInt64 &&& 63))), am_D, .inl (.int 0), .inl (.int 0)] [] M
  else if (x0 >>> (x2 &&& 31)) = 0 then
   k 4 [.inl (.int x0), .inl (.int x1), .inl (.int (x2 + 1)), am_D, am_D, am_D] [] M
  else k 4 [.inl (.int x0), .inl (.int x2), .inl (.int (x2 + 1)), am_D, am_D, am_D] [] M := (rfl)
theorem eX9_absorbanceOf_4 {n : Nat} {x0 : Int32} {x1 : Int32} {x2 : Int32} {M : am_M} {res : am_O × am_M} (h : (if 16 ≤ x2 then
   rX9_absorbanceOf n 38 [.inl (.int x0), .inl (.int x1), .inl (.long ((Int32.toInt64 x0) <<< (((15 - x1) : Int32).toInt64 &&& 63))), am_D, .inl (.int 0), .inl (.int 0)] [] M
  else if (x0 >>> (x2 &&& 31)) = 0 then
   rX9_absorbanceOf n 4 [.inl (.int x0), .inl (.int x1), .inl (.int (x2 + 1)), am_D, am_D, am_D] [] M
  else rX9_absorbanceOf n 4 [.inl (.int x0), .inl (.int x2), .inl (.int (x2 + 1)), am_D, am_D, am_D] [] M) = some res) : rX9_absorbanceOf (n + 100) 4 [.inl (.int x0), .inl (.int x1), .inl (.int x2), am_D, am_D, am_D] [] M = some res := uX9_absorbanceOf ((gX9_absorbanceOf_4 (rX9_absorbanceOf n) x0 x1 x2 M).trans h)
set_option maxRecDepth 20000 in
theorem gX9_absorbanceOf_38 (k : Nat → List am_V → List am_V → am_M → am_R) (x0 : Int32) (x1 : Int32) (x2 : Int64) (x4 : Int32) (x5 : Int32) (M : am_M) : gX9_absorbanceOf k 38 [.inl (.int x0), .inl (.int x1), .inl (.long x2), am_D, .inl (.int x4), .inl (.int x5)] [] M =
  if 10 ≤ x5 then
   some (.inl (some (.inl (.int (16384 - ((1024 * x1) + x4))))), M)
  else if (lg_cmp ((x2 * x2) / 32768) 65536) < 0 then
   k 38 [.inl (.int x0), .inl (.int x1), .inl (.long ((x2 * x2) / 32768)), am_D, .inl (.int (x4 * 2)), .inl (.int (x5 + 1))] [] M
  else k 38 [.inl (.int x0), .inl (.int x1), .inl (.long (((x2 * x2) / 32768) / 2)), am_D, .inl (.int ((x4 * 2) + 1)), .inl (.int (x5 + 1))] [] M := (rfl)
theorem eX9_absorbanceOf_38 {n : Nat} {x0 : Int32} {x1 : Int32} {x2 : Int64} {x4 : Int32} {x5 : Int32} {M : am_M} {res : am_O × am_M} (h : (if 10 ≤ x5 then
   some (.inl (some (.inl (.int (16384 - ((1024 * x1) + x4))))), M)
  else if (lg_cmp ((x2 * x2) / 32768) 65536) < 0 then
   rX9_absorbanceOf n 38 [.inl (.int x0), .inl (.int x1), .inl (.long ((x2 * x2) / 32768)), am_D, .inl (.int (x4 * 2)), .inl (.int (x5 + 1))] [] M
  else rX9_absorbanceOf n 38 [.inl (.int x0), .inl (.int x1), .inl (.long (((x2 * x2) / 32768) / 2)), am_D, .inl (.int ((x4 * 2) + 1)), .inl (.int (x5 + 1))] [] M) = some res) : rX9_absorbanceOf (n + 100) 38 [.inl (.int x0), .inl (.int x1), .inl (.long x2), am_D, .inl (.int x4), .inl (.int x5)] [] M = some res := uX9_absorbanceOf ((gX9_absorbanceOf_38 (rX9_absorbanceOf n) x0 x1 x2 x4 x5 M).trans h)
