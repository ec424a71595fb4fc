/-! ===== the runs, piece by piece ===== -/
def rX4_fail (n pc : Nat) (ls st : List am_V) (M : am_M) : am_R := am_run [] [] 0 am_X0 pX4_fail n pc ls st M
def gX4_fail (k : Nat → List am_V → List am_V → am_M → am_R) (pc : Nat) (ls st : List am_V) (M : am_M) : am_R := am_go [] [] 0 am_X0 pX4_fail [] k 100 pc ls st M
theorem uX4_fail {n pc : Nat} {ls st : List am_V} {M : am_M} {res : am_O × am_M} (h : gX4_fail (rX4_fail n) pc ls st M = some res) : rX4_fail (n + 100) pc ls st M = some res := am_go_ok h
theorem eX4_fail (x0 : Nat) (x1 : Int32) (M : am_M) : fX4_fail [.inr (4, x0), .inl (.int x1)] M = rX4_fail 100000 0 [.inr (4, x0), .inl (.int x1)] [] M := am_meth_eq rfl rfl
set_option maxRecDepth 20000 in
theorem gX4_fail_0 (k : Nat → List am_V → List am_V → am_M → am_R) (x0 : Nat) (x1 : Int32) (M : am_M) : gX4_fail k 0 [.inr (4, x0), .inl (.int x1)] [] M =
  some (.inl none, (am_put (am_put (am_put M 4 x0 3 3) 4 x0 4 x1) 4 x0 7 (-1))) := (rfl)
theorem eX4_fail_0 {n : Nat} {x0 : Nat} {x1 : Int32} {M : am_M} {res : am_O × am_M} (h : (some (.inl none, (am_put (am_put (am_put M 4 x0 3 3) 4 x0 4 x1) 4 x0 7 (-1)))) = some res) : rX4_fail (n + 100) 0 [.inr (4, x0), .inl (.int x1)] [] M = some res := uX4_fail ((gX4_fail_0 (rX4_fail n) x0 x1 M).trans h)
def rX4_breakOff (n pc : Nat) (ls st : List am_V) (M : am_M) : am_R := am_run [fX4_waitAgain, fX4_fail] [] 0 am_X0 pX4_breakOff n pc ls st M
def gX4_breakOff (k : Nat → List am_V → List am_V → am_M → am_R) (pc : Nat) (ls st : List am_V) (M : am_M) : am_R := am_go [fX4_waitAgain, fX4_fail] [] 0 am_X0 pX4_breakOff [] k 100 pc ls st M
theorem uX4_breakOff {n pc : Nat} {ls st : List am_V} {M : am_M} {res : am_O × am_M} (h : gX4_breakOff (rX4_breakOff n) pc ls st M = some res) : rX4_breakOff (n + 100) pc ls st M = some res := am_go_ok h
theorem eX4_breakOff (x0 : Nat) (x1 : Int32) (M : am_M) : fX4_breakOff [.inr (4, x0), .inl (.int x1)] M = rX4_breakOff 100000 0 [.inr (4, x0), .inl (.int x1)] [] M := am_meth_eq rfl rfl
set_option maxRecDepth 20000 in
theorem gX4_breakOff_0 (k : Nat → List am_V → List am_V → am_M → am_R) (x0 : Nat) (x1 : Int32) (M : am_M) : gX4_breakOff k 0 [.inr (4, x0), .inl (.int x1)] [] M =
  if (M 4 x0 5) = 1 then
   some (.inl none, (am_put (am_put (am_put M 4 x0 3 0) 4 x0 7 (-1)) 4 x0 6 0))
  else some (.inl none, (am_put (am_put (am_put M 4 x0 3 3) 4 x0 4 x1) 4 x0 7 (-1))) := (rfl)
theorem eX4_breakOff_0 {n : Nat} {x0 : Nat} {x1 : Int32} {M : am_M} {res : am_O × am_M} (h : (if (M 4 x0 5) = 1 then
   some (.inl none, (am_put (am_put (am_put M 4 x0 3 0) 4 x0 7 (-1)) 4 x0 6 0))
  else some (.inl none, (am_put (am_put (am_put M 4 x0 3 3) 4 x0 4 x1) 4 x0 7 (-1)))) = some res) : rX4_breakOff (n + 100) 0 [.inr (4, x0), .inl (.int x1)] [] M = some res := uX4_breakOff ((gX4_breakOff_0 (rX4_breakOff n) x0 x1 M).trans h)
def rX4_release (n pc : Nat) (ls st : List am_V) (M : am_M) : am_R := am_run [] [] 0 am_X0 pX4_release n pc ls st M
def gX4_release (k : Nat → List am_V → List am_V → am_M → am_R) (pc : Nat) (ls st : List am_V) (M : am_M) : am_R := am_go [] [] 0 am_X0 pX4_release [] k 100 pc ls st M
theorem uX4_release {n pc : Nat} {ls st : List am_V} {M : am_M} {res : am_O × am_M} (h : gX4_release (rX4_release n) pc ls st M = some res) : rX4_release (n + 100) pc ls st M = some res := am_go_ok h
theorem eX4_release (x0 : Nat) (x1 : Int32) (x2 : Int32) (M : am_M) : fX4_release [.inr (4, x0), .inl (.int x1), .inl (.int x2)] M = rX4_release 100000 0 [.inr (4, x0), .inl (.int x1), .inl (.int x2)] [] M := am_meth_eq rfl rfl
set_option maxRecDepth 20000 in
theorem gX4_release_0 (k : Nat → List am_V → List am_V → am_M → am_R) (x0 : Nat) (x1 : Int32) (x2 : Int32) (M : am_M) : gX4_release k 0 [.inr (4, x0), .inl (.int x1), .inl (.int x2)] [] M =
  some (.inl none, (am_put (am_put (am_put (am_put M 4 x0 3 2) 4 x0 7 (-1)) 4 x0 8 x1) 4 x0 9 x2)) := (rfl)
theorem eX4_release_0 {n : Nat} {x0 : Nat} {x1 : Int32} {x2 : Int32} {M : am_M} {res : am_O × am_M} (h : (some (.inl none, (am_put (am_put (am_put (am_put M 4 x0 3 2) 4 x0 7 (-1)) 4 x0 8 x1) 4 x0 9 x2))) = some res) : rX4_release (n + 100) 0 [.inr (4, x0), .inl (.int x1), .inl (.int x2)] [] M = some res := uX4_release ((gX4_release_0 (rX4_release n) x0 x1 x2 M).trans h)
def rX4_runFlags (n pc : Nat) (ls st : List am_V) (M : am_M) : am_R := am_run [] [] 1 am_X0 pX4_runFlags n pc ls st M
def gX4_runFlags (k : Nat → List am_V → List am_V → am_M → am_R) (pc : Nat) (ls st : List am_V) (M : am_M) : am_R := am_go [] [] 1 am_X0 pX4_runFlags [] k 100 pc ls st M
theorem uX4_runFlags {n pc : Nat} {ls st : List am_V} {M : am_M} {res : am_O × am_M} (h : gX4_runFlags (rX4_runFlags n) pc ls st M = some res) : rX4_runFlags (n + 100) pc ls st M = some res := am_go_ok h
theorem eX4_runFlags (x0 : Nat) (M : am_M) : fX4_runFlags [.inr (4, x0)] M = rX4_runFlags 100000 0 [.inr (4, x0)] [] M := am_meth_eq rfl rfl
set_option maxRecDepth 20000 in
theorem gX4_runFlags_0 (k : Nat → List am_V → List am_V → am_M → am_R) (x0 : Nat) (M : am_M) : gX4_runFlags k 0 [.inr (4, x0)] [] M =
  if (M 4 x0 5) ≤ 1 then
   if (am_b (M 4 x0 6)) = 0 then
    some (.inl (some (.inl (.int 0))), M)
   else some (.inl (some (.inl (.int 16))), M)
  else if (am_b (M 4 x0 6)) = 0 then
   some (.inl (some (.inl (.int 8))), M)
  else some (.inl (some (.inl (.int 24))), M) := (rfl)
theorem eX4_runFlags_0 {n : Nat} {x0 : Nat} {M : am_M} {res : am_O × am_M} (h : (if (M 4 x0 5) ≤ 1 then
   if (am_b (M 4 x0 6)) = 0 then
    some (.inl (some (.inl (.int 0))), M)
   else some (.inl (some (.inl (.int 16))), M)
  else if (am_b (M 4 x0 6)) = 0 then
   some (.inl (some (.inl (.int 8))), M)
  else some (.inl (some (.inl (.int 24))), M)) = some res) : rX4_runFlags (n + 100) 0 [.inr (4, x0)] [] M = some res := uX4_runFlags ((gX4_runFlags_0 (rX4_runFlags n) x0 M).trans h)
def rX5_isEmpty (n pc : Nat) (ls st : List am_V) (M : am_M) : am_R := am_run [] [] 2 am_X0 pX5_isEmpty n pc ls st M
def gX5_isEmpty (k : Nat → List am_V → List am_V → am_M → am_R) (pc : Nat) (ls st : List am_V) (M : am_M) : am_R := am_go [] [] 2 am_X0 pX5_isEmpty [] k 100 pc ls st M
theorem uX5_isEmpty {n pc : Nat} {ls st : List am_V} {M : am_M} {res : am_O × am_M} (h : gX5_isEmpty (rX5_isEmpty n) pc ls st M = some res) : rX5_isEmpty (n + 100) pc ls st M = some res := am_go_ok h
theorem eX5_isEmpty (x0 : Nat) (M : am_M) : fX5_isEmpty [.inr (5, x0)] M = rX5_isEmpty 100000 0 [.inr (5, x0)] [] M := am_meth_eq rfl rfl
set_option maxRecDepth 20000 in
theorem gX5_isEmpty_0 (k : Nat → List am_V → List am_V → am_M → am_R) (x0 : Nat) (M : am_M) : gX5_isEmpty k 0 [.inr (5, x0)] [] M =
  if (M 5 x0 0) = (-1) then
   some (.inl (some (.inl (.int 1))), M)
  else some (.inl (some (.inl (.int 0))), M) := (rfl)
theorem eX5_isEmpty_0 {n : Nat} {x0 : Nat} {M : am_M} {res : am_O × am_M} (h : (if (M 5 x0 0) = (-1) then
   some (.inl (some (.inl (.int 1))), M)
  else some (.inl (some (.inl (.int 0))), M)) = some res) : rX5_isEmpty (n + 100) 0 [.inr (5, x0)] [] M = some res := uX5_isEmpty ((gX5_isEmpty_0 (rX5_isEmpty n) x0 M).trans h)
def rX5_fill (n pc : Nat) (ls st : List am_V) (M : am_M) : am_R := am_run [] [] 0 am_X0 pX5_fill n pc ls st M
def gX5_fill (k : Nat → List am_V → List am_V → am_M → am_R) (pc : Nat) (ls st : List am_V) (M : am_M) : am_R := am_go [] [] 0 am_X0 pX5_fill [] k 100 pc ls st M
theorem uX5_fill {n pc : Nat} {ls st : List am_V} {M : am_M} {res : am_O × am_M} (h : gX5_fill (rX5_fill n) pc ls st M = some res) : rX5_fill (n + 100) pc ls st M = some res := am_go_ok h
theorem eX5_fill (x0 : Nat) (x1 : Int32) (x2 : Int32) (x3 : Int32) (M : am_M) : fX5_fill [.inr (5, x0), .inl (.int x1), .inl (.int x2), .inl (.int x3)] M = rX5_fill 100000 0 [.inr (5, x0), .inl (.int x1), .inl (.int x2), .inl (.int x3)] [] M := am_meth_eq rfl rfl
set_option maxRecDepth 20000 in
theorem gX5_fill_0 (k : Nat → List am_V → List am_V → am_M → am_R) (x0 : Nat) (x1 : Int32) (x2 : Int32) (x3 : Int32) (M : am_M) : gX5_fill k 0 [.inr (5, x0), .inl (.int x1), .inl (.int x2), .inl (.int x3)] [] M =
  some (.inl none, (am_put (am_put (am_put M 5 x0 0 x1) 5 x0 1 x2) 5 x0 3 x3)) := (rfl)
theorem eX5_fill_0 {n : Nat} {x0 : Nat} {x1 : Int32} {x2 : Int32} {x3 : Int32} {M : am_M} {res : am_O × am_M} (h : (some (.inl none, (am_put (am_put (am_put M 5 x0 0 x1) 5 x0 1 x2) 5 x0 3 x3))) = some res) : rX5_fill (n + 100) 0 [.inr (5, x0), .inl (.int x1), .inl (.int x2), .inl (.int x3)] [] M = some res := uX5_fill ((gX5_fill_0 (rX5_fill n) x0 x1 x2 x3 M).trans h)
def rX5_canGive (n pc : Nat) (ls st : List am_V) (M : am_M) : am_R := am_run [] [] 2 am_X0 pX5_canGive n pc ls st M
def gX5_canGive (k : Nat → List am_V → List am_V → am_M → am_R) (pc : Nat) (ls st : List am_V) (M : am_M) : am_R := am_go [] [] 2 am_X0 pX5_canGive [] k 100 pc ls st M
theorem uX5_canGive {n pc : Nat} {ls st : List am_V} {M : am_M} {res : am_O × am_M} (h : gX5_canGive (rX5_canGive n) pc ls st M = some res) : rX5_canGive (n + 100) pc ls st M = some res := am_go_ok h
theorem eX5_canGive (x0 : Nat) (x1 : Int32) (x2 : Int32) (x3 : Int32) (M : am_M) : fX5_canGive [.inr (5, x0), .inl (.int x1), .inl (.int x2), .inl (.int x3)] M = rX5_canGive 100000 0 [.inr (5, x0), .inl (.int x1), .inl (.int x2), .inl (.int x3)] [] M := am_meth_eq rfl rfl
set_option maxRecDepth 20000 in
theorem gX5_canGive_0 (k : Nat → List am_V → List am_V → am_M → am_R) (x0 : Nat) (x1 : Int32) (x2 : Int32) (x3 : Int32) (M : am_M) : gX5_canGive k 0 [.inr (5, x0), .inl (.int x1), .inl (.int x2), .inl (.int x3)] [] M =
  if (M 5 x0 0) = x1 then
   if (M 5 x0 3) ≤ x3 then
    some (.inl (some (.inl (.int 0))), M)
   else if ((M 5 x0 1) - (M 5 x0 2)) < x2 then
    some (.inl (some (.inl (.int 0))), M)
   else some (.inl (some (.inl (.int 1))), M)
  else some (.inl (some (.inl (.int 0))), M) := (rfl)
theorem eX5_canGive_0 {n : Nat} {x0 : Nat} {x1 : Int32} {x2 : Int32} {x3 : Int32} {M : am_M} {res : am_O × am_M} (h : (if (M 5 x0 0) = x1 then
   if (M 5 x0 3) ≤ x3 then
    some (.inl (some (.inl (.int 0))), M)
   else if ((M 5 x0 1) - (M 5 x0 2)) < x2 then
    some (.inl (some (.inl (.int 0))), M)
   else some (.inl (some (.inl (.int 1))), M)
  else some (.inl (some (.inl (.int 0))), M)) = some res) : rX5_canGive (n + 100) 0 [.inr (5, x0), .inl (.int x1), .inl (.int x2), .inl (.int x3)] [] M = some res := uX5_canGive ((gX5_canGive_0 (rX5_canGive n) x0 x1 x2 x3 M).trans h)
def rX6_accepts (n pc : Nat) (ls st : List am_V) (M : am_M) : am_R := am_run [fX9_isWithin] [] 2 am_X0 pX6_accepts n pc ls st M
def gX6_accepts (k : Nat → List am_V → List am_V → am_M → am_R) (pc : Nat) (ls st : List am_V) (M : am_M) : am_R := am_go [fX9_isWithin] [] 2 am_X0 pX6_accepts [7, 24] k 100 pc ls st M
theorem uX6_accepts {n pc : Nat} {ls st : List am_V} {M : am_M} {res : am_O × am_M} (h : gX6_accepts (rX6_accepts n) pc ls st M = some res) : rX6_accepts (n + 100) pc ls st M = some res := am_go_ok h
theorem eX6_accepts (x0 : Int32) (x1 : Int32) (M : am_M) : fX6_accepts [.inl (.int x0), .inl (.int x1)] M = rX6_accepts 100000 0 [.inl (.int x0), .inl (.int x1)] [] M := am_meth_eq rfl rfl
set_option maxRecDepth 20000 in
theorem gX6_accepts_0 (k : Nat → List am_V → List am_V → am_M → am_R) (x0 : Int32) (x1 : Int32) (M : am_M) : gX6_accepts k 0 [.inl (.int x0), .inl (.int x1)] [] M =
  am_ret [] 4 [] (k 7 [.inl (.int x0), .inl (.int x1)]) (fX9_isWithin [.inl (.int x0), .inl (.int 0), .inl (.int 15)] M) := (rfl)
theorem eX6_accepts_0 {n : Nat} {x0 : Int32} {x1 : Int32} {M : am_M} {res : am_O × am_M} (h : (am_ret [] 4 [] (rX6_accepts n 7 [.inl (.int x0), .inl (.int x1)]) (fX9_isWithin [.inl (.int x0), .inl (.int 0), .inl (.int 15)] M)) = some res) : rX6_accepts (n + 100) 0 [.inl (.int x0), .inl (.int x1)] [] M = some res := uX6_accepts ((gX6_accepts_0 (rX6_accepts n) x0 x1 M).trans h)
set_option maxRecDepth 20000 in
theorem gX6_accepts_7 (k : Nat → List am_V → List am_V → am_M → am_R) (x0 : Int32) (x1 : Int32) (y0 : Int32) (M : am_M) : gX6_accepts k 7 [.inl (.int x0), .inl (.int x1)] [.inl (.int y0)] M =
  if y0 = 0 then
   some (.inl (some (.inl (.int 0))), M)
  else if am_in x0 16 then
   if am_in x0 16 then
    am_ret [] 21 [] (k 24 [.inl (.int x0), .inl (.int x1)]) (fX9_isWithin [.inl (.int x1), .inl (.int (am_st 27 (Int32.toNatClampNeg x0))), .inl (.int (am_st 28 (Int32.toNatClampNeg x0)))] M)
   else none
  else none := (rfl)
theorem eX6_accepts_7 {n : Nat} {x0 : Int32} {x1 : Int32} {y0 : Int32} {M : am_M} {res : am_O × am_M} (h : (if y0 = 0 then
   some (.inl (some (.inl (.int 0))), M)
  else if am_in x0 16 then
   if am_in x0 16 then
    am_ret [] 21 [] (rX6_accepts n 24 [.inl (.int x0), .inl (.int x1)]) (fX9_isWithin [.inl (.int x1), .inl (.int (am_st 27 (Int32.toNatClampNeg x0))), .inl (.int (am_st 28 (Int32.toNatClampNeg x0)))] M)
   else none
  else none) = some res) : rX6_accepts (n + 100) 7 [.inl (.int x0), .inl (.int x1)] [.inl (.int y0)] M = some res := uX6_accepts ((gX6_accepts_7 (rX6_accepts n) x0 x1 y0 M).trans h)
set_option maxRecDepth 20000 in
theorem gX6_accepts_24 (k : Nat → List am_V → List am_V → am_M → am_R) (x0 : Int32) (x1 : Int32) (y0 : Int32) (M : am_M) : gX6_accepts k 24 [.inl (.int x0), .inl (.int x1)] [.inl (.int y0)] M =
  if y0 = 0 then
   some (.inl (some (.inl (.int 0))), M)
  else some (.inl (some (.inl (.int 1))), M) := (rfl)
theorem eX6_accepts_24 {n : Nat} {x0 : Int32} {x1 : Int32} {y0 : Int32} {M : am_M} {res : am_O × am_M} (h : (if y0 = 0 then
   some (.inl (some (.inl (.int 0))), M)
  else some (.inl (some (.inl (.int 1))), M)) = some res) : rX6_accepts (n + 100) 24 [.inl (.int x0), .inl (.int x1)] [.inl (.int y0)] M = some res := uX6_accepts ((gX6_accepts_24 (rX6_accepts n) x0 x1 y0 M).trans h)
