/-! ===== the runs, piece by piece ===== -/
def rX4_place (n pc : Nat) (ls st : List am_V) (M : am_M) : am_R := am_run [] [] 0 am_X0 pX4_place n pc ls st M
def gX4_place (k : Nat → List am_V → List am_V → am_M → am_R) (pc : Nat) (ls st : List am_V) (M : am_M) : am_R := am_go [] [] 0 am_X0 pX4_place [] k 100 pc ls st M
theorem uX4_place {n pc : Nat} {ls st : List am_V} {M : am_M} {res : am_O × am_M} (h : gX4_place (rX4_place n) pc ls st M = some res) : rX4_place (n + 100) pc ls st M = some res := am_go_ok h
theorem eX4_place (x0 : Nat) (x1 : Int32) (x2 : Int32) (x3 : Int32) (M : am_M) : fX4_place [.inr (4, x0), .inl (.int x1), .inl (.int x2), .inl (.int x3)] M = rX4_place 100000 0 [.inr (4, x0), .inl (.int x1), .inl (.int x2), .inl (.int x3)] [] M := am_meth_eq rfl rfl
set_option maxRecDepth 20000 in
theorem gX4_place_0 (k : Nat → List am_V → List am_V → am_M → am_R) (x0 : Nat) (x1 : Int32) (x2 : Int32) (x3 : Int32) (M : am_M) : gX4_place k 0 [.inr (4, x0), .inl (.int x1), .inl (.int x2), .inl (.int x3)] [] M =
  if am_b x3 = x3 then
   some (.inl none, (am_put (am_put (am_put M 4 x0 0 x1) 4 x0 1 x2) 4 x0 2 x3))
  else none := (rfl)
theorem eX4_place_0 {n : Nat} {x0 : Nat} {x1 : Int32} {x2 : Int32} {x3 : Int32} {M : am_M} {res : am_O × am_M} (h : (if am_b x3 = x3 then
   some (.inl none, (am_put (am_put (am_put M 4 x0 0 x1) 4 x0 1 x2) 4 x0 2 x3))
  else none) = some res) : rX4_place (n + 100) 0 [.inr (4, x0), .inl (.int x1), .inl (.int x2), .inl (.int x3)] [] M = some res := uX4_place ((gX4_place_0 (rX4_place n) x0 x1 x2 x3 M).trans h)
def rX4_isOpen (n pc : Nat) (ls st : List am_V) (M : am_M) : am_R := am_run [] [] 2 am_X0 pX4_isOpen n pc ls st M
def gX4_isOpen (k : Nat → List am_V → List am_V → am_M → am_R) (pc : Nat) (ls st : List am_V) (M : am_M) : am_R := am_go [] [] 2 am_X0 pX4_isOpen [] k 100 pc ls st M
theorem uX4_isOpen {n pc : Nat} {ls st : List am_V} {M : am_M} {res : am_O × am_M} (h : gX4_isOpen (rX4_isOpen n) pc ls st M = some res) : rX4_isOpen (n + 100) pc ls st M = some res := am_go_ok h
theorem eX4_isOpen (x0 : Nat) (M : am_M) : fX4_isOpen [.inr (4, x0)] M = rX4_isOpen 100000 0 [.inr (4, x0)] [] M := am_meth_eq rfl rfl
set_option maxRecDepth 20000 in
theorem gX4_isOpen_0 (k : Nat → List am_V → List am_V → am_M → am_R) (x0 : Nat) (M : am_M) : gX4_isOpen k 0 [.inr (4, x0)] [] M =
  if (M 4 x0 3) = 0 then
   some (.inl (some (.inl (.int 1))), M)
  else if (M 4 x0 3) = 1 then
   some (.inl (some (.inl (.int 1))), M)
  else some (.inl (some (.inl (.int 0))), M) := (rfl)
theorem eX4_isOpen_0 {n : Nat} {x0 : Nat} {M : am_M} {res : am_O × am_M} (h : (if (M 4 x0 3) = 0 then
   some (.inl (some (.inl (.int 1))), M)
  else if (M 4 x0 3) = 1 then
   some (.inl (some (.inl (.int 1))), M)
  else some (.inl (some (.inl (.int 0))), M)) = some res) : rX4_isOpen (n + 100) 0 [.inr (4, x0)] [] M = some res := uX4_isOpen ((gX4_isOpen_0 (rX4_isOpen n) x0 M).trans h)
def rX4_startRun (n pc : Nat) (ls st : List am_V) (M : am_M) : am_R := am_run [] [] 0 am_X0 pX4_startRun n pc ls st M
def gX4_startRun (k : Nat → List am_V → List am_V → am_M → am_R) (pc : Nat) (ls st : List am_V) (M : am_M) : am_R := am_go [] [] 0 am_X0 pX4_startRun [] k 100 pc ls st M
theorem uX4_startRun {n pc : Nat} {ls st : List am_V} {M : am_M} {res : am_O × am_M} (h : gX4_startRun (rX4_startRun n) pc ls st M = some res) : rX4_startRun (n + 100) pc ls st M = some res := am_go_ok h
theorem eX4_startRun (x0 : Nat) (x1 : Int32) (M : am_M) : fX4_startRun [.inr (4, x0), .inl (.int x1)] M = rX4_startRun 100000 0 [.inr (4, x0), .inl (.int x1)] [] M := am_meth_eq rfl rfl
set_option maxRecDepth 20000 in
theorem gX4_startRun_0 (k : Nat → List am_V → List am_V → am_M → am_R) (x0 : Nat) (x1 : Int32) (M : am_M) : gX4_startRun k 0 [.inr (4, x0), .inl (.int x1)] [] M =
  some (.inl none, (am_put (am_put (am_put M 4 x0 3 1) 4 x0 5 (((am_put M 4 x0 3 1) 4 x0 5) + 1)) 4 x0 7 x1)) := (rfl)
theorem eX4_startRun_0 {n : Nat} {x0 : Nat} {x1 : Int32} {M : am_M} {res : am_O × am_M} (h : (some (.inl none, (am_put (am_put (am_put M 4 x0 3 1) 4 x0 5 (((am_put M 4 x0 3 1) 4 x0 5) + 1)) 4 x0 7 x1))) = some res) : rX4_startRun (n + 100) 0 [.inr (4, x0), .inl (.int x1)] [] M = some res := uX4_startRun ((gX4_startRun_0 (rX4_startRun n) x0 x1 M).trans h)
def rX4_waitAgain (n pc : Nat) (ls st : List am_V) (M : am_M) : am_R := am_run [] [] 0 am_X0 pX4_waitAgain n pc ls st M
def gX4_waitAgain (k : Nat → List am_V → List am_V → am_M → am_R) (pc : Nat) (ls st : List am_V) (M : am_M) : am_R := am_go [] [] 0 am_X0 pX4_waitAgain [] k 100 pc ls st M
theorem uX4_waitAgain {n pc : Nat} {ls st : List am_V} {M : am_M} {res : am_O × am_M} (h : gX4_waitAgain (rX4_waitAgain n) pc ls st M = some res) : rX4_waitAgain (n + 100) pc ls st M = some res := am_go_ok h
theorem eX4_waitAgain (x0 : Nat) (x1 : Int32) (M : am_M) : fX4_waitAgain [.inr (4, x0), .inl (.int x1)] M = rX4_waitAgain 100000 0 [.inr (4, x0), .inl (.int x1)] [] M := am_meth_eq rfl rfl
set_option maxRecDepth 20000 in
theorem gX4_waitAgain_0 (k : Nat → List am_V → List am_V → am_M → am_R) (x0 : Nat) (x1 : Int32) (M : am_M) : gX4_waitAgain k 0 [.inr (4, x0), .inl (.int x1)] [] M =
  if am_b x1 = x1 then
   some (.inl none, (am_put (am_put (am_put M 4 x0 3 0) 4 x0 7 (-1)) 4 x0 6 x1))
  else none := (rfl)
theorem eX4_waitAgain_0 {n : Nat} {x0 : Nat} {x1 : Int32} {M : am_M} {res : am_O × am_M} (h : (if am_b x1 = x1 then
   some (.inl none, (am_put (am_put (am_put M 4 x0 3 0) 4 x0 7 (-1)) 4 x0 6 x1))
  else none) = some res) : rX4_waitAgain (n + 100) 0 [.inr (4, x0), .inl (.int x1)] [] M = some res := uX4_waitAgain ((gX4_waitAgain_0 (rX4_waitAgain n) x0 x1 M).trans h)
def rX4_fail (n pc : Nat) (ls st : List am_V) (M : am_M) : am_R := am_run [] [] 0 am_X0 pX4_fail n pc ls st M
def gX4_fail (k : Nat → List am_V → List am_V → am_M → am_R) (pc : Nat) (ls st : List am_V) (M : am_M) : am_R := am_go [] [] 0 am_X0 pX4_fail [] k 100 pc ls st M
theorem uX4_fail {n pc : Nat} {ls st : List am_V} {M : am_M} {res : am_O × am_M} (h : gX4_fail (rX4_fail n) pc ls st M = some res) : rX4_fail (n + 100) pc ls st M = some res := am_go_ok h
theorem eX4_fail (x0 : Nat) (x1 : Int32) (M : am_M) : fX4_fail [.inr (4, x0), .inl (.int x1)] M = rX4_fail 100000 0 [.inr (4, x0), .inl (.int x1)] [] M := am_meth_eq rfl rfl
set_option maxRecDepth 20000 in
theorem gX4_fail_0 (k : Nat → List am_V → List am_V → am_M → am_R) (x0 : Nat) (x1 : Int32) (M : am_M) : gX4_fail k 0 [.inr (4, x0), .inl (.int x1)] [] M =
  some (.inl none, (am_put (am_put (am_put M 4 x0 3 3) 4 x0 4 x1) 4 x0 7 (-1))) := (rfl)
theorem eX4_fail_0 {n : Nat} {x0 : Nat} {x1 : Int32} {M : am_M} {res : am_O × am_M} (h : (some (.inl none, (am_put (am_put (am_put M 4 x0 3 3) 4 x0 4 x1) 4 x0 7 (-1)))) = some res) : rX4_fail (n + 100) 0 [.inr (4, x0), .inl (.int x1)] [] M = some res := uX4_fail ((gX4_fail_0 (rX4_fail n) x0 x1 M).trans h)
def rX4_breakOff (n pc : Nat) (ls st : List am_V) (M : am_M) : am_R := am_run [fX4_waitAgain, fX4_fail] [] 0 am_X0 pX4_breakOff n pc ls st M
def gX4_breakOff (k : Nat → List am_V → List am_V → am_M → am_R) (pc : Nat) (ls st : List am_V) (M : am_M) : am_R := am_go [fX4_waitAgain, fX4_fail] [] 0 am_X0 pX4_breakOff [] k 100 pc ls st M
theorem uX4_breakOff {n pc : Nat} {ls st : List am_V} {M : am_M} {res : am_O × am_M} (h : gX4_breakOff (rX4_breakOff n) pc ls st M = some res) : rX4_breakOff (n + 100) pc ls st M = some res := am_go_ok h
theorem eX4_breakOff (x0 : Nat) (x1 : Int32) (M : am_M) : fX4_breakOff [.inr (4, x0), .inl (.int x1)] M = rX4_breakOff 100000 0 [.inr (4, x0), .inl (.int x1)] [] M := am_meth_eq rfl rfl
set_option maxRecDepth 20000 in
theorem gX4_breakOff_0 (k : Nat → List am_V → List am_V → am_M → am_R) (x0 : Nat) (x1 : Int32) (M : am_M) : gX4_breakOff k 0 [.inr (4, x0), .inl (.int x1)] [] M =
  if (M 4 x0 5) = 1 then
   some (.inl none, (am_put (am_put (am_put M 4 x0 3 0) 4 x0 7 (-1)) 4 x0 6 0))
  else some (.inl none, (am_put (am_put (am_put M 4 x0 3 3) 4 x0 4 x1) 4 x0 7 (-1))) := (rfl)
theorem eX4_breakOff_0 {n : Nat} {x0 : Nat} {x1 : Int32} {M : am_M} {res : am_O × am_M} (h : (if (M 4 x0 5) = 1 then
   some (.inl none, (am_put (am_put (am_put M 4 x0 3 0) 4 x0 7 (-1)) 4 x0 6 0))
  else some (.inl none, (am_put (am_put (am_put M 4 x0 3 3) 4 x0 4 x1) 4 x0 7 (-1)))) = some res) : rX4_breakOff (n + 100) 0 [.inr (4, x0), .inl (.int x1)] [] M = some res := uX4_breakOff ((gX4_breakOff_0 (rX4_breakOff n) x0 x1 M).trans h)
def rX4_release (n pc : Nat) (ls st : List am_V) (M : am_M) : am_R := am_run [] [] 0 am_X0 pX4_release n pc ls st M
def gX4_release (k : Nat → List am_V → List am_V → am_M → am_R) (pc : Nat) (ls st : List am_V) (M : am_M) : am_R := am_go [] [] 0 am_X0 pX4_release [] k 100 pc ls st M
theorem uX4_release {n pc : Nat} {ls st : List am_V} {M : am_M} {res : am_O × am_M} (h : gX4_release (rX4_release n) pc ls st M = some res) : rX4_release (n + 100) pc ls st M = some res := am_go_ok h
theorem eX4_release (x0 : Nat) (x1 : Int32) (x2 : Int32) (M : am_M) : fX4_release [.inr (4, x0), .inl (.int x1), .inl (.int x2)] M = rX4_release 100000 0 [.inr (4, x0), .inl (.int x1), .inl (.int x2)] [] M := am_meth_eq rfl rfl
set_option maxRecDepth 20000 in
theorem gX4_release_0 (k : Nat → List am_V → List am_V → am_M → am_R) (x0 : Nat) (x1 : Int32) (x2 : Int32) (M : am_M) : gX4_release k 0 [.inr (4, x0), .inl (.int x1), .inl (.int x2)] [] M =
  some (.inl none, (am_put (am_put (am_put (am_put M 4 x0 3 2) 4 x0 7 (-1)) 4 x0 8 x1) 4 x0 9 x2)) := (rfl)
theorem eX4_release_0 {n : Nat} {x0 : Nat} {x1 : Int32} {x2 : Int32} {M : am_M} {res : am_O × am_M} (h : (some (.inl none, (am_put (am_put (am_put (am_put M 4 x0 3 2) 4 x0 7 (-1)) 4 x0 8 x1) 4 x0 9 x2))) = some res) : rX4_release (n + 100) 0 [.inr (4, x0), .inl (.int x1), .inl (.int x2)] [] M = some res := uX4_release ((gX4_release_0 (rX4_release n) x0 x1 x2 M).trans h)
def rX4_runFlags (n pc : Nat) (ls st : List am_V) (M : am_M) : am_R := am_run [] [] 1 am_X0 pX4_runFlags n pc ls st M
def gX4_runFlags (k : Nat → List am_V → List am_V → am_M → am_R) (pc : Nat) (ls st : List am_V) (M : am_M) : am_R := am_go [] [] 1 am_X0 pX4_runFlags [] k 100 pc ls st M
theorem uX4_runFlags {n pc : Nat} {ls st : List am_V} {M : am_M} {res : am_O × am_M} (h : gX4_runFlags (rX4_runFlags n) pc ls st M = some res) : rX4_runFlags (n + 100) pc ls st M = some res := am_go_ok h
theorem eX4_runFlags (x0 : Nat) (M : am_M) : fX4_runFlags [.inr (4, x0)] M = rX4_runFlags 100000 0 [.inr (4, x0)] [] M := am_meth_eq rfl rfl
set_option maxRecDepth 20000 in
theorem gX4_runFlags_0 (k : Nat → List am_V → List am_V → am_M → am_R) (x0 : Nat) (M : am_M) : gX4_runFlags k 0 [.inr (4, x0)] [] M =
  if (M 4 x0 5) ≤ 1 then
   if (am_b (M 4 x0 6)) = 0 then
    some (.inl (some (.inl (.int 0))), M)
   else some (.inl (some (.inl (.int 16))), M)
  else if (am_b (M 4 x0 6)) = 0 then
   some (.inl (some (.inl (.int 8))), M)
  else some (.inl (some (.inl (.int 24))), M) := (rfl)
theorem eX4_runFlags_0 {n : Nat} {x0 : Nat} {M : am_M} {res : am_O × am_M} (h : (if (M 4 x0 5) ≤ 1 then
   if (am_b (M 4 x0 6)) = 0 then
    some (.inl (some (.inl (.int 0))), M)
   else some (.inl (some (.inl (.int 16))), M)
  else if (am_b (M 4 x0 6)) = 0 then
   some (.inl (some (.inl (.int 8))), M)
  else some (.inl (some (.inl (.int 24))), M)) = some res) : rX4_runFlags (n + 100) 0 [.inr (4, x0)] [] M = some res := uX4_runFlags ((gX4_runFlags_0 (rX4_runFlags n) x0 M).trans h)
def rX5_isEmpty (n pc : Nat) (ls st : List am_V) (M : am_M) : am_R := am_run [] [] 2 am_X0 pX5_isEmpty n pc ls st M
def gX5_isEmpty (k : Nat → List am_V → List am_V → am_M → am_R) (pc : Nat) (ls st : List am_V) (M : am_M) : am_R := am_go [] [] 2 am_X0 pX5_isEmpty [] k 100 pc ls st M
theorem uX5_isEmpty {n pc : Nat} {ls st : List am_V} {M : am_M} {res : am_O × am_M} (h : gX5_isEmpty (rX5_isEmpty n) pc ls st M = some res) : rX5_isEmpty (n + 100) pc ls st M = some res := am_go_ok h
theorem eX5_isEmpty (x0 : Nat) (M : am_M) : fX5_isEmpty [.inr (5, x0)] M = rX5_isEmpty 100000 0 [.inr (5, x0)] [] M := am_meth_eq rfl rfl
set_option maxRecDepth 20000 in
theorem gX5_isEmpty_0 (k : Nat → List am_V → List am_V → am_M → am_R) (x0 : Nat) (M : am_M) : gX5_isEmpty k 0 [.inr (5, x0)] [] M =
  if (M 5 x0 0) = (-1) then
   some (.inl (some (.inl (.int 1))), M)
  else some (.inl (some (.inl (.int 0))), M) := (rfl)
theorem eX5_isEmpty_0 {n : Nat} {x0 : Nat} {M : am_M} {res : am_O × am_M} (h : (if (M 5 x0 0) = (-1) then
   some (.inl (some (.inl (.int 1))), M)
  else some (.inl (some (.inl (.int 0))), M)) = some res) : rX5_isEmpty (n + 100) 0 [.inr (5, x0)] [] M = some res := uX5_isEmpty ((gX5_isEmpty_0 (rX5_isEmpty n) x0 M).trans h)
def rX5_fill (n pc : Nat) (ls st : List am_V) (M : am_M) : am_R := am_run [] [] 0 am_X0 pX5_fill n pc ls st M
def gX5_fill (k : Nat → List am_V → List am_V → am_M → am_R) (pc : Nat) (ls st : List am_V) (M : am_M) : am_R := am_go [] [] 0 am_X0 pX5_fill [] k 100 pc ls st M
theorem uX5_fill {n pc : Nat} {ls st : List am_V} {M : am_M} {res : am_O × am_M} (h : gX5_fill (rX5_fill n) pc ls st M = some res) : rX5_fill (n + 100) pc ls st M = some res := am_go_ok h
theorem eX5_fill (x0 : Nat) (x1 : Int32) (x2 : Int32) (x3 : Int32) (M : am_M) : fX5_fill [.inr (5, x0), .inl (.int x1), .inl (.int x2), .inl (.int x3)] M = rX5_fill 100000 0 [.inr (5, x0), .inl (.int x1), .inl (.int x2), .inl (.int x3)] [] M := am_meth_eq rfl rfl
set_option maxRecDepth 20000 in
theorem gX5_fill_0 (k : Nat → List am_V → List am_V → am_M → am_R) (x0 : Nat) (x1 : Int32) (x2 : Int32) (x3 : Int32) (M : am_M) : gX5_fill k 0 [.inr (5, x0), .inl (.int x1), .inl (.int x2), .inl (.int x3)] [] M =
  some (.inl none, (am_put (am_put (am_put M 5 x0 0 x1) 5 x0 1 x2) 5 x0 3 x3)) := (rfl)
theorem eX5_fill_0 {n : Nat} {x0 : Nat} {x1 : Int32} {x2 : Int32} {x3 : Int32} {M : am_M} {res : am_O × am_M} (h : (some (.inl none, (am_put (am_put (am_put M 5 x0 0 x1) 5 x0 1 x2) 5 x0 3 x3))) = some res) : rX5_fill (n + 100) 0 [.inr (5, x0), .inl (.int x1), .inl (.int x2), .inl (.int x3)] [] M = some res := uX5_fill ((gX5_fill_0 (rX5_fill n) x0 x1 x2 x3 M).trans h)
def rX5_canGive (n pc : Nat) (ls st : List am_V) (M : am_M) : am_R := am_run [] [] 2 am_X0 pX5_canGive n pc ls st M
def gX5_canGive (k : Nat → List am_V → List am_V → am_M → am_R) (pc : Nat) (ls st : List am_V) (M : am_M) : am_R := am_go [] [] 2 am_X0 pX5_canGive [] k 100 pc ls st M
theorem uX5_canGive {n pc : Nat} {ls st : List am_V} {M : am_M} {res : am_O × am_M} (h : gX5_canGive (rX5_canGive n) pc ls st M = some res) : rX5_canGive (n + 100) pc ls st M = some res := am_go_ok h
theorem eX5_canGive (x0 : Nat) (x1 : Int32) (x2 : Int32) (x3 : Int32) (M : am_M) : fX5_canGive [.inr (5, x0), .inl (.int x1), .inl (.int x2), .inl (.int x3)] M = rX5_canGive 100000 0 [.inr (5, x0), .inl (.int x1), .inl (.int x2), .inl (.int x3)] [] M := am_meth_eq rfl rfl
set_option maxRecDepth 20000 in
theorem gX5_canGive_0 (k : Nat → List am_V → List am_V → am_M → am_R) (x0 : Nat) (x1 : Int32) (x2 : Int32) (x3 : Int32) (M : am_M) : gX5_canGive k 0 [.inr (5, x0), .inl (.int x1), .inl (.int x2), .inl (.int x3)] [] M =
  if (M 5 x0 0) = x1 then
   if (M 5 x0 3) ≤ x3 then
    some (.inl (some (.inl (.int 0))), M)
   else if ((M 5 x0 1) - (M 5 x0 2)) < x2 then
    some (.inl (some (.inl (.int 0))), M)
   else some (.inl (some (.inl (.int 1))), M)
  else some (.inl (some (.inl (.int 0))), M) := (rfl)
theorem eX5_canGive_0 {n : Nat} {x0 : Nat} {x1 : Int32} {x2 : Int32} {x3 : Int32} {M : am_M} {res : am_O × am_M} (h : (if (M 5 x0 0) = x1 then
   if (M 5 x0 3) ≤ x3 then
    some (.inl (some (.inl (.int 0))), M)
   else if ((M 5 x0 1) - (M 5 x0 2)) < x2 then
    some (.inl (some (.inl (.int 0))), M)
   else some (.inl (some (.inl (.int 1))), M)
  else some (.inl (some (.inl (.int 0))), M)) = some res) : rX5_canGive (n + 100) 0 [.inr (5, x0), .inl (.int x1), .inl (.int x2), .inl (.int x3)] [] M = some res := uX5_canGive ((gX5_canGive_0 (rX5_canGive n) x0 x1 x2 x3 M).trans h)
def rX6_accepts (n pc : Nat) (ls st : List am_V) (M : am_M) : am_R := am_run [fX9_isWithin] [] 2 am_X0 pX6_accepts n pc ls st M
def gX6_accepts (F0 : am_F) (k : Nat → List am_V → List am_V → am_M → am_R) (pc : Nat) (ls st : List am_V) (M : am_M) : am_R := am_go [F0] [] 2 am_X0 pX6_accepts [7, 24] k 100 pc ls st M
theorem uX6_accepts {n pc : Nat} {ls st : List am_V} {M : am_M} {res : am_O × am_M} (h : gX6_accepts fX9_isWithin (rX6_accepts n) pc ls st M = some res) : rX6_accepts (n + 100) pc ls st M = some res := am_go_ok h
theorem eX6_accepts (x0 : Int32) (x1 : Int32) (M : am_M) : fX6_accepts [.inl (.int x0), .inl (.int x1)] M = rX6_accepts 100000 0 [.inl (.int x0), .inl (.int x1)] [] M := am_meth_eq rfl rfl
set_option maxRecDepth 20000 in
theorem gX6_accepts_0 (F0 : am_F) (k : Nat → List am_V → List am_V → am_M → am_R) (x0 : Int32) (x1 : Int32) (M : am_M) : gX6_accepts F0 k 0 [.inl (.int x0), .inl (.int x1)] [] M =
  am_ret [] 4 [] (k 7 [.inl (.int x0), .inl (.int x1)]) (F0 [.inl (.int x0), .inl (.int 0), .inl (.int 15)] M) := (rfl)
theorem eX6_accepts_0 {n : Nat} {x0 : Int32} {x1 : Int32} {M : am_M} {res : am_O × am_M} (h : (am_ret [] 4 [] (rX6_accepts n 7 [.inl (.int x0), .inl (.int x1)]) (fX9_isWithin [.inl (.int x0), .inl (.int 0), .inl (.int 15)] M)) = some res) : rX6_accepts (n + 100) 0 [.inl (.int x0), .inl (.int x1)] [] M = some res := uX6_accepts ((gX6_accepts_0 fX9_isWithin (rX6_accepts n) x0 x1 M).trans h)
set_option maxRecDepth 20000 in
theorem gX6_accepts_7 (F0 : am_F) (k : Nat → List am_V → List am_V → am_M → am_R) (x0 : Int32) (x1 : Int32) (y0 : Int32) (M : am_M) : gX6_accepts F0 k 7 [.inl (.int x0), .inl (.int x1)] [.inl (.int y0)] M =
  if y0 = 0 then
   some (.inl (some (.inl (.int 0))), M)
  else if am_in x0 16 then
   if am_in x0 16 then
    am_ret [] 21 [] (k 24 [.inl (.int x0), .inl (.int x1)]) (F0 [.inl (.int x1), .inl (.int (am_st 27 (Int32.toNatClampNeg x0))), .inl (.int (am_st 28 (Int32.toNatClampNeg x0)))] M)
   else none
  else none := (rfl)
theorem eX6_accepts_7 {n : Nat} {x0 : Int32} {x1 : Int32} {y0 : Int32} {M : am_M} {res : am_O × am_M} (h : (if y0 = 0 then
   some (.inl (some (.inl (.int 0))), M)
  else if am_in x0 16 then
   if am_in x0 16 then
    am_ret [] 21 [] (rX6_accepts n 24 [.inl (.int x0), .inl (.int x1)]) (fX9_isWithin [.inl (.int x1), .inl (.int (am_st 27 (Int32.toNatClampNeg x0))), .inl (.int (am_st 28 (Int32.toNatClampNeg x0)))] M)
   else none
  else none) = some res) : rX6_accepts (n + 100) 7 [.inl (.int x0), .inl (.int x1)] [.inl (.int y0)] M = some res := uX6_accepts ((gX6_accepts_7 fX9_isWithin (rX6_accepts n) x0 x1 y0 M).trans h)
set_option maxRecDepth 20000 in
theorem gX6_accepts_24 (F0 : am_F) (k : Nat → List am_V → List am_V → am_M → am_R) (x0 : Int32) (x1 : Int32) (y0 : Int32) (M : am_M) : gX6_accepts F0 k 24 [.inl (.int x0), .inl (.int x1)] [.inl (.int y0)] M =
  if y0 = 0 then
   some (.inl (some (.inl (.int 0))), M)
  else some (.inl (some (.inl (.int 1))), M) := (rfl)
theorem eX6_accepts_24 {n : Nat} {x0 : Int32} {x1 : Int32} {y0 : Int32} {M : am_M} {res : am_O × am_M} (h : (if y0 = 0 then
   some (.inl (some (.inl (.int 0))), M)
  else some (.inl (some (.inl (.int 1))), M)) = some res) : rX6_accepts (n + 100) 24 [.inl (.int x0), .inl (.int x1)] [.inl (.int y0)] M = some res := uX6_accepts ((gX6_accepts_24 fX9_isWithin (rX6_accepts n) x0 x1 y0 M).trans h)
def rX6_kindOf (n pc : Nat) (ls st : List am_V) (M : am_M) : am_R := am_run [] [] 1 am_X0 pX6_kindOf n pc ls st M
def gX6_kindOf (k : Nat → List am_V → List am_V → am_M → am_R) (pc : Nat) (ls st : List am_V) (M : am_M) : am_R := am_go [] [] 1 am_X0 pX6_kindOf [] k 100 pc ls st M
theorem uX6_kindOf {n pc : Nat} {ls st : List am_V} {M : am_M} {res : am_O × am_M} (h : gX6_kindOf (rX6_kindOf n) pc ls st M = some res) : rX6_kindOf (n + 100) pc ls st M = some res := am_go_ok h
theorem eX6_kindOf (x0 : Nat) (x1 : Int32) (M : am_M) : fX6_kindOf [.inr (6, x0), .inl (.int x1)] M = rX6_kindOf 100000 0 [.inr (6, x0), .inl (.int x1)] [] M := am_meth_eq rfl rfl
set_option maxRecDepth 20000 in
theorem gX6_kindOf_0 (k : Nat → List am_V → List am_V → am_M → am_R) (x0 : Nat) (x1 : Int32) (M : am_M) : gX6_kindOf k 0 [.inr (6, x0), .inl (.int x1)] [] M =
  if am_in (1 + (x1 * 3)) 16 then
   some (.inl (some (.inl (.int (M 18 x0 (Int32.toNatClampNeg (1 + (x1 * 3))))))), M)
  else none := (rfl)
theorem eX6_kindOf_0 {n : Nat} {x0 : Nat} {x1 : Int32} {M : am_M} {res : am_O × am_M} (h : (if am_in (1 + (x1 * 3)) 16 then
   some (.inl (some (.inl (.int (M 18 x0 (Int32.toNatClampNeg (1 + (x1 * 3))))))), M)
  else none) = some res) : rX6_kindOf (n + 100) 0 [.inr (6, x0), .inl (.int x1)] [] M = some res := uX6_kindOf ((gX6_kindOf_0 (rX6_kindOf n) x0 x1 M).trans h)
def rX6_doseOf (n pc : Nat) (ls st : List am_V) (M : am_M) : am_R := am_run [] [] 1 am_X0 pX6_doseOf n pc ls st M
def gX6_doseOf (k : Nat → List am_V → List am_V → am_M → am_R) (pc : Nat) (ls st : List am_V) (M : am_M) : am_R := am_go [] [] 1 am_X0 pX6_doseOf [] k 100 pc ls st M
theorem uX6_doseOf {n pc : Nat} {ls st : List am_V} {M : am_M} {res : am_O × am_M} (h : gX6_doseOf (rX6_doseOf n) pc ls st M = some res) : rX6_doseOf (n + 100) pc ls st M = some res := am_go_ok h
theorem eX6_doseOf (x0 : Nat) (x1 : Int32) (M : am_M) : fX6_doseOf [.inr (6, x0), .inl (.int x1)] M = rX6_doseOf 100000 0 [.inr (6, x0), .inl (.int x1)] [] M := am_meth_eq rfl rfl
set_option maxRecDepth 20000 in
theorem gX6_doseOf_0 (k : Nat → List am_V → List am_V → am_M → am_R) (x0 : Nat) (x1 : Int32) (M : am_M) : gX6_doseOf k 0 [.inr (6, x0), .inl (.int x1)] [] M =
  if am_in (2 + (x1 * 3)) 16 then
   some (.inl (some (.inl (.int (M 18 x0 (Int32.toNatClampNeg (2 + (x1 * 3))))))), M)
  else none := (rfl)
theorem eX6_doseOf_0 {n : Nat} {x0 : Nat} {x1 : Int32} {M : am_M} {res : am_O × am_M} (h : (if am_in (2 + (x1 * 3)) 16 then
   some (.inl (some (.inl (.int (M 18 x0 (Int32.toNatClampNeg (2 + (x1 * 3))))))), M)
  else none) = some res) : rX6_doseOf (n + 100) 0 [.inr (6, x0), .inl (.int x1)] [] M = some res := uX6_doseOf ((gX6_doseOf_0 (rX6_doseOf n) x0 x1 M).trans h)
def rX6_ageOf (n pc : Nat) (ls st : List am_V) (M : am_M) : am_R := am_run [] [] 1 am_X0 pX6_ageOf n pc ls st M
def gX6_ageOf (k : Nat → List am_V → List am_V → am_M → am_R) (pc : Nat) (ls st : List am_V) (M : am_M) : am_R := am_go [] [] 1 am_X0 pX6_ageOf [] k 100 pc ls st M
theorem uX6_ageOf {n pc : Nat} {ls st : List am_V} {M : am_M} {res : am_O × am_M} (h : gX6_ageOf (rX6_ageOf n) pc ls st M = some res) : rX6_ageOf (n + 100) pc ls st M = some res := am_go_ok h
theorem eX6_ageOf (x0 : Nat) (x1 : Int32) (M : am_M) : fX6_ageOf [.inr (6, x0), .inl (.int x1)] M = rX6_ageOf 100000 0 [.inr (6, x0), .inl (.int x1)] [] M := am_meth_eq rfl rfl
set_option maxRecDepth 20000 in
theorem gX6_ageOf_0 (k : Nat → List am_V → List am_V → am_M → am_R) (x0 : Nat) (x1 : Int32) (M : am_M) : gX6_ageOf k 0 [.inr (6, x0), .inl (.int x1)] [] M =
  if am_in (3 + (x1 * 3)) 16 then
   some (.inl (some (.inl (.int (M 18 x0 (Int32.toNatClampNeg (3 + (x1 * 3))))))), M)
  else none := (rfl)
theorem eX6_ageOf_0 {n : Nat} {x0 : Nat} {x1 : Int32} {M : am_M} {res : am_O × am_M} (h : (if am_in (3 + (x1 * 3)) 16 then
   some (.inl (some (.inl (.int (M 18 x0 (Int32.toNatClampNeg (3 + (x1 * 3))))))), M)
  else none) = some res) : rX6_ageOf (n + 100) 0 [.inr (6, x0), .inl (.int x1)] [] M = some res := uX6_ageOf ((gX6_ageOf_0 (rX6_ageOf n) x0 x1 M).trans h)
def rX6_lacks (n pc : Nat) (ls st : List am_V) (M : am_M) : am_R := am_run [fX6_kindOf] [] 2 am_X0 pX6_lacks n pc ls st M
def gX6_lacks (F0 : am_F) (k : Nat → List am_V → List am_V → am_M → am_R) (pc : Nat) (ls st : List am_V) (M : am_M) : am_R := am_go [F0] [] 2 am_X0 pX6_lacks [5] k 100 pc ls st M
theorem uX6_lacks {n pc : Nat} {ls st : List am_V} {M : am_M} {res : am_O × am_M} (h : gX6_lacks fX6_kindOf (rX6_lacks n) pc ls st M = some res) : rX6_lacks (n + 100) pc ls st M = some res := am_go_ok h
theorem eX6_lacks (x0 : Nat) (x1 : Int32) (x2 : Int32) (M : am_M) : fX6_lacks [.inr (6, x0), .inl (.int x1), .inl (.int x2)] M = rX6_lacks 100000 0 [.inr (6, x0), .inl (.int x1), .inl (.int x2)] [] M := am_meth_eq rfl rfl
set_option maxRecDepth 20000 in
theorem gX6_lacks_0 (F0 : am_F) (k : Nat → List am_V → List am_V → am_M → am_R) (x0 : Nat) (x1 : Int32) (x2 : Int32) (M : am_M) : gX6_lacks F0 k 0 [.inr (6, x0), .inl (.int x1), .inl (.int x2)] [] M =
  am_ret [] 2 [] (k 5 [.inr (6, x0), .inl (.int x1), .inl (.int x2)]) (F0 [.inr (6, x0), .inl (.int x1)] M) := (rfl)
theorem eX6_lacks_0 {n : Nat} {x0 : Nat} {x1 : Int32} {x2 : Int32} {M : am_M} {res : am_O × am_M} (h : (am_ret [] 2 [] (rX6_lacks n 5 [.inr (6, x0), .inl (.int x1), .inl (.int x2)]) (fX6_kindOf [.inr (6, x0), .inl (.int x1)] M)) = some res) : rX6_lacks (n + 100) 0 [.inr (6, x0), .inl (.int x1), .inl (.int x2)] [] M = some res := uX6_lacks ((gX6_lacks_0 fX6_kindOf (rX6_lacks n) x0 x1 x2 M).trans h)
set_option maxRecDepth 20000 in
theorem gX6_lacks_5 (F0 : am_F) (k : Nat → List am_V → List am_V → am_M → am_R) (x0 : Nat) (x1 : Int32) (x2 : Int32) (y0 : Int32) (M : am_M) : gX6_lacks F0 k 5 [.inr (6, x0), .inl (.int x1), .inl (.int x2)] [.inl (.int y0)] M =
  if y0 = (-1) then
   some (.inl (some (.inl (.int 0))), M)
  else if x2 = (-1) then
   some (.inl (some (.inl (.int 1))), M)
  else some (.inl (some (.inl (.int 0))), M) := (rfl)
theorem eX6_lacks_5 {n : Nat} {x0 : Nat} {x1 : Int32} {x2 : Int32} {y0 : Int32} {M : am_M} {res : am_O × am_M} (h : (if y0 = (-1) then
   some (.inl (some (.inl (.int 0))), M)
  else if x2 = (-1) then
   some (.inl (some (.inl (.int 1))), M)
  else some (.inl (some (.inl (.int 0))), M)) = some res) : rX6_lacks (n + 100) 5 [.inr (6, x0), .inl (.int x1), .inl (.int x2)] [.inl (.int y0)] M = some res := uX6_lacks ((gX6_lacks_5 fX6_kindOf (rX6_lacks n) x0 x1 x2 y0 M).trans h)
def rX6_sampleVolume (n pc : Nat) (ls st : List am_V) (M : am_M) : am_R := am_run [] [] 1 am_X0 pX6_sampleVolume n pc ls st M
def gX6_sampleVolume (k : Nat → List am_V → List am_V → am_M → am_R) (pc : Nat) (ls st : List am_V) (M : am_M) : am_R := am_go [] [] 1 am_X0 pX6_sampleVolume [] k 100 pc ls st M
theorem uX6_sampleVolume {n pc : Nat} {ls st : List am_V} {M : am_M} {res : am_O × am_M} (h : gX6_sampleVolume (rX6_sampleVolume n) pc ls st M = some res) : rX6_sampleVolume (n + 100) pc ls st M = some res := am_go_ok h
theorem eX6_sampleVolume (x0 : Nat) (x1 : Int32) (M : am_M) : fX6_sampleVolume [.inr (6, x0), .inl (.int x1)] M = rX6_sampleVolume 100000 0 [.inr (6, x0), .inl (.int x1), am_D] [] M := am_meth_eq rfl rfl
set_option maxRecDepth 20000 in
theorem gX6_sampleVolume_0 (k : Nat → List am_V → List am_V → am_M → am_R) (x0 : Nat) (x1 : Int32) (M : am_M) : gX6_sampleVolume k 0 [.inr (6, x0), .inl (.int x1), am_D] [] M =
  if x1 = 0 then
   some (.inl (some (.inl (.int (M 18 x0 0)))), M)
  else if (M 18 x0 13) ≤ 0 then
   some (.inl (some (.inl (.int (M 18 x0 0)))), M)
  else if (M 18 x0 13) = 0 then
   none
  else some (.inl (some (.inl (.int ((M 18 x0 0) / (M 18 x0 13))))), M) := (rfl)
theorem eX6_sampleVolume_0 {n : Nat} {x0 : Nat} {x1 : Int32} {M : am_M} {res : am_O × am_M} (h : (if x1 = 0 then
   some (.inl (some (.inl (.int (M 18 x0 0)))), M)
  else if (M 18 x0 13) ≤ 0 then
   some (.inl (some (.inl (.int (M 18 x0 0)))), M)
  else if (M 18 x0 13) = 0 then
   none
  else some (.inl (some (.inl (.int ((M 18 x0 0) / (M 18 x0 13))))), M)) = some res) : rX6_sampleVolume (n + 100) 0 [.inr (6, x0), .inl (.int x1), am_D] [] M = some res := uX6_sampleVolume ((gX6_sampleVolume_0 (rX6_sampleVolume n) x0 x1 M).trans h)
def rX6_isReagentRight (n pc : Nat) (ls st : List am_V) (M : am_M) : am_R := am_run [fX6_doseOf, fX6_ageOf] [] 2 am_X0 pX6_isReagentRight n pc ls st M
def gX6_isReagentRight (F0 F1 : am_F) (k : Nat → List am_V → List am_V → am_M → am_R) (pc : Nat) (ls st : List am_V) (M : am_M) : am_R := am_go [F0, F1] [] 2 am_X0 pX6_isReagentRight [5, 14, 23] k 100 pc ls st M
theorem uX6_isReagentRight {n pc : Nat} {ls st : List am_V} {M : am_M} {res : am_O × am_M} (h : gX6_isReagentRight fX6_doseOf fX6_ageOf (rX6_isReagentRight n) pc ls st M = some res) : rX6_isReagentRight (n + 100) pc ls st M = some res := am_go_ok h
theorem eX6_isReagentRight (x0 : Nat) (x1 : Int32) (M : am_M) : fX6_isReagentRight [.inr (6, x0), .inl (.int x1)] M = rX6_isReagentRight 100000 0 [.inr (6, x0), .inl (.int x1)] [] M := am_meth_eq rfl rfl
set_option maxRecDepth 20000 in
theorem gX6_isReagentRight_0 (F0 F1 : am_F) (k : Nat → List am_V → List am_V → am_M → am_R) (x0 : Nat) (x1 : Int32) (M : am_M) : gX6_isReagentRight F0 F1 k 0 [.inr (6, x0), .inl (.int x1)] [] M =
  am_ret [] 2 [] (k 5 [.inr (6, x0), .inl (.int x1)]) (F0 [.inr (6, x0), .inl (.int x1)] M) := (rfl)
theorem eX6_isReagentRight_0 {n : Nat} {x0 : Nat} {x1 : Int32} {M : am_M} {res : am_O × am_M} (h : (am_ret [] 2 [] (rX6_isReagentRight n 5 [.inr (6, x0), .inl (.int x1)]) (fX6_doseOf [.inr (6, x0), .inl (.int x1)] M)) = some res) : rX6_isReagentRight (n + 100) 0 [.inr (6, x0), .inl (.int x1)] [] M = some res := uX6_isReagentRight ((gX6_isReagentRight_0 fX6_doseOf fX6_ageOf (rX6_isReagentRight n) x0 x1 M).trans h)
set_option maxRecDepth 20000 in
theorem gX6_isReagentRight_5 (F0 F1 : am_F) (k : Nat → List am_V → List am_V → am_M → am_R) (x0 : Nat) (x1 : Int32) (y0 : Int32) (M : am_M) : gX6_isReagentRight F0 F1 k 5 [.inr (6, x0), .inl (.int x1)] [.inl (.int y0)] M =
  if y0 < 1 then
   some (.inl (some (.inl (.int 0))), M)
  else am_ret [] 11 [] (k 14 [.inr (6, x0), .inl (.int x1)]) (F1 [.inr (6, x0), .inl (.int x1)] M) := (rfl)
theorem eX6_isReagentRight_5 {n : Nat} {x0 : Nat} {x1 : Int32} {y0 : Int32} {M : am_M} {res : am_O × am_M} (h : (if y0 < 1 then
   some (.inl (some (.inl (.int 0))), M)
  else am_ret [] 11 [] (rX6_isReagentRight n 14 [.inr (6, x0), .inl (.int x1)]) (fX6_ageOf [.inr (6, x0), .inl (.int x1)] M)) = some res) : rX6_isReagentRight (n + 100) 5 [.inr (6, x0), .inl (.int x1)] [.inl (.int y0)] M = some res := uX6_isReagentRight ((gX6_isReagentRight_5 fX6_doseOf fX6_ageOf (rX6_isReagentRight n) x0 x1 y0 M).trans h)
set_option maxRecDepth 20000 in
theorem gX6_isReagentRight_14 (F0 F1 : am_F) (k : Nat → List am_V → List am_V → am_M → am_R) (x0 : Nat) (x1 : Int32) (y0 : Int32) (M : am_M) : gX6_isReagentRight F0 F1 k 14 [.inr (6, x0), .inl (.int x1)] [.inl (.int y0)] M =
  if y0 < 1 then
   some (.inl (some (.inl (.int 0))), M)
  else am_ret [] 20 [] (k 23 [.inr (6, x0), .inl (.int x1)]) (F1 [.inr (6, x0), .inl (.int x1)] M) := (rfl)
theorem eX6_isReagentRight_14 {n : Nat} {x0 : Nat} {x1 : Int32} {y0 : Int32} {M : am_M} {res : am_O × am_M} (h : (if y0 < 1 then
   some (.inl (some (.inl (.int 0))), M)
  else am_ret [] 20 [] (rX6_isReagentRight n 23 [.inr (6, x0), .inl (.int x1)]) (fX6_ageOf [.inr (6, x0), .inl (.int x1)] M)) = some res) : rX6_isReagentRight (n + 100) 14 [.inr (6, x0), .inl (.int x1)] [.inl (.int y0)] M = some res := uX6_isReagentRight ((gX6_isReagentRight_14 fX6_doseOf fX6_ageOf (rX6_isReagentRight n) x0 x1 y0 M).trans h)
set_option maxRecDepth 20000 in
theorem gX6_isReagentRight_23 (F0 F1 : am_F) (k : Nat → List am_V → List am_V → am_M → am_R) (x0 : Nat) (x1 : Int32) (y0 : Int32) (M : am_M) : gX6_isReagentRight F0 F1 k 23 [.inr (6, x0), .inl (.int x1)] [.inl (.int y0)] M =
  if (M 18 x0 7) ≤ y0 then
   some (.inl (some (.inl (.int 0))), M)
  else some (.inl (some (.inl (.int 1))), M) := (rfl)
theorem eX6_isReagentRight_23 {n : Nat} {x0 : Nat} {x1 : Int32} {y0 : Int32} {M : am_M} {res : am_O × am_M} (h : (if (M 18 x0 7) ≤ y0 then
   some (.inl (some (.inl (.int 0))), M)
  else some (.inl (some (.inl (.int 1))), M)) = some res) : rX6_isReagentRight (n + 100) 23 [.inr (6, x0), .inl (.int x1)] [.inl (.int y0)] M = some res := uX6_isReagentRight ((gX6_isReagentRight_23 fX6_doseOf fX6_ageOf (rX6_isReagentRight n) x0 x1 y0 M).trans h)
def rX6_areReagentsRight (n pc : Nat) (ls st : List am_V) (M : am_M) : am_R := am_run [fX6_kindOf, fX6_isReagentRight, fX6_ageOf] [] 2 am_X0 pX6_areReagentsRight n pc ls st M
def gX6_areReagentsRight (F0 : am_F) (k : Nat → List am_V → List am_V → am_M → am_R) (pc : Nat) (ls st : List am_V) (M : am_M) : am_R := am_go [fX6_kindOf, F0, fX6_ageOf] [] 2 am_X0 pX6_areReagentsRight [29, 46] k 100 pc ls st M
theorem uX6_areReagentsRight {n pc : Nat} {ls st : List am_V} {M : am_M} {res : am_O × am_M} (h : gX6_areReagentsRight fX6_isReagentRight (rX6_areReagentsRight n) pc ls st M = some res) : rX6_areReagentsRight (n + 100) pc ls st M = some res := am_go_ok h
theorem eX6_areReagentsRight (x0 : Nat) (M : am_M) : fX6_areReagentsRight [.inr (6, x0)] M = rX6_areReagentsRight 100000 0 [.inr (6, x0)] [] M := am_meth_eq rfl rfl
set_option maxRecDepth 20000 in
theorem gX6_areReagentsRight_0 (F0 : am_F) (k : Nat → List am_V → List am_V → am_M → am_R) (x0 : Nat) (M : am_M) : gX6_areReagentsRight F0 k 0 [.inr (6, x0)] [] M =
  if (M 18 x0 1) = (-1) then
   if (M 18 x0 4) = (-1) then
    some (.inl (some (.inl (.int 1))), M)
   else some (.inl (some (.inl (.int 0))), M)
  else am_ret [] 26 [] (k 29 [.inr (6, x0)]) (F0 [.inr (6, x0), .inl (.int 0)] M) := (rfl)
theorem eX6_areReagentsRight_0 {n : Nat} {x0 : Nat} {M : am_M} {res : am_O × am_M} (h : (if (M 18 x0 1) = (-1) then
   if (M 18 x0 4) = (-1) then
    some (.inl (some (.inl (.int 1))), M)
   else some (.inl (some (.inl (.int 0))), M)
  else am_ret [] 26 [] (rX6_areReagentsRight n 29 [.inr (6, x0)]) (fX6_isReagentRight [.inr (6, x0), .inl (.int 0)] M)) = some res) : rX6_areReagentsRight (n + 100) 0 [.inr (6, x0)] [] M = some res := uX6_areReagentsRight ((gX6_areReagentsRight_0 fX6_isReagentRight (rX6_areReagentsRight n) x0 M).trans h)
set_option maxRecDepth 20000 in
theorem gX6_areReagentsRight_29 (F0 : am_F) (k : Nat → List am_V → List am_V → am_M → am_R) (x0 : Nat) (y0 : Int32) (M : am_M) : gX6_areReagentsRight F0 k 29 [.inr (6, x0)] [.inl (.int y0)] M =
  if y0 = 0 then
   some (.inl (some (.inl (.int 0))), M)
  else if (M 18 x0 4) = (-1) then
   some (.inl (some (.inl (.int 1))), M)
  else am_ret [] 43 [] (k 46 [.inr (6, x0)]) (F0 [.inr (6, x0), .inl (.int 1)] M) := (rfl)
theorem eX6_areReagentsRight_29 {n : Nat} {x0 : Nat} {y0 : Int32} {M : am_M} {res : am_O × am_M} (h : (if y0 = 0 then
   some (.inl (some (.inl (.int 0))), M)
  else if (M 18 x0 4) = (-1) then
   some (.inl (some (.inl (.int 1))), M)
  else am_ret [] 43 [] (rX6_areReagentsRight n 46 [.inr (6, x0)]) (fX6_isReagentRight [.inr (6, x0), .inl (.int 1)] M)) = some res) : rX6_areReagentsRight (n + 100) 29 [.inr (6, x0)] [.inl (.int y0)] M = some res := uX6_areReagentsRight ((gX6_areReagentsRight_29 fX6_isReagentRight (rX6_areReagentsRight n) x0 y0 M).trans h)
set_option maxRecDepth 20000 in
theorem gX6_areReagentsRight_46 (F0 : am_F) (k : Nat → List am_V → List am_V → am_M → am_R) (x0 : Nat) (y0 : Int32) (M : am_M) : gX6_areReagentsRight F0 k 46 [.inr (6, x0)] [.inl (.int y0)] M =
  if y0 = 0 then
   some (.inl (some (.inl (.int 0))), M)
  else if (M 18 x0 6) ≤ (M 18 x0 3) then
   some (.inl (some (.inl (.int 0))), M)
  else some (.inl (some (.inl (.int 1))), M) := (rfl)
theorem eX6_areReagentsRight_46 {n : Nat} {x0 : Nat} {y0 : Int32} {M : am_M} {res : am_O × am_M} (h : (if y0 = 0 then
   some (.inl (some (.inl (.int 0))), M)
  else if (M 18 x0 6) ≤ (M 18 x0 3) then
   some (.inl (some (.inl (.int 0))), M)
  else some (.inl (some (.inl (.int 1))), M)) = some res) : rX6_areReagentsRight (n + 100) 46 [.inr (6, x0)] [.inl (.int y0)] M = some res := uX6_areReagentsRight ((gX6_areReagentsRight_46 fX6_isReagentRight (rX6_areReagentsRight n) x0 y0 M).trans h)
def rX6_areReadingsRight (n pc : Nat) (ls st : List am_V) (M : am_M) : am_R := am_run [fX9_isWithin] [] 2 am_X0 pX6_areReadingsRight n pc ls st M
def gX6_areReadingsRight (F0 : am_F) (k : Nat → List am_V → List am_V → am_M → am_R) (pc : Nat) (ls st : List am_V) (M : am_M) : am_R := am_go [F0] [] 2 am_X0 pX6_areReadingsRight [52] k 100 pc ls st M
theorem uX6_areReadingsRight {n pc : Nat} {ls st : List am_V} {M : am_M} {res : am_O × am_M} (h : gX6_areReadingsRight fX9_isWithin (rX6_areReadingsRight n) pc ls st M = some res) : rX6_areReadingsRight (n + 100) pc ls st M = some res := am_go_ok h
theorem eX6_areReadingsRight (x0 : Nat) (M : am_M) : fX6_areReadingsRight [.inr (6, x0)] M = rX6_areReadingsRight 100000 0 [.inr (6, x0), am_D, am_D] [] M := am_meth_eq rfl rfl
set_option maxRecDepth 20000 in
theorem gX6_areReadingsRight_0 (F0 : am_F) (k : Nat → List am_V → List am_V → am_M → am_R) (x0 : Nat) (M : am_M) : gX6_areReadingsRight F0 k 0 [.inr (6, x0), am_D, am_D] [] M =
  if (M 18 x0 9) = 0 then
   if (M 18 x0 7) < 1 then
    some (.inl (some (.inl (.int 0))), M)
   else am_ret [] 49 [] (k 52 [.inr (6, x0), .inl (.int (((M 18 x0 8) - (M 18 x0 7)) + 1)), .inl (.int 1)]) (F0 [.inl (.int (((M 18 x0 8) - (M 18 x0 7)) + 1)), .inl (.int 1), .inl (.int 6)] M)
  else if (M 18 x0 7) < 1 then
   some (.inl (some (.inl (.int 0))), M)
  else am_ret [] 49 [] (k 52 [.inr (6, x0), .inl (.int (((M 18 x0 8) - (M 18 x0 7)) + 1)), .inl (.int 2)]) (F0 [.inl (.int (((M 18 x0 8) - (M 18 x0 7)) + 1)), .inl (.int 2), .inl (.int 6)] M) := (rfl)
theorem eX6_areReadingsRight_0 {n : Nat} {x0 : Nat} {M : am_M} {res : am_O × am_M} (h : (if (M 18 x0 9) = 0 then
   if (M 18 x0 7) < 1 then
    some (.inl (some (.inl (.int 0))), M)
   else am_ret [] 49 [] (rX6_areReadingsRight n 52 [.inr (6, x0), .inl (.int (((M 18 x0 8) - (M 18 x0 7)) + 1)), .inl (.int 1)]) (fX9_isWithin [.inl (.int (((M 18 x0 8) - (M 18 x0 7)) + 1)), .inl (.int 1), .inl (.int 6)] M)
  else if (M 18 x0 7) < 1 then
   some (.inl (some (.inl (.int 0))), M)
  else am_ret [] 49 [] (rX6_areReadingsRight n 52 [.inr (6, x0), .inl (.int (((M 18 x0 8) - (M 18 x0 7)) + 1)), .inl (.int 2)]) (fX9_isWithin [.inl (.int (((M 18 x0 8) - (M 18 x0 7)) + 1)), .inl (.int 2), .inl (.int 6)] M)) = some res) : rX6_areReadingsRight (n + 100) 0 [.inr (6, x0), am_D, am_D] [] M = some res := uX6_areReadingsRight ((gX6_areReadingsRight_0 fX9_isWithin (rX6_areReadingsRight n) x0 M).trans h)
set_option maxRecDepth 20000 in
theorem gX6_areReadingsRight_52 (F0 : am_F) (k : Nat → List am_V → List am_V → am_M → am_R) (x0 : Nat) (x1 : Int32) (x2 : Int32) (y0 : Int32) (M : am_M) : gX6_areReadingsRight F0 k 52 [.inr (6, x0), .inl (.int x1), .inl (.int x2)] [.inl (.int y0)] M =
  if y0 = 0 then
   some (.inl (some (.inl (.int 0))), M)
  else some (.inl (some (.inl (.int 1))), M) := (rfl)
theorem eX6_areReadingsRight_52 {n : Nat} {x0 : Nat} {x1 : Int32} {x2 : Int32} {y0 : Int32} {M : am_M} {res : am_O × am_M} (h : (if y0 = 0 then
   some (.inl (some (.inl (.int 0))), M)
  else some (.inl (some (.inl (.int 1))), M)) = some res) : rX6_areReadingsRight (n + 100) 52 [.inr (6, x0), .inl (.int x1), .inl (.int x2)] [.inl (.int y0)] M = some res := uX6_areReadingsRight ((gX6_areReadingsRight_52 fX9_isWithin (rX6_areReadingsRight n) x0 x1 x2 y0 M).trans h)
