/-! ===== the runs, piece by piece ===== -/
def rX10_clock (n pc : Nat) (ls st : List am_V) (M : am_M) : am_R := am_run [] [] 0 am_X0 pX10_clock n pc ls st M
def gX10_clock (k : Nat → List am_V → List am_V → am_M → am_R) (pc : Nat) (ls st : List am_V) (M : am_M) : am_R := am_go [] [] 0 am_X0 pX10_clock [] k 100 pc ls st M
theorem uX10_clock {n pc : Nat} {ls st : List am_V} {M : am_M} {res : am_O × am_M} (h : gX10_clock (rX10_clock n) pc ls st M = some res) : rX10_clock (n + 100) pc ls st M = some res := am_go_ok h
theorem eX10_clock (x1 : Int32) (M : am_M) : fX10_clock [.inr (10, 0), .inl (.int x1)] M = rX10_clock 100000 0 [.inr (10, 0), .inl (.int x1)] [] M := am_meth_eq rfl rfl
set_option maxRecDepth 20000 in
theorem gX10_clock_0 (k : Nat → List am_V → List am_V → am_M → am_R) (x1 : Int32) (M : am_M) : gX10_clock k 0 [.inr (10, 0), .inl (.int x1)] [] M =
  if (M 10 0 41) ≤ x1 then
   some (.inl none, (am_put (am_put M 10 0 45 0) 10 0 41 x1))
  else some (.inl none, (am_put M 10 0 45 1)) := (rfl)
theorem eX10_clock_0 {n : Nat} {x1 : Int32} {M : am_M} {res : am_O × am_M} (h : (if (M 10 0 41) ≤ x1 then
   some (.inl none, (am_put (am_put M 10 0 45 0) 10 0 41 x1))
  else some (.inl none, (am_put M 10 0 45 1))) = some res) : rX10_clock (n + 100) 0 [.inr (10, 0), .inl (.int x1)] [] M = some res := uX10_clock ((gX10_clock_0 (rX10_clock n) x1 M).trans h)
def rX10_light (n pc : Nat) (ls st : List am_V) (M : am_M) : am_R := am_run [fX10_within] [] 0 am_X0 pX10_light n pc ls st M
def gX10_light (k : Nat → List am_V → List am_V → am_M → am_R) (pc : Nat) (ls st : List am_V) (M : am_M) : am_R := am_go [fX10_within] [] 0 am_X0 pX10_light [8] k 100 pc ls st M
theorem uX10_light {n pc : Nat} {ls st : List am_V} {M : am_M} {res : am_O × am_M} (h : gX10_light (rX10_light n) pc ls st M = some res) : rX10_light (n + 100) pc ls st M = some res := am_go_ok h
theorem eX10_light (x1 : Int32) (M : am_M) : fX10_light [.inr (10, 0), .inl (.int x1)] M = rX10_light 100000 0 [.inr (10, 0), .inl (.int x1)] [] M := am_meth_eq rfl rfl
set_option maxRecDepth 20000 in
theorem gX10_light_0 (k : Nat → List am_V → List am_V → am_M → am_R) (x1 : Int32) (M : am_M) : gX10_light k 0 [.inr (10, 0), .inl (.int x1)] [] M =
  am_ret [] 5 [.inr (10, 0)] (k 8 [.inr (10, 0), .inl (.int x1)]) (fX10_within [.inl (.int x1), .inl (.int 1), .inl (.int 65535)] M) := (rfl)
theorem eX10_light_0 {n : Nat} {x1 : Int32} {M : am_M} {res : am_O × am_M} (h : (am_ret [] 5 [.inr (10, 0)] (rX10_light n 8 [.inr (10, 0), .inl (.int x1)]) (fX10_within [.inl (.int x1), .inl (.int 1), .inl (.int 65535)] M)) = some res) : rX10_light (n + 100) 0 [.inr (10, 0), .inl (.int x1)] [] M = some res := uX10_light ((gX10_light_0 (rX10_light n) x1 M).trans h)
set_option maxRecDepth 20000 in
theorem gX10_light_8 (k : Nat → List am_V → List am_V → am_M → am_R) (x1 : Int32) (y0 : Int32) (M : am_M) : gX10_light k 8 [.inr (10, 0), .inl (.int x1)] [.inl (.int y0), .inr (10, 0)] M =
  if y0 = 0 then
   some (.inl none, (am_put M 10 0 45 1))
  else some (.inl none, (am_put (am_put M 10 0 45 0) 10 0 44 x1)) := (rfl)
theorem eX10_light_8 {n : Nat} {x1 : Int32} {y0 : Int32} {M : am_M} {res : am_O × am_M} (h : (if y0 = 0 then
   some (.inl none, (am_put M 10 0 45 1))
  else some (.inl none, (am_put (am_put M 10 0 45 0) 10 0 44 x1))) = some res) : rX10_light (n + 100) 8 [.inr (10, 0), .inl (.int x1)] [.inl (.int y0), .inr (10, 0)] M = some res := uX10_light ((gX10_light_8 (rX10_light n) x1 y0 M).trans h)
def rX10_spoil (n pc : Nat) (ls st : List am_V) (M : am_M) : am_R := am_run [fX10_within] [] 0 am_X0 pX10_spoil n pc ls st M
def gX10_spoil (k : Nat → List am_V → List am_V → am_M → am_R) (pc : Nat) (ls st : List am_V) (M : am_M) : am_R := am_go [fX10_within] [] 0 am_X0 pX10_spoil [7] k 100 pc ls st M
theorem uX10_spoil {n pc : Nat} {ls st : List am_V} {M : am_M} {res : am_O × am_M} (h : gX10_spoil (rX10_spoil n) pc ls st M = some res) : rX10_spoil (n + 100) pc ls st M = some res := am_go_ok h
theorem eX10_spoil (x1 : Int32) (M : am_M) : fX10_spoil [.inr (10, 0), .inl (.int x1)] M = rX10_spoil 100000 0 [.inr (10, 0), .inl (.int x1)] [] M := am_meth_eq rfl rfl
set_option maxRecDepth 20000 in
theorem gX10_spoil_0 (k : Nat → List am_V → List am_V → am_M → am_R) (x1 : Int32) (M : am_M) : gX10_spoil k 0 [.inr (10, 0), .inl (.int x1)] [] M =
  am_ret [] 4 [.inr (10, 0)] (k 7 [.inr (10, 0), .inl (.int x1)]) (fX10_within [.inl (.int x1), .inl (.int 0), .inl (.int 1)] M) := (rfl)
theorem eX10_spoil_0 {n : Nat} {x1 : Int32} {M : am_M} {res : am_O × am_M} (h : (am_ret [] 4 [.inr (10, 0)] (rX10_spoil n 7 [.inr (10, 0), .inl (.int x1)]) (fX10_within [.inl (.int x1), .inl (.int 0), .inl (.int 1)] M)) = some res) : rX10_spoil (n + 100) 0 [.inr (10, 0), .inl (.int x1)] [] M = some res := uX10_spoil ((gX10_spoil_0 (rX10_spoil n) x1 M).trans h)
set_option maxRecDepth 20000 in
theorem gX10_spoil_7 (k : Nat → List am_V → List am_V → am_M → am_R) (x1 : Int32) (y0 : Int32) (M : am_M) : gX10_spoil k 7 [.inr (10, 0), .inl (.int x1)] [.inl (.int y0), .inr (10, 0)] M =
  if y0 = 0 then
   if x1 = 0 then
    if x1 = 1 then
     some (.inl none, (am_put (am_put (am_put M 10 0 45 1) 10 0 46 1) 10 0 47 1))
    else some (.inl none, (am_put (am_put M 10 0 45 1) 10 0 46 1))
   else if x1 = 1 then
    some (.inl none, (am_put (am_put M 10 0 45 1) 10 0 47 1))
   else some (.inl none, (am_put M 10 0 45 1))
  else if x1 = 0 then
   if x1 = 1 then
    some (.inl none, (am_put (am_put (am_put M 10 0 45 0) 10 0 46 1) 10 0 47 1))
   else some (.inl none, (am_put (am_put M 10 0 45 0) 10 0 46 1))
  else if x1 = 1 then
   some (.inl none, (am_put (am_put M 10 0 45 0) 10 0 47 1))
  else some (.inl none, (am_put M 10 0 45 0)) := (rfl)
theorem eX10_spoil_7 {n : Nat} {x1 : Int32} {y0 : Int32} {M : am_M} {res : am_O × am_M} (h : (if y0 = 0 then
   if x1 = 0 then
    if x1 = 1 then
     some (.inl none, (am_put (am_put (am_put M 10 0 45 1) 10 0 46 1) 10 0 47 1))
    else some (.inl none, (am_put (am_put M 10 0 45 1) 10 0 46 1))
   else if x1 = 1 then
    some (.inl none, (am_put (am_put M 10 0 45 1) 10 0 47 1))
   else some (.inl none, (am_put M 10 0 45 1))
  else if x1 = 0 then
   if x1 = 1 then
    some (.inl none, (am_put (am_put (am_put M 10 0 45 0) 10 0 46 1) 10 0 47 1))
   else some (.inl none, (am_put (am_put M 10 0 45 0) 10 0 46 1))
  else if x1 = 1 then
   some (.inl none, (am_put (am_put M 10 0 45 0) 10 0 47 1))
  else some (.inl none, (am_put M 10 0 45 0))) = some res) : rX10_spoil (n + 100) 7 [.inr (10, 0), .inl (.int x1)] [.inl (.int y0), .inr (10, 0)] M = some res := uX10_spoil ((gX10_spoil_7 (rX10_spoil n) x1 y0 M).trans h)
def rX10_copyBook (n pc : Nat) (ls st : List am_V) (M : am_M) : am_R := am_run [] [] 0 am_X0 pX10_copyBook n pc ls st M
def gX10_copyBook (k : Nat → List am_V → List am_V → am_M → am_R) (pc : Nat) (ls st : List am_V) (M : am_M) : am_R := am_go [] [] 0 am_X0 pX10_copyBook [] k 100 pc ls st M
theorem uX10_copyBook {n pc : Nat} {ls st : List am_V} {M : am_M} {res : am_O × am_M} (h : gX10_copyBook (rX10_copyBook n) pc ls st M = some res) : rX10_copyBook (n + 100) pc ls st M = some res := am_go_ok h
theorem eX10_copyBook (x1 : Int32) (x2 : Int32) (M : am_M) : fX10_copyBook [.inr (10, 0), .inl (.int x1), .inl (.int x2)] M = rX10_copyBook 100000 0 [.inr (10, 0), .inl (.int x1), .inl (.int x2)] [] M := am_meth_eq rfl rfl
set_option maxRecDepth 20000 in
theorem gX10_copyBook_0 (k : Nat → List am_V → List am_V → am_M → am_R) (x1 : Int32) (x2 : Int32) (M : am_M) : gX10_copyBook k 0 [.inr (10, 0), .inl (.int x1), .inl (.int x2)] [] M =
  if am_in x1 24 then
   if am_in x2 24 then
    if am_in x1 24 then
     if am_in x2 24 then
      if am_in x1 24 then
       if am_in x2 24 then
        if am_in x1 24 then
         if am_in x2 24 then
          if am_in x1 24 then
           if am_in x2 24 then
            some (.inl none, (am_put (am_put (am_put (am_put (am_put M 61 0 (Int32.toNatClampNeg x2) (M 61 0 (Int32.toNatClampNeg x1))) 62 0 (Int32.toNatClampNeg x2) (M 62 0 (Int32.toNatClampNeg x1))) 63 0 (Int32.toNatClampNeg x2) (M 63 0 (Int32.toNatClampNeg x1))) 64 0 (Int32.toNatClampNeg x2) (M 64 0 (Int32.toNatClampNeg x1))) 65 0 (Int32.toNatClampNeg x2) (M 65 0 (Int32.toNatClampNeg x1))))
           else none
          else none
         else none
        else none
       else none
      else none
     else none
    else none
   else none
  else none := (rfl)
theorem eX10_copyBook_0 {n : Nat} {x1 : Int32} {x2 : Int32} {M : am_M} {res : am_O × am_M} (h : (if am_in x1 24 then
   if am_in x2 24 then
    if am_in x1 24 then
     if am_in x2 24 then
      if am_in x1 24 then
       if am_in x2 24 then
        if am_in x1 24 then
         if am_in x2 24 then
          if am_in x1 24 then
           if am_in x2 24 then
            some (.inl none, (am_put (am_put (am_put (am_put (am_put M 61 0 (Int32.toNatClampNeg x2) (M 61 0 (Int32.toNatClampNeg x1))) 62 0 (Int32.toNatClampNeg x2) (M 62 0 (Int32.toNatClampNeg x1))) 63 0 (Int32.toNatClampNeg x2) (M 63 0 (Int32.toNatClampNeg x1))) 64 0 (Int32.toNatClampNeg x2) (M 64 0 (Int32.toNatClampNeg x1))) 65 0 (Int32.toNatClampNeg x2) (M 65 0 (Int32.toNatClampNeg x1))))
           else none
          else none
         else none
        else none
       else none
      else none
     else none
    else none
   else none
  else none) = some res) : rX10_copyBook (n + 100) 0 [.inr (10, 0), .inl (.int x1), .inl (.int x2)] [] M = some res := uX10_copyBook ((gX10_copyBook_0 (rX10_copyBook n) x1 x2 M).trans h)
def rX10_cancel (n pc : Nat) (ls st : List am_V) (M : am_M) : am_R := am_run [fX10_copyBook] [] 0 am_X0 pX10_cancel n pc ls st M
def gX10_cancel (k : Nat → List am_V → List am_V → am_M → am_R) (pc : Nat) (ls st : List am_V) (M : am_M) : am_R := am_go [fX10_copyBook] [] 0 am_X0 pX10_cancel [4, 28] k 100 pc ls st M
theorem uX10_cancel {n pc : Nat} {ls st : List am_V} {M : am_M} {res : am_O × am_M} (h : gX10_cancel (rX10_cancel n) pc ls st M = some res) : rX10_cancel (n + 100) pc ls st M = some res := am_go_ok h
theorem eX10_cancel (x1 : Int32) (M : am_M) : fX10_cancel [.inr (10, 0), .inl (.int x1)] M = rX10_cancel 100000 0 [.inr (10, 0), .inl (.int x1), am_D, am_D] [] M := am_meth_eq rfl rfl
set_option maxRecDepth 20000 in
theorem gX10_cancel_0 (k : Nat → List am_V → List am_V → am_M → am_R) (x1 : Int32) (M : am_M) : gX10_cancel k 0 [.inr (10, 0), .inl (.int x1), am_D, am_D] [] M =
  k 4 [.inr (10, 0), .inl (.int x1), .inl (.int 0), .inl (.int 0)] [] M := (rfl)
theorem eX10_cancel_0 {n : Nat} {x1 : Int32} {M : am_M} {res : am_O × am_M} (h : (rX10_cancel n 4 [.inr (10, 0), .inl (.int x1), .inl (.int 0), .inl (.int 0)] [] M) = some res) : rX10_cancel (n + 100) 0 [.inr (10, 0), .inl (.int x1), am_D, am_D] [] M = some res := uX10_cancel ((gX10_cancel_0 (rX10_cancel n) x1 M).trans h)
set_option maxRecDepth 20000 in
theorem gX10_cancel_4 (k : Nat → List am_V → List am_V → am_M → am_R) (x1 : Int32) (x2 : Int32) (x3 : Int32) (M : am_M) : gX10_cancel k 4 [.inr (10, 0), .inl (.int x1), .inl (.int x2), .inl (.int x3)] [] M =
  if (M 10 0 36) ≤ x3 then
   some (.inl none, (am_put M 10 0 36 x2))
  else if am_in x3 24 then
   if (M 65 0 (Int32.toNatClampNeg x3)) = x1 then
    k 4 [.inr (10, 0), .inl (.int x1), .inl (.int x2), .inl (.int (x3 + 1))] [] M
   else am_ret [] 25 [] (k 28 [.inr (10, 0), .inl (.int x1), .inl (.int x2), .inl (.int x3)]) (fX10_copyBook [.inr (10, 0), .inl (.int x3), .inl (.int x2)] M)
  else none := (rfl)
theorem eX10_cancel_4 {n : Nat} {x1 : Int32} {x2 : Int32} {x3 : Int32} {M : am_M} {res : am_O × am_M} (h : (if (M 10 0 36) ≤ x3 then
   some (.inl none, (am_put M 10 0 36 x2))
  else if am_in x3 24 then
   if (M 65 0 (Int32.toNatClampNeg x3)) = x1 then
    rX10_cancel n 4 [.inr (10, 0), .inl (.int x1), .inl (.int x2), .inl (.int (x3 + 1))] [] M
   else am_ret [] 25 [] (rX10_cancel n 28 [.inr (10, 0), .inl (.int x1), .inl (.int x2), .inl (.int x3)]) (fX10_copyBook [.inr (10, 0), .inl (.int x3), .inl (.int x2)] M)
  else none) = some res) : rX10_cancel (n + 100) 4 [.inr (10, 0), .inl (.int x1), .inl (.int x2), .inl (.int x3)] [] M = some res := uX10_cancel ((gX10_cancel_4 (rX10_cancel n) x1 x2 x3 M).trans h)
set_option maxRecDepth 20000 in
theorem gX10_cancel_28 (k : Nat → List am_V → List am_V → am_M → am_R) (x1 : Int32) (x2 : Int32) (x3 : Int32) (M : am_M) : gX10_cancel k 28 [.inr (10, 0), .inl (.int x1), .inl (.int x2), .inl (.int x3)] [] M =
  k 4 [.inr (10, 0), .inl (.int x1), .inl (.int (x2 + 1)), .inl (.int (x3 + 1))] [] M := (rfl)
theorem eX10_cancel_28 {n : Nat} {x1 : Int32} {x2 : Int32} {x3 : Int32} {M : am_M} {res : am_O × am_M} (h : (rX10_cancel n 4 [.inr (10, 0), .inl (.int x1), .inl (.int (x2 + 1)), .inl (.int (x3 + 1))] [] M) = some res) : rX10_cancel (n + 100) 28 [.inr (10, 0), .inl (.int x1), .inl (.int x2), .inl (.int x3)] [] M = some res := uX10_cancel ((gX10_cancel_28 (rX10_cancel n) x1 x2 x3 M).trans h)
def rX10_nextUse (n pc : Nat) (ls st : List am_V) (M : am_M) : am_R := am_run [] [] 1 am_X0 pX10_nextUse n pc ls st M
def gX10_nextUse (k : Nat → List am_V → List am_V → am_M → am_R) (pc : Nat) (ls st : List am_V) (M : am_M) : am_R := am_go [] [] 1 am_X0 pX10_nextUse [4] k 100 pc ls st M
theorem uX10_nextUse {n pc : Nat} {ls st : List am_V} {M : am_M} {res : am_O × am_M} (h : gX10_nextUse (rX10_nextUse n) pc ls st M = some res) : rX10_nextUse (n + 100) pc ls st M = some res := am_go_ok h
theorem eX10_nextUse (x1 : Int32) (M : am_M) : fX10_nextUse [.inr (10, 0), .inl (.int x1)] M = rX10_nextUse 100000 0 [.inr (10, 0), .inl (.int x1), am_D, am_D] [] M := am_meth_eq rfl rfl
set_option maxRecDepth 20000 in
theorem gX10_nextUse_0 (k : Nat → List am_V → List am_V → am_M → am_R) (x1 : Int32) (M : am_M) : gX10_nextUse k 0 [.inr (10, 0), .inl (.int x1), am_D, am_D] [] M =
  k 4 [.inr (10, 0), .inl (.int x1), .inl (.int (-1)), .inl (.int 0)] [] M := (rfl)
theorem eX10_nextUse_0 {n : Nat} {x1 : Int32} {M : am_M} {res : am_O × am_M} (h : (rX10_nextUse n 4 [.inr (10, 0), .inl (.int x1), .inl (.int (-1)), .inl (.int 0)] [] M) = some res) : rX10_nextUse (n + 100) 0 [.inr (10, 0), .inl (.int x1), am_D, am_D] [] M = some res := uX10_nextUse ((gX10_nextUse_0 (rX10_nextUse n) x1 M).trans h)
set_option maxRecDepth 20000 in
theorem gX10_nextUse_4 (k : Nat → List am_V → List am_V → am_M → am_R) (x1 : Int32) (x2 : Int32) (x3 : Int32) (M : am_M) : gX10_nextUse k 4 [.inr (10, 0), .inl (.int x1), .inl (.int x2), .inl (.int x3)] [] M =
  if (M 10 0 36) ≤ x3 then
   some (.inl (some (.inl (.int x2))), M)
  else if am_in x3 24 then
   if (M 61 0 (Int32.toNatClampNeg x3)) ≤ x1 then
    k 4 [.inr (10, 0), .inl (.int x1), .inl (.int x2), .inl (.int (x3 + 1))] [] M
   else if x2 < 0 then
    k 4 [.inr (10, 0), .inl (.int x1), .inl (.int x3), .inl (.int (x3 + 1))] [] M
   else if am_in x3 24 then
    if am_in x2 24 then
     if (M 61 0 (Int32.toNatClampNeg x2)) ≤ (M 61 0 (Int32.toNatClampNeg x3)) then
      k 4 [.inr (10, 0), .inl (.int x1), .inl (.int x2), .inl (.int (x3 + 1))] [] M
     else k 4 [.inr (10, 0), .inl (.int x1), .inl (.int x3), .inl (.int (x3 + 1))] [] M
    else none
   else none
  else none := (rfl)
theorem eX10_nextUse_4 {n : Nat} {x1 : Int32} {x2 : Int32} {x3 : Int32} {M : am_M} {res : am_O × am_M} (h : (if (M 10 0 36) ≤ x3 then
   some (.inl (some (.inl (.int x2))), M)
  else if am_in x3 24 then
   if (M 61 0 (Int32.toNatClampNeg x3)) ≤ x1 then
    rX10_nextUse n 4 [.inr (10, 0), .inl (.int x1), .inl (.int x2), .inl (.int (x3 + 1))] [] M
   else if x2 < 0 then
    rX10_nextUse n 4 [.inr (10, 0), .inl (.int x1), .inl (.int x3), .inl (.int (x3 + 1))] [] M
   else if am_in x3 24 then
    if am_in x2 24 then
     if (M 61 0 (Int32.toNatClampNeg x2)) ≤ (M 61 0 (Int32.toNatClampNeg x3)) then
      rX10_nextUse n 4 [.inr (10, 0), .inl (.int x1), .inl (.int x2), .inl (.int (x3 + 1))] [] M
     else rX10_nextUse n 4 [.inr (10, 0), .inl (.int x1), .inl (.int x3), .inl (.int (x3 + 1))] [] M
    else none
   else none
  else none) = some res) : rX10_nextUse (n + 100) 4 [.inr (10, 0), .inl (.int x1), .inl (.int x2), .inl (.int x3)] [] M = some res := uX10_nextUse ((gX10_nextUse_4 (rX10_nextUse n) x1 x2 x3 M).trans h)
def rX10_follows (n pc : Nat) (ls st : List am_V) (M : am_M) : am_R := am_run [fX10_nextUse] [] 2 am_X0 pX10_follows n pc ls st M
def gX10_follows (k : Nat → List am_V → List am_V → am_M → am_R) (pc : Nat) (ls st : List am_V) (M : am_M) : am_R := am_go [fX10_nextUse] [] 2 am_X0 pX10_follows [5] k 100 pc ls st M
theorem uX10_follows {n pc : Nat} {ls st : List am_V} {M : am_M} {res : am_O × am_M} (h : gX10_follows (rX10_follows n) pc ls st M = some res) : rX10_follows (n + 100) pc ls st M = some res := am_go_ok h
theorem eX10_follows (x1 : Int32) (x2 : Int32) (M : am_M) : fX10_follows [.inr (10, 0), .inl (.int x1), .inl (.int x2)] M = rX10_follows 100000 0 [.inr (10, 0), .inl (.int x1), .inl (.int x2), am_D] [] M := am_meth_eq rfl rfl
set_option maxRecDepth 20000 in
theorem gX10_follows_0 (k : Nat → List am_V → List am_V → am_M → am_R) (x1 : Int32) (x2 : Int32) (M : am_M) : gX10_follows k 0 [.inr (10, 0), .inl (.int x1), .inl (.int x2), am_D] [] M =
  am_ret [] 2 [] (k 5 [.inr (10, 0), .inl (.int x1), .inl (.int x2), am_D]) (fX10_nextUse [.inr (10, 0), .inl (.int x2)] M) := (rfl)
theorem eX10_follows_0 {n : Nat} {x1 : Int32} {x2 : Int32} {M : am_M} {res : am_O × am_M} (h : (am_ret [] 2 [] (rX10_follows n 5 [.inr (10, 0), .inl (.int x1), .inl (.int x2), am_D]) (fX10_nextUse [.inr (10, 0), .inl (.int x2)] M)) = some res) : rX10_follows (n + 100) 0 [.inr (10, 0), .inl (.int x1), .inl (.int x2), am_D] [] M = some res := uX10_follows ((gX10_follows_0 (rX10_follows n) x1 x2 M).trans h)
set_option maxRecDepth 20000 in
theorem gX10_follows_5 (k : Nat → List am_V → List am_V → am_M → am_R) (x1 : Int32) (x2 : Int32) (y0 : Int32) (M : am_M) : gX10_follows k 5 [.inr (10, 0), .inl (.int x1), .inl (.int x2), am_D] [.inl (.int y0)] M =
  if y0 < 0 then
   some (.inl (some (.inl (.int 1))), M)
  else if am_in y0 24 then
   if am_in ((6 * x1) + (M 62 0 (Int32.toNatClampNeg y0))) 36 then
    if (am_b (M 43 0 (Int32.toNatClampNeg ((6 * x1) + (M 62 0 (Int32.toNatClampNeg y0)))))) = 0 then
     some (.inl (some (.inl (.int 1))), M)
    else if am_in y0 24 then
     if ((M 61 0 (Int32.toNatClampNeg y0)) - x2) < 2 then
      some (.inl (some (.inl (.int 0))), M)
     else some (.inl (some (.inl (.int 1))), M)
    else none
   else none
  else none := (rfl)
theorem eX10_follows_5 {n : Nat} {x1 : Int32} {x2 : Int32} {y0 : Int32} {M : am_M} {res : am_O × am_M} (h : (if y0 < 0 then
   some (.inl (some (.inl (.int 1))), M)
  else if am_in y0 24 then
   if am_in ((6 * x1) + (M 62 0 (Int32.toNatClampNeg y0))) 36 then
    if (am_b (M 43 0 (Int32.toNatClampNeg ((6 * x1) + (M 62 0 (Int32.toNatClampNeg y0)))))) = 0 then
     some (.inl (some (.inl (.int 1))), M)
    else if am_in y0 24 then
     if ((M 61 0 (Int32.toNatClampNeg y0)) - x2) < 2 then
      some (.inl (some (.inl (.int 0))), M)
     else some (.inl (some (.inl (.int 1))), M)
    else none
   else none
  else none) = some res) : rX10_follows (n + 100) 5 [.inr (10, 0), .inl (.int x1), .inl (.int x2), am_D] [.inl (.int y0)] M = some res := uX10_follows ((gX10_follows_5 (rX10_follows n) x1 x2 y0 M).trans h)
def rX10_allowed (n pc : Nat) (ls st : List am_V) (M : am_M) : am_R := am_run [fX10_follows] [] 2 am_X0 pX10_allowed n pc ls st M
def gX10_allowed (k : Nat → List am_V → List am_V → am_M → am_R) (pc : Nat) (ls st : List am_V) (M : am_M) : am_R := am_go [fX10_follows] [] 2 am_X0 pX10_allowed [19, 26, 36, 80] k 100 pc ls st M
theorem uX10_allowed {n pc : Nat} {ls st : List am_V} {M : am_M} {res : am_O × am_M} (h : gX10_allowed (rX10_allowed n) pc ls st M = some res) : rX10_allowed (n + 100) pc ls st M = some res := am_go_ok h
theorem eX10_allowed (M : am_M) : fX10_allowed [.inr (10, 0)] M = rX10_allowed 100000 0 [.inr (10, 0), am_D, am_D] [] M := am_meth_eq rfl rfl
set_option maxRecDepth 20000 in
theorem gX10_allowed_0 (k : Nat → List am_V → List am_V → am_M → am_R) (M : am_M) : gX10_allowed k 0 [.inr (10, 0), am_D, am_D] [] M =
  if (M 10 0 38) < 0 then
   k 26 [.inr (10, 0), .inl (.int 0), am_D] [] M
  else am_ret [] 16 [] (k 19 [.inr (10, 0), am_D, am_D]) (fX10_follows [.inr (10, 0), .inl (.int (M 10 0 38)), .inl (.int (M 10 0 37))] M) := (rfl)
theorem eX10_allowed_0 {n : Nat} {M : am_M} {res : am_O × am_M} (h : (if (M 10 0 38) < 0 then
   rX10_allowed n 26 [.inr (10, 0), .inl (.int 0), am_D] [] M
  else am_ret [] 16 [] (rX10_allowed n 19 [.inr (10, 0), am_D, am_D]) (fX10_follows [.inr (10, 0), .inl (.int (M 10 0 38)), .inl (.int (M 10 0 37))] M)) = some res) : rX10_allowed (n + 100) 0 [.inr (10, 0), am_D, am_D] [] M = some res := uX10_allowed ((gX10_allowed_0 (rX10_allowed n) M).trans h)
set_option maxRecDepth 20000 in
theorem gX10_allowed_26 (k : Nat → List am_V → List am_V → am_M → am_R) (x1 : Int32) (M : am_M) : gX10_allowed k 26 [.inr (10, 0), .inl (.int x1), am_D] [] M =
  if (M 10 0 36) ≤ x1 then
   some (.inl (some (.inl (.int 1))), M)
  else k 36 [.inr (10, 0), .inl (.int x1), .inl (.int 0)] [] M := (rfl)
theorem eX10_allowed_26 {n : Nat} {x1 : Int32} {M : am_M} {res : am_O × am_M} (h : (if (M 10 0 36) ≤ x1 then
   some (.inl (some (.inl (.int 1))), M)
  else rX10_allowed n 36 [.inr (10, 0), .inl (.int x1), .inl (.int 0)] [] M) = some res) : rX10_allowed (n + 100) 26 [.inr (10, 0), .inl (.int x1), am_D] [] M = some res := uX10_allowed ((gX10_allowed_26 (rX10_allowed n) x1 M).trans h)
set_option maxRecDepth 20000 in
theorem gX10_allowed_19 (k : Nat → List am_V → List am_V → am_M → am_R) (y0 : Int32) (M : am_M) : gX10_allowed k 19 [.inr (10, 0), am_D, am_D] [.inl (.int y0)] M =
  if y0 = 0 then
   some (.inl (some (.inl (.int 0))), M)
  else k 26 [.inr (10, 0), .inl (.int 0), am_D] [] M := (rfl)
theorem eX10_allowed_19 {n : Nat} {y0 : Int32} {M : am_M} {res : am_O × am_M} (h : (if y0 = 0 then
   some (.inl (some (.inl (.int 0))), M)
  else rX10_allowed n 26 [.inr (10, 0), .inl (.int 0), am_D] [] M) = some res) : rX10_allowed (n + 100) 19 [.inr (10, 0), am_D, am_D] [.inl (.int y0)] M = some res := uX10_allowed ((gX10_allowed_19 (rX10_allowed n) y0 M).trans h)
set_option maxRecDepth 20000 in
theorem gX10_allowed_36 (k : Nat → List am_V → List am_V → am_M → am_R) (x1 : Int32) (x2 : Int32) (M : am_M) : gX10_allowed k 36 [.inr (10, 0), .inl (.int x1), .inl (.int x2)] [] M =
  if x1 ≤ x2 then
   if am_in x1 24 then
    if am_in x1 24 then
     am_ret [] 77 [] (k 80 [.inr (10, 0), .inl (.int x1), .inl (.int x2)]) (fX10_follows [.inr (10, 0), .inl (.int (M 62 0 (Int32.toNatClampNeg x1))), .inl (.int (M 61 0 (Int32.toNatClampNeg x1)))] M)
    else none
   else none
  else if am_in x1 24 then
   if am_in x2 24 then
    if (M 61 0 (Int32.toNatClampNeg x1)) = (M 61 0 (Int32.toNatClampNeg x2)) then
     some (.inl (some (.inl (.int 0))), M)
    else k 36 [.inr (10, 0), .inl (.int x1), .inl (.int (x2 + 1))] [] M
   else none
  else none := (rfl)
theorem eX10_allowed_36 {n : Nat} {x1 : Int32} {x2 : Int32} {M : am_M} {res : am_O × am_M} (h : (if x1 ≤ x2 then
   if am_in x1 24 then
    if am_in x1 24 then
     am_ret [] 77 [] (rX10_allowed n 80 [.inr (10, 0), .inl (.int x1), .inl (.int x2)]) (fX10_follows [.inr (10, 0), .inl (.int (M 62 0 (Int32.toNatClampNeg x1))), .inl (.int (M 61 0 (Int32.toNatClampNeg x1)))] M)
    else none
   else none
  else if am_in x1 24 then
   if am_in x2 24 then
    if (M 61 0 (Int32.toNatClampNeg x1)) = (M 61 0 (Int32.toNatClampNeg x2)) then
     some (.inl (some (.inl (.int 0))), M)
    else rX10_allowed n 36 [.inr (10, 0), .inl (.int x1), .inl (.int (x2 + 1))] [] M
   else none
  else none) = some res) : rX10_allowed (n + 100) 36 [.inr (10, 0), .inl (.int x1), .inl (.int x2)] [] M = some res := uX10_allowed ((gX10_allowed_36 (rX10_allowed n) x1 x2 M).trans h)
set_option maxRecDepth 20000 in
theorem gX10_allowed_80 (k : Nat → List am_V → List am_V → am_M → am_R) (x1 : Int32) (x2 : Int32) (y0 : Int32) (M : am_M) : gX10_allowed k 80 [.inr (10, 0), .inl (.int x1), .inl (.int x2)] [.inl (.int y0)] M =
  if y0 = 0 then
   some (.inl (some (.inl (.int 0))), M)
  else k 26 [.inr (10, 0), .inl (.int (x1 + 1)), .inl (.int x2)] [] M := (rfl)
theorem eX10_allowed_80 {n : Nat} {x1 : Int32} {x2 : Int32} {y0 : Int32} {M : am_M} {res : am_O × am_M} (h : (if y0 = 0 then
   some (.inl (some (.inl (.int 0))), M)
  else rX10_allowed n 26 [.inr (10, 0), .inl (.int (x1 + 1)), .inl (.int x2)] [] M) = some res) : rX10_allowed (n + 100) 80 [.inr (10, 0), .inl (.int x1), .inl (.int x2)] [.inl (.int y0)] M = some res := uX10_allowed ((gX10_allowed_80 (rX10_allowed n) x1 x2 y0 M).trans h)
set_option maxRecDepth 20000 in
theorem gX10_allowed_26a (k : Nat → List am_V → List am_V → am_M → am_R) (x1 : Int32) (x2 : Int32) (M : am_M) : gX10_allowed k 26 [.inr (10, 0), .inl (.int x1), .inl (.int x2)] [] M =
  if (M 10 0 36) ≤ x1 then
   some (.inl (some (.inl (.int 1))), M)
  else k 36 [.inr (10, 0), .inl (.int x1), .inl (.int 0)] [] M := (rfl)
theorem eX10_allowed_26a {n : Nat} {x1 : Int32} {x2 : Int32} {M : am_M} {res : am_O × am_M} (h : (if (M 10 0 36) ≤ x1 then
   some (.inl (some (.inl (.int 1))), M)
  else rX10_allowed n 36 [.inr (10, 0), .inl (.int x1), .inl (.int 0)] [] M) = some res) : rX10_allowed (n + 100) 26 [.inr (10, 0), .inl (.int x1), .inl (.int x2)] [] M = some res := uX10_allowed ((gX10_allowed_26a (rX10_allowed n) x1 x2 M).trans h)
