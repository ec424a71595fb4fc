/-! ===== the runs, piece by piece ===== -/
def rX10_clock (n pc : Nat) (ls st : List am_V) (M : am_M) : am_R := am_run [] [] 0 am_X0 pX10_clock n pc ls st M
def gX10_clock (k : Nat → List am_V → List am_V → am_M → am_R) (pc : Nat) (ls st : List am_V) (M : am_M) : am_R := am_go [] [] 0 am_X0 pX10_clock [] k 100 pc ls st M
theorem uX10_clock {n pc : Nat} {ls st : List am_V} {M : am_M} {res : am_O × am_M} (h : gX10_clock (rX10_clock n) pc ls st M = some res) : rX10_clock (n + 100) pc ls st M = some res := am_go_ok h
theorem eX10_clock (x1 : Int32) (M : am_M) : fX10_clock [.inr (10, 0), .inl (.int x1)] M = rX10_clock 100000 0 [.inr (10, 0), .inl (.int x1)] [] M := am_meth_eq rfl rfl
set_option maxRecDepth 20000 in
theorem gX10_clock_0 (k : Nat → List am_V → List am_V → am_M → am_R) (x1 : Int32) (M : am_M) : gX10_clock k 0 [.inr (10, 0), .inl (.int x1)] [] M =
  if (M 10 0 41) ≤ x1 then
   some (.inl none, (am_put (am_put M 10 0 45 0) 10 0 41 x1))
  else some (.inl none, (am_put M 10 0 45 1)) := (rfl)
theorem eX10_clock_0 {n : Nat} {x1 : Int32} {M : am_M} {res : am_O × am_M} (h : (if (M 10 0 41) ≤ x1 then
   some (.inl none, (am_put (am_put M 10 0 45 0) 10 0 41 x1))
  else some (.inl none, (am_put M 10 0 45 1))) = some res) : rX10_clock (n + 100) 0 [.inr (10, 0), .inl (.int x1)] [] M = some res := uX10_clock ((gX10_clock_0 (rX10_clock n) x1 M).trans h)
def rX10_light (n pc : Nat) (ls st : List am_V) (M : am_M) : am_R := am_run [fX10_within] [] 0 am_X0 pX10_light n pc ls st M
def gX10_light (F0 : am_F) (k : Nat → List am_V → List am_V → am_M → am_R) (pc : Nat) (ls st : List am_V) (M : am_M) : am_R := am_go [F0] [] 0 am_X0 pX10_light [8] k 100 pc ls st M
theorem uX10_light {n pc : Nat} {ls st : List am_V} {M : am_M} {res : am_O × am_M} (h : gX10_light fX10_within (rX10_light n) pc ls st M = some res) : rX10_light (n + 100) pc ls st M = some res := am_go_ok h
theorem eX10_light (x1 : Int32) (M : am_M) : fX10_light [.inr (10, 0), .inl (.int x1)] M = rX10_light 100000 0 [.inr (10, 0), .inl (.int x1)] [] M := am_meth_eq rfl rfl
set_option maxRecDepth 20000 in
theorem gX10_light_0 (F0 : am_F) (k : Nat → List am_V → List am_V → am_M → am_R) (x1 : Int32) (M : am_M) : gX10_light F0 k 0 [.inr (10, 0), .inl (.int x1)] [] M =
  am_ret [] 5 [.inr (10, 0)] (k 8 [.inr (10, 0), .inl (.int x1)]) (F0 [.inl (.int x1), .inl (.int 1), .inl (.int 65535)] M) := (rfl)
theorem eX10_light_0 {n : Nat} {x1 : Int32} {M : am_M} {res : am_O × am_M} (h : (am_ret [] 5 [.inr (10, 0)] (rX10_light n 8 [.inr (10, 0), .inl (.int x1)]) (fX10_within [.inl (.int x1), .inl (.int 1), .inl (.int 65535)] M)) = some res) : rX10_light (n + 100) 0 [.inr (10, 0), .inl (.int x1)] [] M = some res := uX10_light ((gX10_light_0 fX10_within (rX10_light n) x1 M).trans h)
set_option maxRecDepth 20000 in
theorem gX10_light_8 (F0 : am_F) (k : Nat → List am_V → List am_V → am_M → am_R) (x1 : Int32) (y0 : Int32) (M : am_M) : gX10_light F0 k 8 [.inr (10, 0), .inl (.int x1)] [.inl (.int y0), .inr (10, 0)] M =
  if y0 = 0 then
   some (.inl none, (am_put M 10 0 45 1))
  else some (.inl none, (am_put (am_put M 10 0 45 0) 10 0 44 x1)) := (rfl)
theorem eX10_light_8 {n : Nat} {x1 : Int32} {y0 : Int32} {M : am_M} {res : am_O × am_M} (h : (if y0 = 0 then
   some (.inl none, (am_put M 10 0 45 1))
  else some (.inl none, (am_put (am_put M 10 0 45 0) 10 0 44 x1))) = some res) : rX10_light (n + 100) 8 [.inr (10, 0), .inl (.int x1)] [.inl (.int y0), .inr (10, 0)] M = some res := uX10_light ((gX10_light_8 fX10_within (rX10_light n) x1 y0 M).trans h)
def rX10_spoil (n pc : Nat) (ls st : List am_V) (M : am_M) : am_R := am_run [fX10_within] [] 0 am_X0 pX10_spoil n pc ls st M
def gX10_spoil (F0 : am_F) (k : Nat → List am_V → List am_V → am_M → am_R) (pc : Nat) (ls st : List am_V) (M : am_M) : am_R := am_go [F0] [] 0 am_X0 pX10_spoil [7] k 100 pc ls st M
theorem uX10_spoil {n pc : Nat} {ls st : List am_V} {M : am_M} {res : am_O × am_M} (h : gX10_spoil fX10_within (rX10_spoil n) pc ls st M = some res) : rX10_spoil (n + 100) pc ls st M = some res := am_go_ok h
theorem eX10_spoil (x1 : Int32) (M : am_M) : fX10_spoil [.inr (10, 0), .inl (.int x1)] M = rX10_spoil 100000 0 [.inr (10, 0), .inl (.int x1)] [] M := am_meth_eq rfl rfl
set_option maxRecDepth 20000 in
theorem gX10_spoil_0 (F0 : am_F) (k : Nat → List am_V → List am_V → am_M → am_R) (x1 : Int32) (M : am_M) : gX10_spoil F0 k 0 [.inr (10, 0), .inl (.int x1)] [] M =
  am_ret [] 4 [.inr (10, 0)] (k 7 [.inr (10, 0), .inl (.int x1)]) (F0 [.inl (.int x1), .inl (.int 0), .inl (.int 1)] M) := (rfl)
theorem eX10_spoil_0 {n : Nat} {x1 : Int32} {M : am_M} {res : am_O × am_M} (h : (am_ret [] 4 [.inr (10, 0)] (rX10_spoil n 7 [.inr (10, 0), .inl (.int x1)]) (fX10_within [.inl (.int x1), .inl (.int 0), .inl (.int 1)] M)) = some res) : rX10_spoil (n + 100) 0 [.inr (10, 0), .inl (.int x1)] [] M = some res := uX10_spoil ((gX10_spoil_0 fX10_within (rX10_spoil n) x1 M).trans h)
set_option maxRecDepth 20000 in
theorem gX10_spoil_7 (F0 : am_F) (k : Nat → List am_V → List am_V → am_M → am_R) (x1 : Int32) (y0 : Int32) (M : am_M) : gX10_spoil F0 k 7 [.inr (10, 0), .inl (.int x1)] [.inl (.int y0), .inr (10, 0)] M =
  if y0 = 0 then
   if x1 = 0 then
    if x1 = 1 then
     some (.inl none, (am_put (am_put (am_put M 10 0 45 1) 10 0 46 1) 10 0 47 1))
    else some (.inl none, (am_put (am_put M 10 0 45 1) 10 0 46 1))
   else if x1 = 1 then
    some (.inl none, (am_put (am_put M 10 0 45 1) 10 0 47 1))
   else some (.inl none, (am_put M 10 0 45 1))
  else if x1 = 0 then
   if x1 = 1 then
    some (.inl none, (am_put (am_put (am_put M 10 0 45 0) 10 0 46 1) 10 0 47 1))
   else some (.inl none, (am_put (am_put M 10 0 45 0) 10 0 46 1))
  else if x1 = 1 then
   some (.inl none, (am_put (am_put M 10 0 45 0) 10 0 47 1))
  else some (.inl none, (am_put M 10 0 45 0)) := (rfl)
theorem eX10_spoil_7 {n : Nat} {x1 : Int32} {y0 : Int32} {M : am_M} {res : am_O × am_M} (h : (if y0 = 0 then
   if x1 = 0 then
    if x1 = 1 then
     some (.inl none, (am_put (am_put (am_put M 10 0 45 1) 10 0 46 1) 10 0 47 1))
    else some (.inl none, (am_put (am_put M 10 0 45 1) 10 0 46 1))
   else if x1 = 1 then
    some (.inl none, (am_put (am_put M 10 0 45 1) 10 0 47 1))
   else some (.inl none, (am_put M 10 0 45 1))
  else if x1 = 0 then
   if x1 = 1 then
    some (.inl none, (am_put (am_put (am_put M 10 0 45 0) 10 0 46 1) 10 0 47 1))
   else some (.inl none, (am_put (am_put M 10 0 45 0) 10 0 46 1))
  else if x1 = 1 then
   some (.inl none, (am_put (am_put M 10 0 45 0) 10 0 47 1))
  else some (.inl none, (am_put M 10 0 45 0))) = some res) : rX10_spoil (n + 100) 7 [.inr (10, 0), .inl (.int x1)] [.inl (.int y0), .inr (10, 0)] M = some res := uX10_spoil ((gX10_spoil_7 fX10_within (rX10_spoil n) x1 y0 M).trans h)
def rX10_copyBook (n pc : Nat) (ls st : List am_V) (M : am_M) : am_R := am_run [] [] 0 am_X0 pX10_copyBook n pc ls st M
def gX10_copyBook (k : Nat → List am_V → List am_V → am_M → am_R) (pc : Nat) (ls st : List am_V) (M : am_M) : am_R := am_go [] [] 0 am_X0 pX10_copyBook [] k 100 pc ls st M
theorem uX10_copyBook {n pc : Nat} {ls st : List am_V} {M : am_M} {res : am_O × am_M} (h : gX10_copyBook (rX10_copyBook n) pc ls st M = some res) : rX10_copyBook (n + 100) pc ls st M = some res := am_go_ok h
theorem eX10_copyBook (x1 : Int32) (x2 : Int32) (M : am_M) : fX10_copyBook [.inr (10, 0), .inl (.int x1), .inl (.int x2)] M = rX10_copyBook 100000 0 [.inr (10, 0), .inl (.int x1), .inl (.int x2)] [] M := am_meth_eq rfl rfl
set_option maxRecDepth 20000 in
theorem gX10_copyBook_0 (k : Nat → List am_V → List am_V → am_M → am_R) (x1 : Int32) (x2 : Int32) (M : am_M) : gX10_copyBook k 0 [.inr (10, 0), .inl (.int x1), .inl (.int x2)] [] M =
  if am_in x1 24 then
   if am_in x2 24 then
    if am_in x1 24 then
     if am_in x2 24 then
      if am_in x1 24 then
       if am_in x2 24 then
        if am_in x1 24 then
         if am_in x2 24 then
          if am_in x1 24 then
           if am_in x2 24 then
            some (.inl none, (am_put (am_put (am_put (am_put (am_put M 61 0 (Int32.toNatClampNeg x2) (M 61 0 (Int32.toNatClampNeg x1))) 62 0 (Int32.toNatClampNeg x2) (M 62 0 (Int32.toNatClampNeg x1))) 63 0 (Int32.toNatClampNeg x2) (M 63 0 (Int32.toNatClampNeg x1))) 64 0 (Int32.toNatClampNeg x2) (M 64 0 (Int32.toNatClampNeg x1))) 65 0 (Int32.toNatClampNeg x2) (M 65 0 (Int32.toNatClampNeg x1))))
           else none
          else none
         else none
        else none
       else none
      else none
     else none
    else none
   else none
  else none := (rfl)
theorem eX10_copyBook_0 {n : Nat} {x1 : Int32} {x2 : Int32} {M : am_M} {res : am_O × am_M} (h : (if am_in x1 24 then
   if am_in x2 24 then
    if am_in x1 24 then
     if am_in x2 24 then
      if am_in x1 24 then
       if am_in x2 24 then
        if am_in x1 24 then
         if am_in x2 24 then
          if am_in x1 24 then
           if am_in x2 24 then
            some (.inl none, (am_put (am_put (am_put (am_put (am_put M 61 0 (Int32.toNatClampNeg x2) (M 61 0 (Int32.toNatClampNeg x1))) 62 0 (Int32.toNatClampNeg x2) (M 62 0 (Int32.toNatClampNeg x1))) 63 0 (Int32.toNatClampNeg x2) (M 63 0 (Int32.toNatClampNeg x1))) 64 0 (Int32.toNatClampNeg x2) (M 64 0 (Int32.toNatClampNeg x1))) 65 0 (Int32.toNatClampNeg x2) (M 65 0 (Int32.toNatClampNeg x1))))
           else none
          else none
         else none
        else none
       else none
      else none
     else none
    else none
   else none
  else none) = some res) : rX10_copyBook (n + 100) 0 [.inr (10, 0), .inl (.int x1), .inl (.int x2)] [] M = some res := uX10_copyBook ((gX10_copyBook_0 (rX10_copyBook n) x1 x2 M).trans h)
def rX10_cancel (n pc : Nat) (ls st : List am_V) (M : am_M) : am_R := am_run [fX10_copyBook] [] 0 am_X0 pX10_cancel n pc ls st M
def gX10_cancel (F0 : am_F) (k : Nat → List am_V → List am_V → am_M → am_R) (pc : Nat) (ls st : List am_V) (M : am_M) : am_R := am_go [F0] [] 0 am_X0 pX10_cancel [4, 28] k 100 pc ls st M
theorem uX10_cancel {n pc : Nat} {ls st : List am_V} {M : am_M} {res : am_O × am_M} (h : gX10_cancel fX10_copyBook (rX10_cancel n) pc ls st M = some res) : rX10_cancel (n + 100) pc ls st M = some res := am_go_ok h
theorem eX10_cancel (x1 : Int32) (M : am_M) : fX10_cancel [.inr (10, 0), .inl (.int x1)] M = rX10_cancel 100000 0 [.inr (10, 0), .inl (.int x1), am_D, am_D] [] M := am_meth_eq rfl rfl
set_option maxRecDepth 20000 in
theorem gX10_cancel_0 (F0 : am_F) (k : Nat → List am_V → List am_V → am_M → am_R) (x1 : Int32) (M : am_M) : gX10_cancel F0 k 0 [.inr (10, 0), .inl (.int x1), am_D, am_D] [] M =
  k 4 [.inr (10, 0), .inl (.int x1), .inl (.int 0), .inl (.int 0)] [] M := (rfl)
theorem eX10_cancel_0 {n : Nat} {x1 : Int32} {M : am_M} {res : am_O × am_M} (h : (rX10_cancel n 4 [.inr (10, 0), .inl (.int x1), .inl (.int 0), .inl (.int 0)] [] M) = some res) : rX10_cancel (n + 100) 0 [.inr (10, 0), .inl (.int x1), am_D, am_D] [] M = some res := uX10_cancel ((gX10_cancel_0 fX10_copyBook (rX10_cancel n) x1 M).trans h)
set_option maxRecDepth 20000 in
theorem gX10_cancel_4 (F0 : am_F) (k : Nat → List am_V → List am_V → am_M → am_R) (x1 : Int32) (x2 : Int32) (x3 : Int32) (M : am_M) : gX10_cancel F0 k 4 [.inr (10, 0), .inl (.int x1), .inl (.int x2), .inl (.int x3)] [] M =
  if (M 10 0 36) ≤ x3 then
   some (.inl none, (am_put M 10 0 36 x2))
  else if am_in x3 24 then
   if (M 65 0 (Int32.toNatClampNeg x3)) = x1 then
    k 4 [.inr (10, 0), .inl (.int x1), .inl (.int x2), .inl (.int (x3 + 1))] [] M
   else am_ret [] 25 [] (k 28 [.inr (10, 0), .inl (.int x1), .inl (.int x2), .inl (.int x3)]) (F0 [.inr (10, 0), .inl (.int x3), .inl (.int x2)] M)
  else none := (rfl)
theorem eX10_cancel_4 {n : Nat} {x1 : Int32} {x2 : Int32} {x3 : Int32} {M : am_M} {res : am_O × am_M} (h : (if (M 10 0 36) ≤ x3 then
   some (.inl none, (am_put M 10 0 36 x2))
  else if am_in x3 24 then
   if (M 65 0 (Int32.toNatClampNeg x3)) = x1 then
    rX10_cancel n 4 [.inr (10, 0), .inl (.int x1), .inl (.int x2), .inl (.int (x3 + 1))] [] M
   else am_ret [] 25 [] (rX10_cancel n 28 [.inr (10, 0), .inl (.int x1), .inl (.int x2), .inl (.int x3)]) (fX10_copyBook [.inr (10, 0), .inl (.int x3), .inl (.int x2)] M)
  else none) = some res) : rX10_cancel (n + 100) 4 [.inr (10, 0), .inl (.int x1), .inl (.int x2), .inl (.int x3)] [] M = some res := uX10_cancel ((gX10_cancel_4 fX10_copyBook (rX10_cancel n) x1 x2 x3 M).trans h)
set_option maxRecDepth 20000 in
theorem gX10_cancel_28 (F0 : am_F) (k : Nat → List am_V → List am_V → am_M → am_R) (x1 : Int32) (x2 : Int32) (x3 : Int32) (M : am_M) : gX10_cancel F0 k 28 [.inr (10, 0), .inl (.int x1), .inl (.int x2), .inl (.int x3)] [] M =
  k 4 [.inr (10, 0), .inl (.int x1), .inl (.int (x2 + 1)), .inl (.int (x3 + 1))] [] M := (rfl)
theorem eX10_cancel_28 {n : Nat} {x1 : Int32} {x2 : Int32} {x3 : Int32} {M : am_M} {res : am_O × am_M} (h : (rX10_cancel n 4 [.inr (10, 0), .inl (.int x1), .inl (.int (x2 + 1)), .inl (.int (x3 + 1))] [] M) = some res) : rX10_cancel (n + 100) 28 [.inr (10, 0), .inl (.int x1), .inl (.int x2), .inl (.int x3)] [] M = some res := uX10_cancel ((gX10_cancel_28 fX10_copyBook (rX10_cancel n) x1 x2 x3 M).trans h)
def rX10_nextUse (n pc : Nat) (ls st : List am_V) (M : am_M) : am_R := am_run [] [] 1 am_X0 pX10_nextUse n pc ls st M
def gX10_nextUse (k : Nat → List am_V → List am_V → am_M → am_R) (pc : Nat) (ls st : List am_V) (M : am_M) : am_R := am_go [] [] 1 am_X0 pX10_nextUse [4] k 100 pc ls st M
theorem uX10_nextUse {n pc : Nat} {ls st : List am_V} {M : am_M} {res : am_O × am_M} (h : gX10_nextUse (rX10_nextUse n) pc ls st M = some res) : rX10_nextUse (n + 100) pc ls st M = some res := am_go_ok h
theorem eX10_nextUse (x1 : Int32) (M : am_M) : fX10_nextUse [.inr (10, 0), .inl (.int x1)] M = rX10_nextUse 100000 0 [.inr (10, 0), .inl (.int x1), am_D, am_D] [] M := am_meth_eq rfl rfl
set_option maxRecDepth 20000 in
theorem gX10_nextUse_0 (k : Nat → List am_V → List am_V → am_M → am_R) (x1 : Int32) (M : am_M) : gX10_nextUse k 0 [.inr (10, 0), .inl (.int x1), am_D, am_D] [] M =
  k 4 [.inr (10, 0), .inl (.int x1), .inl (.int (-1)), .inl (.int 0)] [] M := (rfl)
theorem eX10_nextUse_0 {n : Nat} {x1 : Int32} {M : am_M} {res : am_O × am_M} (h : (rX10_nextUse n 4 [.inr (10, 0), .inl (.int x1), .inl (.int (-1)), .inl (.int 0)] [] M) = some res) : rX10_nextUse (n + 100) 0 [.inr (10, 0), .inl (.int x1), am_D, am_D] [] M = some res := uX10_nextUse ((gX10_nextUse_0 (rX10_nextUse n) x1 M).trans h)
set_option maxRecDepth 20000 in
theorem gX10_nextUse_4 (k : Nat → List am_V → List am_V → am_M → am_R) (x1 : Int32) (x2 : Int32) (x3 : Int32) (M : am_M) : gX10_nextUse k 4 [.inr (10, 0), .inl (.int x1), .inl (.int x2), .inl (.int x3)] [] M =
  if (M 10 0 36) ≤ x3 then
   some (.inl (some (.inl (.int x2))), M)
  else if am_in x3 24 then
   if (M 61 0 (Int32.toNatClampNeg x3)) ≤ x1 then
    k 4 [.inr (10, 0), .inl (.int x1), .inl (.int x2), .inl (.int (x3 + 1))] [] M
   else if x2 < 0 then
    k 4 [.inr (10, 0), .inl (.int x1), .inl (.int x3), .inl (.int (x3 + 1))] [] M
   else if am_in x3 24 then
    if am_in x2 24 then
     if (M 61 0 (Int32.toNatClampNeg x2)) ≤ (M 61 0 (Int32.toNatClampNeg x3)) then
      k 4 [.inr (10, 0), .inl (.int x1), .inl (.int x2), .inl (.int (x3 + 1))] [] M
     else k 4 [.inr (10, 0), .inl (.int x1), .inl (.int x3), .inl (.int (x3 + 1))] [] M
    else none
   else none
  else none := (rfl)
theorem eX10_nextUse_4 {n : Nat} {x1 : Int32} {x2 : Int32} {x3 : Int32} {M : am_M} {res : am_O × am_M} (h : (if (M 10 0 36) ≤ x3 then
   some (.inl (some (.inl (.int x2))), M)
  else if am_in x3 24 then
   if (M 61 0 (Int32.toNatClampNeg x3)) ≤ x1 then
    rX10_nextUse n 4 [.inr (10, 0), .inl (.int x1), .inl (.int x2), .inl (.int (x3 + 1))] [] M
   else if x2 < 0 then
    rX10_nextUse n 4 [.inr (10, 0), .inl (.int x1), .inl (.int x3), .inl (.int (x3 + 1))] [] M
   else if am_in x3 24 then
    if am_in x2 24 then
     if (M 61 0 (Int32.toNatClampNeg x2)) ≤ (M 61 0 (Int32.toNatClampNeg x3)) then
      rX10_nextUse n 4 [.inr (10, 0), .inl (.int x1), .inl (.int x2), .inl (.int (x3 + 1))] [] M
     else rX10_nextUse n 4 [.inr (10, 0), .inl (.int x1), .inl (.int x3), .inl (.int (x3 + 1))] [] M
    else none
   else none
  else none) = some res) : rX10_nextUse (n + 100) 4 [.inr (10, 0), .inl (.int x1), .inl (.int x2), .inl (.int x3)] [] M = some res := uX10_nextUse ((gX10_nextUse_4 (rX10_nextUse n) x1 x2 x3 M).trans h)
def rX10_follows (n pc : Nat) (ls st : List am_V) (M : am_M) : am_R := am_run [fX10_nextUse] [] 2 am_X0 pX10_follows n pc ls st M
def gX10_follows (F0 : am_F) (k : Nat → List am_V → List am_V → am_M → am_R) (pc : Nat) (ls st : List am_V) (M : am_M) : am_R := am_go [F0] [] 2 am_X0 pX10_follows [5] k 100 pc ls st M
theorem uX10_follows {n pc : Nat} {ls st : List am_V} {M : am_M} {res : am_O × am_M} (h : gX10_follows fX10_nextUse (rX10_follows n) pc ls st M = some res) : rX10_follows (n + 100) pc ls st M = some res := am_go_ok h
theorem eX10_follows (x1 : Int32) (x2 : Int32) (M : am_M) : fX10_follows [.inr (10, 0), .inl (.int x1), .inl (.int x2)] M = rX10_follows 100000 0 [.inr (10, 0), .inl (.int x1), .inl (.int x2), am_D] [] M := am_meth_eq rfl rfl
set_option maxRecDepth 20000 in
theorem gX10_follows_0 (F0 : am_F) (k : Nat → List am_V → List am_V → am_M → am_R) (x1 : Int32) (x2 : Int32) (M : am_M) : gX10_follows F0 k 0 [.inr (10, 0), .inl (.int x1), .inl (.int x2), am_D] [] M =
  am_ret [] 2 [] (k 5 [.inr (10, 0), .inl (.int x1), .inl (.int x2), am_D]) (F0 [.inr (10, 0), .inl (.int x2)] M) := (rfl)
theorem eX10_follows_0 {n : Nat} {x1 : Int32} {x2 : Int32} {M : am_M} {res : am_O × am_M} (h : (am_ret [] 2 [] (rX10_follows n 5 [.inr (10, 0), .inl (.int x1), .inl (.int x2), am_D]) (fX10_nextUse [.inr (10, 0), .inl (.int x2)] M)) = some res) : rX10_follows (n + 100) 0 [.inr (10, 0), .inl (.int x1), .inl (.int x2), am_D] [] M = some res := uX10_follows ((gX10_follows_0 fX10_nextUse (rX10_follows n) x1 x2 M).trans h)
set_option maxRecDepth 20000 in
theorem gX10_follows_5 (F0 : am_F) (k : Nat → List am_V → List am_V → am_M → am_R) (x1 : Int32) (x2 : Int32) (y0 : Int32) (M : am_M) : gX10_follows F0 k 5 [.inr (10, 0), .inl (.int x1), .inl (.int x2), am_D] [.inl (.int y0)] M =
  if y0 < 0 then
   some (.inl (some (.inl (.int 1))), M)
  else if am_in y0 24 then
   if am_in ((6 * x1) + (M 62 0 (Int32.toNatClampNeg y0))) 36 then
    if (am_b (M 43 0 (Int32.toNatClampNeg ((6 * x1) + (M 62 0 (Int32.toNatClampNeg y0)))))) = 0 then
     some (.inl (some (.inl (.int 1))), M)
    else if am_in y0 24 then
     if ((M 61 0 (Int32.toNatClampNeg y0)) - x2) < 2 then
      some (.inl (some (.inl (.int 0))), M)
     else some (.inl (some (.inl (.int 1))), M)
    else none
   else none
  else none := (rfl)
theorem eX10_follows_5 {n : Nat} {x1 : Int32} {x2 : Int32} {y0 : Int32} {M : am_M} {res : am_O × am_M} (h : (if y0 < 0 then
   some (.inl (some (.inl (.int 1))), M)
  else if am_in y0 24 then
   if am_in ((6 * x1) + (M 62 0 (Int32.toNatClampNeg y0))) 36 then
    if (am_b (M 43 0 (Int32.toNatClampNeg ((6 * x1) + (M 62 0 (Int32.toNatClampNeg y0)))))) = 0 then
     some (.inl (some (.inl (.int 1))), M)
    else if am_in y0 24 then
     if ((M 61 0 (Int32.toNatClampNeg y0)) - x2) < 2 then
      some (.inl (some (.inl (.int 0))), M)
     else some (.inl (some (.inl (.int 1))), M)
    else none
   else none
  else none) = some res) : rX10_follows (n + 100) 5 [.inr (10, 0), .inl (.int x1), .inl (.int x2), am_D] [.inl (.int y0)] M = some res := uX10_follows ((gX10_follows_5 fX10_nextUse (rX10_follows n) x1 x2 y0 M).trans h)
def rX10_allowed (n pc : Nat) (ls st : List am_V) (M : am_M) : am_R := am_run [fX10_follows] [] 2 am_X0 pX10_allowed n pc ls st M
def gX10_allowed (F0 : am_F) (k : Nat → List am_V → List am_V → am_M → am_R) (pc : Nat) (ls st : List am_V) (M : am_M) : am_R := am_go [F0] [] 2 am_X0 pX10_allowed [19, 26, 36, 80] k 100 pc ls st M
theorem uX10_allowed {n pc : Nat} {ls st : List am_V} {M : am_M} {res : am_O × am_M} (h : gX10_allowed fX10_follows (rX10_allowed n) pc ls st M = some res) : rX10_allowed (n + 100) pc ls st M = some res := am_go_ok h
theorem eX10_allowed (M : am_M) : fX10_allowed [.inr (10, 0)] M = rX10_allowed 100000 0 [.inr (10, 0), am_D, am_D] [] M := am_meth_eq rfl rfl
set_option maxRecDepth 20000 in
theorem gX10_allowed_0 (F0 : am_F) (k : Nat → List am_V → List am_V → am_M → am_R) (M : am_M) : gX10_allowed F0 k 0 [.inr (10, 0), am_D, am_D] [] M =
  if (M 10 0 38) < 0 then
   k 26 [.inr (10, 0), .inl (.int 0), am_D] [] M
  else am_ret [] 16 [] (k 19 [.inr (10, 0), am_D, am_D]) (F0 [.inr (10, 0), .inl (.int (M 10 0 38)), .inl (.int (M 10 0 37))] M) := (rfl)
theorem eX10_allowed_0 {n : Nat} {M : am_M} {res : am_O × am_M} (h : (if (M 10 0 38) < 0 then
   rX10_allowed n 26 [.inr (10, 0), .inl (.int 0), am_D] [] M
  else am_ret [] 16 [] (rX10_allowed n 19 [.inr (10, 0), am_D, am_D]) (fX10_follows [.inr (10, 0), .inl (.int (M 10 0 38)), .inl (.int (M 10 0 37))] M)) = some res) : rX10_allowed (n + 100) 0 [.inr (10, 0), am_D, am_D] [] M = some res := uX10_allowed ((gX10_allowed_0 fX10_follows (rX10_allowed n) M).trans h)
set_option maxRecDepth 20000 in
theorem gX10_allowed_26 (F0 : am_F) (k : Nat → List am_V → List am_V → am_M → am_R) (x1 : Int32) (x2 : am_V) (M : am_M) : gX10_allowed F0 k 26 [.inr (10, 0), .inl (.int x1), x2] [] M =
  if (M 10 0 36) ≤ x1 then
   some (.inl (some (.inl (.int 1))), M)
  else k 36 [.inr (10, 0), .inl (.int x1), .inl (.int 0)] [] M := (rfl)
theorem eX10_allowed_26 {n : Nat} {x1 : Int32} {x2 : am_V} {M : am_M} {res : am_O × am_M} (h : (if (M 10 0 36) ≤ x1 then
   some (.inl (some (.inl (.int 1))), M)
  else rX10_allowed n 36 [.inr (10, 0), .inl (.int x1), .inl (.int 0)] [] M) = some res) : rX10_allowed (n + 100) 26 [.inr (10, 0), .inl (.int x1), x2] [] M = some res := uX10_allowed ((gX10_allowed_26 fX10_follows (rX10_allowed n) x1 x2 M).trans h)
set_option maxRecDepth 20000 in
theorem gX10_allowed_19 (F0 : am_F) (k : Nat → List am_V → List am_V → am_M → am_R) (y0 : Int32) (M : am_M) : gX10_allowed F0 k 19 [.inr (10, 0), am_D, am_D] [.inl (.int y0)] M =
  if y0 = 0 then
   some (.inl (some (.inl (.int 0))), M)
  else k 26 [.inr (10, 0), .inl (.int 0), am_D] [] M := (rfl)
theorem eX10_allowed_19 {n : Nat} {y0 : Int32} {M : am_M} {res : am_O × am_M} (h : (if y0 = 0 then
   some (.inl (some (.inl (.int 0))), M)
  else rX10_allowed n 26 [.inr (10, 0), .inl (.int 0), am_D] [] M) = some res) : rX10_allowed (n + 100) 19 [.inr (10, 0), am_D, am_D] [.inl (.int y0)] M = some res := uX10_allowed ((gX10_allowed_19 fX10_follows (rX10_allowed n) y0 M).trans h)
set_option maxRecDepth 20000 in
theorem gX10_allowed_36 (F0 : am_F) (k : Nat → List am_V → List am_V → am_M → am_R) (x1 : Int32) (x2 : Int32) (M : am_M) : gX10_allowed F0 k 36 [.inr (10, 0), .inl (.int x1), .inl (.int x2)] [] M =
  if x1 ≤ x2 then
   if am_in x1 24 then
    if am_in x1 24 then
     am_ret [] 77 [] (k 80 [.inr (10, 0), .inl (.int x1), .inl (.int x2)]) (F0 [.inr (10, 0), .inl (.int (M 62 0 (Int32.toNatClampNeg x1))), .inl (.int (M 61 0 (Int32.toNatClampNeg x1)))] M)
    else none
   else none
  else if am_in x1 24 then
   if am_in x2 24 then
    if (M 61 0 (Int32.toNatClampNeg x1)) = (M 61 0 (Int32.toNatClampNeg x2)) then
     some (.inl (some (.inl (.int 0))), M)
    else k 36 [.inr (10, 0), .inl (.int x1), .inl (.int (x2 + 1))] [] M
   else none
  else none := (rfl)
theorem eX10_allowed_36 {n : Nat} {x1 : Int32} {x2 : Int32} {M : am_M} {res : am_O × am_M} (h : (if x1 ≤ x2 then
   if am_in x1 24 then
    if am_in x1 24 then
     am_ret [] 77 [] (rX10_allowed n 80 [.inr (10, 0), .inl (.int x1), .inl (.int x2)]) (fX10_follows [.inr (10, 0), .inl (.int (M 62 0 (Int32.toNatClampNeg x1))), .inl (.int (M 61 0 (Int32.toNatClampNeg x1)))] M)
    else none
   else none
  else if am_in x1 24 then
   if am_in x2 24 then
    if (M 61 0 (Int32.toNatClampNeg x1)) = (M 61 0 (Int32.toNatClampNeg x2)) then
     some (.inl (some (.inl (.int 0))), M)
    else rX10_allowed n 36 [.inr (10, 0), .inl (.int x1), .inl (.int (x2 + 1))] [] M
   else none
  else none) = some res) : rX10_allowed (n + 100) 36 [.inr (10, 0), .inl (.int x1), .inl (.int x2)] [] M = some res := uX10_allowed ((gX10_allowed_36 fX10_follows (rX10_allowed n) x1 x2 M).trans h)
set_option maxRecDepth 20000 in
theorem gX10_allowed_80 (F0 : am_F) (k : Nat → List am_V → List am_V → am_M → am_R) (x1 : Int32) (x2 : Int32) (y0 : Int32) (M : am_M) : gX10_allowed F0 k 80 [.inr (10, 0), .inl (.int x1), .inl (.int x2)] [.inl (.int y0)] M =
  if y0 = 0 then
   some (.inl (some (.inl (.int 0))), M)
  else k 26 [.inr (10, 0), .inl (.int (x1 + 1)), .inl (.int x2)] [] M := (rfl)
theorem eX10_allowed_80 {n : Nat} {x1 : Int32} {x2 : Int32} {y0 : Int32} {M : am_M} {res : am_O × am_M} (h : (if y0 = 0 then
   some (.inl (some (.inl (.int 0))), M)
  else rX10_allowed n 26 [.inr (10, 0), .inl (.int (x1 + 1)), .inl (.int x2)] [] M) = some res) : rX10_allowed (n + 100) 80 [.inr (10, 0), .inl (.int x1), .inl (.int x2)] [.inl (.int y0)] M = some res := uX10_allowed ((gX10_allowed_80 fX10_follows (rX10_allowed n) x1 x2 y0 M).trans h)
def rX10_placeFor (n pc : Nat) (ls st : List am_V) (M : am_M) : am_R := am_run [fX10_reserved] [] 1 am_X0 pX10_placeFor n pc ls st M
def gX10_placeFor (F0 : am_F) (k : Nat → List am_V → List am_V → am_M → am_R) (pc : Nat) (ls st : List am_V) (M : am_M) : am_R := am_go [F0] [] 1 am_X0 pX10_placeFor [5, 50] k 100 pc ls st M
theorem uX10_placeFor {n pc : Nat} {ls st : List am_V} {M : am_M} {res : am_O × am_M} (h : gX10_placeFor fX10_reserved (rX10_placeFor n) pc ls st M = some res) : rX10_placeFor (n + 100) pc ls st M = some res := am_go_ok h
theorem eX10_placeFor (x1 : Int32) (x2 : Int32) (M : am_M) : fX10_placeFor [.inr (10, 0), .inl (.int x1), .inl (.int x2)] M = rX10_placeFor 100000 0 [.inr (10, 0), .inl (.int x1), .inl (.int x2), am_D, am_D, am_D] [] M := am_meth_eq rfl rfl
set_option maxRecDepth 20000 in
theorem gX10_placeFor_0 (F0 : am_F) (k : Nat → List am_V → List am_V → am_M → am_R) (x1 : Int32) (x2 : Int32) (M : am_M) : gX10_placeFor F0 k 0 [.inr (10, 0), .inl (.int x1), .inl (.int x2), am_D, am_D, am_D] [] M =
  k 5 [.inr (10, 0), .inl (.int x1), .inl (.int x2), .inl (.int (-1)), .inl (.int 0), am_D] [] M := (rfl)
theorem eX10_placeFor_0 {n : Nat} {x1 : Int32} {x2 : Int32} {M : am_M} {res : am_O × am_M} (h : (rX10_placeFor n 5 [.inr (10, 0), .inl (.int x1), .inl (.int x2), .inl (.int (-1)), .inl (.int 0), am_D] [] M) = some res) : rX10_placeFor (n + 100) 0 [.inr (10, 0), .inl (.int x1), .inl (.int x2), am_D, am_D, am_D] [] M = some res := uX10_placeFor ((gX10_placeFor_0 fX10_reserved (rX10_placeFor n) x1 x2 M).trans h)
set_option maxRecDepth 20000 in
theorem gX10_placeFor_5 (F0 : am_F) (k : Nat → List am_V → List am_V → am_M → am_R) (x1 : Int32) (x2 : Int32) (x3 : Int32) (x4 : Int32) (x5 : am_V) (M : am_M) : gX10_placeFor F0 k 5 [.inr (10, 0), .inl (.int x1), .inl (.int x2), .inl (.int x3), .inl (.int x4), x5] [] M =
  if 8 ≤ x4 then
   some (.inl (some (.inl (.int x3))), M)
  else if am_in x4 8 then
   if (M 40 0 (Int32.toNatClampNeg x4)) = x1 then
    if am_in x4 8 then
     if (M 42 0 (Int32.toNatClampNeg x4)) ≤ (M 10 0 41) then
      k 5 [.inr (10, 0), .inl (.int x1), .inl (.int x2), .inl (.int x3), .inl (.int (x4 + 1)), .inl (.int 0)] [] M
     else if am_in x4 8 then
      am_ret [] 47 [.inl (.int (M 41 0 (Int32.toNatClampNeg x4)))] (k 50 [.inr (10, 0), .inl (.int x1), .inl (.int x2), .inl (.int x3), .inl (.int x4), x5]) (F0 [.inr (10, 0), .inl (.int x4)] M)
     else none
    else none
   else k 5 [.inr (10, 0), .inl (.int x1), .inl (.int x2), .inl (.int x3), .inl (.int (x4 + 1)), .inl (.int 0)] [] M
  else none := (rfl)
theorem eX10_placeFor_5 {n : Nat} {x1 : Int32} {x2 : Int32} {x3 : Int32} {x4 : Int32} {x5 : am_V} {M : am_M} {res : am_O × am_M} (h : (if 8 ≤ x4 then
   some (.inl (some (.inl (.int x3))), M)
  else if am_in x4 8 then
   if (M 40 0 (Int32.toNatClampNeg x4)) = x1 then
    if am_in x4 8 then
     if (M 42 0 (Int32.toNatClampNeg x4)) ≤ (M 10 0 41) then
      rX10_placeFor n 5 [.inr (10, 0), .inl (.int x1), .inl (.int x2), .inl (.int x3), .inl (.int (x4 + 1)), .inl (.int 0)] [] M
     else if am_in x4 8 then
      am_ret [] 47 [.inl (.int (M 41 0 (Int32.toNatClampNeg x4)))] (rX10_placeFor n 50 [.inr (10, 0), .inl (.int x1), .inl (.int x2), .inl (.int x3), .inl (.int x4), x5]) (fX10_reserved [.inr (10, 0), .inl (.int x4)] M)
     else none
    else none
   else rX10_placeFor n 5 [.inr (10, 0), .inl (.int x1), .inl (.int x2), .inl (.int x3), .inl (.int (x4 + 1)), .inl (.int 0)] [] M
  else none) = some res) : rX10_placeFor (n + 100) 5 [.inr (10, 0), .inl (.int x1), .inl (.int x2), .inl (.int x3), .inl (.int x4), x5] [] M = some res := uX10_placeFor ((gX10_placeFor_5 fX10_reserved (rX10_placeFor n) x1 x2 x3 x4 x5 M).trans h)
set_option maxRecDepth 20000 in
theorem gX10_placeFor_50 (F0 : am_F) (k : Nat → List am_V → List am_V → am_M → am_R) (x1 : Int32) (x2 : Int32) (x3 : Int32) (x4 : Int32) (x5 : am_V) (y0 : Int32) (y1 : Int32) (M : am_M) : gX10_placeFor F0 k 50 [.inr (10, 0), .inl (.int x1), .inl (.int x2), .inl (.int x3), .inl (.int x4), x5] [.inl (.int y0), .inl (.int y1)] M =
  if (y1 - y0) < x2 then
   k 5 [.inr (10, 0), .inl (.int x1), .inl (.int x2), .inl (.int x3), .inl (.int (x4 + 1)), .inl (.int 0)] [] M
  else if x3 < 0 then
   k 5 [.inr (10, 0), .inl (.int x1), .inl (.int x2), .inl (.int x4), .inl (.int (x4 + 1)), .inl (.int 1)] [] M
  else if am_in x4 8 then
   if am_in x3 8 then
    if (M 42 0 (Int32.toNatClampNeg x3)) ≤ (M 42 0 (Int32.toNatClampNeg x4)) then
     k 5 [.inr (10, 0), .inl (.int x1), .inl (.int x2), .inl (.int x3), .inl (.int (x4 + 1)), .inl (.int 1)] [] M
    else k 5 [.inr (10, 0), .inl (.int x1), .inl (.int x2), .inl (.int x4), .inl (.int (x4 + 1)), .inl (.int 1)] [] M
   else none
  else none := (rfl)
theorem eX10_placeFor_50 {n : Nat} {x1 : Int32} {x2 : Int32} {x3 : Int32} {x4 : Int32} {x5 : am_V} {y0 : Int32} {y1 : Int32} {M : am_M} {res : am_O × am_M} (h : (if (y1 - y0) < x2 then
   rX10_placeFor n 5 [.inr (10, 0), .inl (.int x1), .inl (.int x2), .inl (.int x3), .inl (.int (x4 + 1)), .inl (.int 0)] [] M
  else if x3 < 0 then
   rX10_placeFor n 5 [.inr (10, 0), .inl (.int x1), .inl (.int x2), .inl (.int x4), .inl (.int (x4 + 1)), .inl (.int 1)] [] M
  else if am_in x4 8 then
   if am_in x3 8 then
    if (M 42 0 (Int32.toNatClampNeg x3)) ≤ (M 42 0 (Int32.toNatClampNeg x4)) then
     rX10_placeFor n 5 [.inr (10, 0), .inl (.int x1), .inl (.int x2), .inl (.int x3), .inl (.int (x4 + 1)), .inl (.int 1)] [] M
    else rX10_placeFor n 5 [.inr (10, 0), .inl (.int x1), .inl (.int x2), .inl (.int x4), .inl (.int (x4 + 1)), .inl (.int 1)] [] M
   else none
  else none) = some res) : rX10_placeFor (n + 100) 50 [.inr (10, 0), .inl (.int x1), .inl (.int x2), .inl (.int x3), .inl (.int x4), x5] [.inl (.int y0), .inl (.int y1)] M = some res := uX10_placeFor ((gX10_placeFor_50 fX10_reserved (rX10_placeFor n) x1 x2 x3 x4 x5 y0 y1 M).trans h)
def rX10_book (n pc : Nat) (ls st : List am_V) (M : am_M) : am_R := am_run [fX10_of, fX10_placeFor] [] 2 am_X0 pX10_book n pc ls st M
def gX10_book (F0 F1 : am_F) (k : Nat → List am_V → List am_V → am_M → am_R) (pc : Nat) (ls st : List am_V) (M : am_M) : am_R := am_go [F0, F1] [] 2 am_X0 pX10_book [24, 44, 47, 78, 120] k 100 pc ls st M
theorem uX10_book {n pc : Nat} {ls st : List am_V} {M : am_M} {res : am_O × am_M} (h : gX10_book fX10_of fX10_placeFor (rX10_book n) pc ls st M = some res) : rX10_book (n + 100) pc ls st M = some res := am_go_ok h
theorem eX10_book (x1 : Int32) (M : am_M) : fX10_book [.inr (10, 0), .inl (.int x1)] M = rX10_book 100000 0 [.inr (10, 0), .inl (.int x1), am_D, am_D, am_D, am_D] [] M := am_meth_eq rfl rfl
set_option maxRecDepth 20000 in
theorem gX10_book_0 (F0 F1 : am_F) (k : Nat → List am_V → List am_V → am_M → am_R) (x1 : Int32) (M : am_M) : gX10_book F0 F1 k 0 [.inr (10, 0), .inl (.int x1), am_D, am_D, am_D, am_D] [] M =
  if am_in x1 40 then
   am_ret [] 21 [] (k 24 [.inr (10, 0), .inl (.int x1), .inl (.int (M 46 0 (Int32.toNatClampNeg x1))), .inl (.int 0), am_D, am_D]) (F0 [.inr (10, 0), .inl (.int (M 46 0 (Int32.toNatClampNeg x1))), .inl (.int 1)] M)
  else none := (rfl)
theorem eX10_book_0 {n : Nat} {x1 : Int32} {M : am_M} {res : am_O × am_M} (h : (if am_in x1 40 then
   am_ret [] 21 [] (rX10_book n 24 [.inr (10, 0), .inl (.int x1), .inl (.int (M 46 0 (Int32.toNatClampNeg x1))), .inl (.int 0), am_D, am_D]) (fX10_of [.inr (10, 0), .inl (.int (M 46 0 (Int32.toNatClampNeg x1))), .inl (.int 1)] M)
  else none) = some res) : rX10_book (n + 100) 0 [.inr (10, 0), .inl (.int x1), am_D, am_D, am_D, am_D] [] M = some res := uX10_book ((gX10_book_0 fX10_of fX10_placeFor (rX10_book n) x1 M).trans h)
set_option maxRecDepth 20000 in
theorem gX10_book_24 (F0 F1 : am_F) (k : Nat → List am_V → List am_V → am_M → am_R) (x1 : Int32) (x2 : Int32) (x3 : Int32) (y0 : Int32) (M : am_M) : gX10_book F0 F1 k 24 [.inr (10, 0), .inl (.int x1), .inl (.int x2), .inl (.int x3), am_D, am_D] [.inl (.int y0)] M =
  if y0 < 0 then
   if 2 ≤ (x3 + 1) then
    some (.inl (some (.inl (.int 1))), M)
   else am_ret [] 21 [] (k 24 [.inr (10, 0), .inl (.int x1), .inl (.int x2), .inl (.int (x3 + 1)), .inl (.int y0), am_D]) (F0 [.inr (10, 0), .inl (.int x2), .inl (.int ((3 * (x3 + 1)) + 1))] M)
  else am_ret [] 41 [.inl (.int y0), .inr (10, 0)] (k 44 [.inr (10, 0), .inl (.int x1), .inl (.int x2), .inl (.int x3), .inl (.int y0), am_D]) (F0 [.inr (10, 0), .inl (.int x2), .inl (.int ((3 * x3) + 2))] M) := (rfl)
theorem eX10_book_24 {n : Nat} {x1 : Int32} {x2 : Int32} {x3 : Int32} {y0 : Int32} {M : am_M} {res : am_O × am_M} (h : (if y0 < 0 then
   if 2 ≤ (x3 + 1) then
    some (.inl (some (.inl (.int 1))), M)
   else am_ret [] 21 [] (rX10_book n 24 [.inr (10, 0), .inl (.int x1), .inl (.int x2), .inl (.int (x3 + 1)), .inl (.int y0), am_D]) (fX10_of [.inr (10, 0), .inl (.int x2), .inl (.int ((3 * (x3 + 1)) + 1))] M)
  else am_ret [] 41 [.inl (.int y0), .inr (10, 0)] (rX10_book n 44 [.inr (10, 0), .inl (.int x1), .inl (.int x2), .inl (.int x3), .inl (.int y0), am_D]) (fX10_of [.inr (10, 0), .inl (.int x2), .inl (.int ((3 * x3) + 2))] M)) = some res) : rX10_book (n + 100) 24 [.inr (10, 0), .inl (.int x1), .inl (.int x2), .inl (.int x3), am_D, am_D] [.inl (.int y0)] M = some res := uX10_book ((gX10_book_24 fX10_of fX10_placeFor (rX10_book n) x1 x2 x3 y0 M).trans h)
set_option maxRecDepth 20000 in
theorem gX10_book_24a (F0 F1 : am_F) (k : Nat → List am_V → List am_V → am_M → am_R) (x1 : Int32) (x2 : Int32) (x3 : Int32) (x4 : Int32) (y0 : Int32) (M : am_M) : gX10_book F0 F1 k 24 [.inr (10, 0), .inl (.int x1), .inl (.int x2), .inl (.int x3), .inl (.int x4), am_D] [.inl (.int y0)] M =
  if y0 < 0 then
   if 2 ≤ (x3 + 1) then
    some (.inl (some (.inl (.int 1))), M)
   else am_ret [] 21 [] (k 24 [.inr (10, 0), .inl (.int x1), .inl (.int x2), .inl (.int (x3 + 1)), .inl (.int y0), am_D]) (F0 [.inr (10, 0), .inl (.int x2), .inl (.int ((3 * (x3 + 1)) + 1))] M)
  else am_ret [] 41 [.inl (.int y0), .inr (10, 0)] (k 44 [.inr (10, 0), .inl (.int x1), .inl (.int x2), .inl (.int x3), .inl (.int y0), am_D]) (F0 [.inr (10, 0), .inl (.int x2), .inl (.int ((3 * x3) + 2))] M) := (rfl)
theorem eX10_book_24a {n : Nat} {x1 : Int32} {x2 : Int32} {x3 : Int32} {x4 : Int32} {y0 : Int32} {M : am_M} {res : am_O × am_M} (h : (if y0 < 0 then
   if 2 ≤ (x3 + 1) then
    some (.inl (some (.inl (.int 1))), M)
   else am_ret [] 21 [] (rX10_book n 24 [.inr (10, 0), .inl (.int x1), .inl (.int x2), .inl (.int (x3 + 1)), .inl (.int y0), am_D]) (fX10_of [.inr (10, 0), .inl (.int x2), .inl (.int ((3 * (x3 + 1)) + 1))] M)
  else am_ret [] 41 [.inl (.int y0), .inr (10, 0)] (rX10_book n 44 [.inr (10, 0), .inl (.int x1), .inl (.int x2), .inl (.int x3), .inl (.int y0), am_D]) (fX10_of [.inr (10, 0), .inl (.int x2), .inl (.int ((3 * x3) + 2))] M)) = some res) : rX10_book (n + 100) 24 [.inr (10, 0), .inl (.int x1), .inl (.int x2), .inl (.int x3), .inl (.int x4), am_D] [.inl (.int y0)] M = some res := uX10_book ((gX10_book_24a fX10_of fX10_placeFor (rX10_book n) x1 x2 x3 x4 y0 M).trans h)
set_option maxRecDepth 20000 in
theorem gX10_book_44 (F0 F1 : am_F) (k : Nat → List am_V → List am_V → am_M → am_R) (x1 : Int32) (x2 : Int32) (x3 : Int32) (x4 : Int32) (y0 : Int32) (y1 : Int32) (M : am_M) : gX10_book F0 F1 k 44 [.inr (10, 0), .inl (.int x1), .inl (.int x2), .inl (.int x3), .inl (.int x4), am_D] [.inl (.int y0), .inl (.int y1), .inr (10, 0)] M =
  am_ret [] 44 [] (k 47 [.inr (10, 0), .inl (.int x1), .inl (.int x2), .inl (.int x3), .inl (.int x4), am_D]) (F1 [.inr (10, 0), .inl (.int y1), .inl (.int y0)] M) := (rfl)
theorem eX10_book_44 {n : Nat} {x1 : Int32} {x2 : Int32} {x3 : Int32} {x4 : Int32} {y0 : Int32} {y1 : Int32} {M : am_M} {res : am_O × am_M} (h : (am_ret [] 44 [] (rX10_book n 47 [.inr (10, 0), .inl (.int x1), .inl (.int x2), .inl (.int x3), .inl (.int x4), am_D]) (fX10_placeFor [.inr (10, 0), .inl (.int y1), .inl (.int y0)] M)) = some res) : rX10_book (n + 100) 44 [.inr (10, 0), .inl (.int x1), .inl (.int x2), .inl (.int x3), .inl (.int x4), am_D] [.inl (.int y0), .inl (.int y1), .inr (10, 0)] M = some res := uX10_book ((gX10_book_44 fX10_of fX10_placeFor (rX10_book n) x1 x2 x3 x4 y0 y1 M).trans h)
set_option maxRecDepth 20000 in
theorem gX10_book_47 (F0 F1 : am_F) (k : Nat → List am_V → List am_V → am_M → am_R) (x1 : Int32) (x2 : Int32) (x3 : Int32) (x4 : Int32) (y0 : Int32) (M : am_M) : gX10_book F0 F1 k 47 [.inr (10, 0), .inl (.int x1), .inl (.int x2), .inl (.int x3), .inl (.int x4), am_D] [.inl (.int y0)] M =
  if 0 ≤ y0 then
   am_ret [] 75 [.inl (.int (M 10 0 42)), .inl (.int (M 10 0 36)), .inr (61, 0)] (k 78 [.inr (10, 0), .inl (.int x1), .inl (.int x2), .inl (.int x3), .inl (.int x4), .inl (.int y0)]) (F0 [.inr (10, 0), .inl (.int x2), .inl (.int ((3 * x3) + 3))] M)
  else some (.inl (some (.inl (.int 0))), M) := (rfl)
theorem eX10_book_47 {n : Nat} {x1 : Int32} {x2 : Int32} {x3 : Int32} {x4 : Int32} {y0 : Int32} {M : am_M} {res : am_O × am_M} (h : (if 0 ≤ y0 then
   am_ret [] 75 [.inl (.int (M 10 0 42)), .inl (.int (M 10 0 36)), .inr (61, 0)] (rX10_book n 78 [.inr (10, 0), .inl (.int x1), .inl (.int x2), .inl (.int x3), .inl (.int x4), .inl (.int y0)]) (fX10_of [.inr (10, 0), .inl (.int x2), .inl (.int ((3 * x3) + 3))] M)
  else some (.inl (some (.inl (.int 0))), M)) = some res) : rX10_book (n + 100) 47 [.inr (10, 0), .inl (.int x1), .inl (.int x2), .inl (.int x3), .inl (.int x4), am_D] [.inl (.int y0)] M = some res := uX10_book ((gX10_book_47 fX10_of fX10_placeFor (rX10_book n) x1 x2 x3 x4 y0 M).trans h)
set_option maxRecDepth 20000 in
theorem gX10_book_78 (F0 F1 : am_F) (k : Nat → List am_V → List am_V → am_M → am_R) (x1 : Int32) (x2 : Int32) (x3 : Int32) (x4 : Int32) (x5 : Int32) (y0 : Int32) (y1 : Int32) (y2 : Int32) (M : am_M) : gX10_book F0 F1 k 78 [.inr (10, 0), .inl (.int x1), .inl (.int x2), .inl (.int x3), .inl (.int x4), .inl (.int x5)] [.inl (.int y0), .inl (.int y1), .inl (.int y2), .inr (61, 0)] M =
  if am_in y2 24 then
   if am_in (M 10 0 36) 24 then
    if am_in (M 10 0 36) 24 then
     am_ret [] 117 [.inl (.int (M 10 0 36)), .inr (64, 0)] (k 120 [.inr (10, 0), .inl (.int x1), .inl (.int x2), .inl (.int x3), .inl (.int x4), .inl (.int x5)]) (F0 [.inr (10, 0), .inl (.int x2), .inl (.int ((3 * x3) + 2))] (am_put (am_put (am_put M 61 0 (Int32.toNatClampNeg y2) (y1 + y0)) 62 0 (Int32.toNatClampNeg (M 10 0 36)) x4) 63 0 (Int32.toNatClampNeg (M 10 0 36)) x5))
    else none
   else none
  else none := (rfl)
theorem eX10_book_78 {n : Nat} {x1 : Int32} {x2 : Int32} {x3 : Int32} {x4 : Int32} {x5 : Int32} {y0 : Int32} {y1 : Int32} {y2 : Int32} {M : am_M} {res : am_O × am_M} (h : (if am_in y2 24 then
   if am_in (M 10 0 36) 24 then
    if am_in (M 10 0 36) 24 then
     am_ret [] 117 [.inl (.int (M 10 0 36)), .inr (64, 0)] (rX10_book n 120 [.inr (10, 0), .inl (.int x1), .inl (.int x2), .inl (.int x3), .inl (.int x4), .inl (.int x5)]) (fX10_of [.inr (10, 0), .inl (.int x2), .inl (.int ((3 * x3) + 2))] (am_put (am_put (am_put M 61 0 (Int32.toNatClampNeg y2) (y1 + y0)) 62 0 (Int32.toNatClampNeg (M 10 0 36)) x4) 63 0 (Int32.toNatClampNeg (M 10 0 36)) x5))
    else none
   else none
  else none) = some res) : rX10_book (n + 100) 78 [.inr (10, 0), .inl (.int x1), .inl (.int x2), .inl (.int x3), .inl (.int x4), .inl (.int x5)] [.inl (.int y0), .inl (.int y1), .inl (.int y2), .inr (61, 0)] M = some res := uX10_book ((gX10_book_78 fX10_of fX10_placeFor (rX10_book n) x1 x2 x3 x4 x5 y0 y1 y2 M).trans h)
set_option maxRecDepth 20000 in
theorem gX10_book_120 (F0 F1 : am_F) (k : Nat → List am_V → List am_V → am_M → am_R) (x1 : Int32) (x2 : Int32) (x3 : Int32) (x4 : Int32) (x5 : Int32) (y0 : Int32) (y1 : Int32) (M : am_M) : gX10_book F0 F1 k 120 [.inr (10, 0), .inl (.int x1), .inl (.int x2), .inl (.int x3), .inl (.int x4), .inl (.int x5)] [.inl (.int y0), .inl (.int y1), .inr (64, 0)] M =
  if am_in y1 24 then
   if am_in (M 10 0 36) 24 then
    if 2 ≤ (x3 + 1) then
     some (.inl (some (.inl (.int 1))), (am_put (am_put (am_put M 64 0 (Int32.toNatClampNeg y1) y0) 65 0 (Int32.toNatClampNeg (M 10 0 36)) x1) 10 0 36 ((M 10 0 36) + 1)))
    else am_ret [] 21 [] (k 24 [.inr (10, 0), .inl (.int x1), .inl (.int x2), .inl (.int (x3 + 1)), .inl (.int x4), .inl (.int x5)]) (F0 [.inr (10, 0), .inl (.int x2), .inl (.int ((3 * (x3 + 1)) + 1))] (am_put (am_put (am_put M 64 0 (Int32.toNatClampNeg y1) y0) 65 0 (Int32.toNatClampNeg (M 10 0 36)) x1) 10 0 36 ((M 10 0 36) + 1)))
   else none
  else none := (rfl)
theorem eX10_book_120 {n : Nat} {x1 : Int32} {x2 : Int32} {x3 : Int32} {x4 : Int32} {x5 : Int32} {y0 : Int32} {y1 : Int32} {M : am_M} {res : am_O × am_M} (h : (if am_in y1 24 then
   if am_in (M 10 0 36) 24 then
    if 2 ≤ (x3 + 1) then
     some (.inl (some (.inl (.int 1))), (am_put (am_put (am_put M 64 0 (Int32.toNatClampNeg y1) y0) 65 0 (Int32.toNatClampNeg (M 10 0 36)) x1) 10 0 36 ((M 10 0 36) + 1)))
    else am_ret [] 21 [] (rX10_book n 24 [.inr (10, 0), .inl (.int x1), .inl (.int x2), .inl (.int (x3 + 1)), .inl (.int x4), .inl (.int x5)]) (fX10_of [.inr (10, 0), .inl (.int x2), .inl (.int ((3 * (x3 + 1)) + 1))] (am_put (am_put (am_put M 64 0 (Int32.toNatClampNeg y1) y0) 65 0 (Int32.toNatClampNeg (M 10 0 36)) x1) 10 0 36 ((M 10 0 36) + 1)))
   else none
  else none) = some res) : rX10_book (n + 100) 120 [.inr (10, 0), .inl (.int x1), .inl (.int x2), .inl (.int x3), .inl (.int x4), .inl (.int x5)] [.inl (.int y0), .inl (.int y1), .inr (64, 0)] M = some res := uX10_book ((gX10_book_120 fX10_of fX10_placeFor (rX10_book n) x1 x2 x3 x4 x5 y0 y1 M).trans h)
set_option maxRecDepth 20000 in
theorem gX10_book_24b (F0 F1 : am_F) (k : Nat → List am_V → List am_V → am_M → am_R) (x1 : Int32) (x2 : Int32) (x3 : Int32) (x4 : Int32) (x5 : Int32) (y0 : Int32) (M : am_M) : gX10_book F0 F1 k 24 [.inr (10, 0), .inl (.int x1), .inl (.int x2), .inl (.int x3), .inl (.int x4), .inl (.int x5)] [.inl (.int y0)] M =
  if y0 < 0 then
   if 2 ≤ (x3 + 1) then
    some (.inl (some (.inl (.int 1))), M)
   else am_ret [] 21 [] (k 24 [.inr (10, 0), .inl (.int x1), .inl (.int x2), .inl (.int (x3 + 1)), .inl (.int y0), .inl (.int x5)]) (F0 [.inr (10, 0), .inl (.int x2), .inl (.int ((3 * (x3 + 1)) + 1))] M)
  else am_ret [] 41 [.inl (.int y0), .inr (10, 0)] (k 44 [.inr (10, 0), .inl (.int x1), .inl (.int x2), .inl (.int x3), .inl (.int y0), .inl (.int x5)]) (F0 [.inr (10, 0), .inl (.int x2), .inl (.int ((3 * x3) + 2))] M) := (rfl)
theorem eX10_book_24b {n : Nat} {x1 : Int32} {x2 : Int32} {x3 : Int32} {x4 : Int32} {x5 : Int32} {y0 : Int32} {M : am_M} {res : am_O × am_M} (h : (if y0 < 0 then
   if 2 ≤ (x3 + 1) then
    some (.inl (some (.inl (.int 1))), M)
   else am_ret [] 21 [] (rX10_book n 24 [.inr (10, 0), .inl (.int x1), .inl (.int x2), .inl (.int (x3 + 1)), .inl (.int y0), .inl (.int x5)]) (fX10_of [.inr (10, 0), .inl (.int x2), .inl (.int ((3 * (x3 + 1)) + 1))] M)
  else am_ret [] 41 [.inl (.int y0), .inr (10, 0)] (rX10_book n 44 [.inr (10, 0), .inl (.int x1), .inl (.int x2), .inl (.int x3), .inl (.int y0), .inl (.int x5)]) (fX10_of [.inr (10, 0), .inl (.int x2), .inl (.int ((3 * x3) + 2))] M)) = some res) : rX10_book (n + 100) 24 [.inr (10, 0), .inl (.int x1), .inl (.int x2), .inl (.int x3), .inl (.int x4), .inl (.int x5)] [.inl (.int y0)] M = some res := uX10_book ((gX10_book_24b fX10_of fX10_placeFor (rX10_book n) x1 x2 x3 x4 x5 y0 M).trans h)
set_option maxRecDepth 20000 in
theorem gX10_book_44a (F0 F1 : am_F) (k : Nat → List am_V → List am_V → am_M → am_R) (x1 : Int32) (x2 : Int32) (x3 : Int32) (x4 : Int32) (x5 : Int32) (y0 : Int32) (y1 : Int32) (M : am_M) : gX10_book F0 F1 k 44 [.inr (10, 0), .inl (.int x1), .inl (.int x2), .inl (.int x3), .inl (.int x4), .inl (.int x5)] [.inl (.int y0), .inl (.int y1), .inr (10, 0)] M =
  am_ret [] 44 [] (k 47 [.inr (10, 0), .inl (.int x1), .inl (.int x2), .inl (.int x3), .inl (.int x4), .inl (.int x5)]) (F1 [.inr (10, 0), .inl (.int y1), .inl (.int y0)] M) := (rfl)
theorem eX10_book_44a {n : Nat} {x1 : Int32} {x2 : Int32} {x3 : Int32} {x4 : Int32} {x5 : Int32} {y0 : Int32} {y1 : Int32} {M : am_M} {res : am_O × am_M} (h : (am_ret [] 44 [] (rX10_book n 47 [.inr (10, 0), .inl (.int x1), .inl (.int x2), .inl (.int x3), .inl (.int x4), .inl (.int x5)]) (fX10_placeFor [.inr (10, 0), .inl (.int y1), .inl (.int y0)] M)) = some res) : rX10_book (n + 100) 44 [.inr (10, 0), .inl (.int x1), .inl (.int x2), .inl (.int x3), .inl (.int x4), .inl (.int x5)] [.inl (.int y0), .inl (.int y1), .inr (10, 0)] M = some res := uX10_book ((gX10_book_44a fX10_of fX10_placeFor (rX10_book n) x1 x2 x3 x4 x5 y0 y1 M).trans h)
set_option maxRecDepth 20000 in
theorem gX10_book_47a (F0 F1 : am_F) (k : Nat → List am_V → List am_V → am_M → am_R) (x1 : Int32) (x2 : Int32) (x3 : Int32) (x4 : Int32) (x5 : Int32) (y0 : Int32) (M : am_M) : gX10_book F0 F1 k 47 [.inr (10, 0), .inl (.int x1), .inl (.int x2), .inl (.int x3), .inl (.int x4), .inl (.int x5)] [.inl (.int y0)] M =
  if 0 ≤ y0 then
   am_ret [] 75 [.inl (.int (M 10 0 42)), .inl (.int (M 10 0 36)), .inr (61, 0)] (k 78 [.inr (10, 0), .inl (.int x1), .inl (.int x2), .inl (.int x3), .inl (.int x4), .inl (.int y0)]) (F0 [.inr (10, 0), .inl (.int x2), .inl (.int ((3 * x3) + 3))] M)
  else some (.inl (some (.inl (.int 0))), M) := (rfl)
theorem eX10_book_47a {n : Nat} {x1 : Int32} {x2 : Int32} {x3 : Int32} {x4 : Int32} {x5 : Int32} {y0 : Int32} {M : am_M} {res : am_O × am_M} (h : (if 0 ≤ y0 then
   am_ret [] 75 [.inl (.int (M 10 0 42)), .inl (.int (M 10 0 36)), .inr (61, 0)] (rX10_book n 78 [.inr (10, 0), .inl (.int x1), .inl (.int x2), .inl (.int x3), .inl (.int x4), .inl (.int y0)]) (fX10_of [.inr (10, 0), .inl (.int x2), .inl (.int ((3 * x3) + 3))] M)
  else some (.inl (some (.inl (.int 0))), M)) = some res) : rX10_book (n + 100) 47 [.inr (10, 0), .inl (.int x1), .inl (.int x2), .inl (.int x3), .inl (.int x4), .inl (.int x5)] [.inl (.int y0)] M = some res := uX10_book ((gX10_book_47a fX10_of fX10_placeFor (rX10_book n) x1 x2 x3 x4 x5 y0 M).trans h)
def rX10_fail (n pc : Nat) (ls st : List am_V) (M : am_M) : am_R := am_run [] [] 0 am_X0 pX10_fail n pc ls st M
def gX10_fail (k : Nat → List am_V → List am_V → am_M → am_R) (pc : Nat) (ls st : List am_V) (M : am_M) : am_R := am_go [] [] 0 am_X0 pX10_fail [] k 100 pc ls st M
theorem uX10_fail {n pc : Nat} {ls st : List am_V} {M : am_M} {res : am_O × am_M} (h : gX10_fail (rX10_fail n) pc ls st M = some res) : rX10_fail (n + 100) pc ls st M = some res := am_go_ok h
theorem eX10_fail (x1 : Int32) (x2 : Int32) (M : am_M) : fX10_fail [.inr (10, 0), .inl (.int x1), .inl (.int x2)] M = rX10_fail 100000 0 [.inr (10, 0), .inl (.int x1), .inl (.int x2)] [] M := am_meth_eq rfl rfl
set_option maxRecDepth 20000 in
theorem gX10_fail_0 (k : Nat → List am_V → List am_V → am_M → am_R) (x1 : Int32) (x2 : Int32) (M : am_M) : gX10_fail k 0 [.inr (10, 0), .inl (.int x1), .inl (.int x2)] [] M =
  if am_in x1 40 then
   if am_in x1 40 then
    some (.inl none, (am_put (am_put M 48 0 (Int32.toNatClampNeg x1) 3) 49 0 (Int32.toNatClampNeg x1) x2))
   else none
  else none := (rfl)
theorem eX10_fail_0 {n : Nat} {x1 : Int32} {x2 : Int32} {M : am_M} {res : am_O × am_M} (h : (if am_in x1 40 then
   if am_in x1 40 then
    some (.inl none, (am_put (am_put M 48 0 (Int32.toNatClampNeg x1) 3) 49 0 (Int32.toNatClampNeg x1) x2))
   else none
  else none) = some res) : rX10_fail (n + 100) 0 [.inr (10, 0), .inl (.int x1), .inl (.int x2)] [] M = some res := uX10_fail ((gX10_fail_0 (rX10_fail n) x1 x2 M).trans h)
def rX10_leave (n pc : Nat) (ls st : List am_V) (M : am_M) : am_R := am_run [fX10_cancel] [] 0 am_X0 pX10_leave n pc ls st M
def gX10_leave (F0 : am_F) (k : Nat → List am_V → List am_V → am_M → am_R) (pc : Nat) (ls st : List am_V) (M : am_M) : am_R := am_go [F0] [] 0 am_X0 pX10_leave [36] k 100 pc ls st M
theorem uX10_leave {n pc : Nat} {ls st : List am_V} {M : am_M} {res : am_O × am_M} (h : gX10_leave fX10_cancel (rX10_leave n) pc ls st M = some res) : rX10_leave (n + 100) pc ls st M = some res := am_go_ok h
theorem eX10_leave (x1 : Int32) (M : am_M) : fX10_leave [.inr (10, 0), .inl (.int x1)] M = rX10_leave 100000 0 [.inr (10, 0), .inl (.int x1)] [] M := am_meth_eq rfl rfl
set_option maxRecDepth 20000 in
theorem gX10_leave_0 (F0 : am_F) (k : Nat → List am_V → List am_V → am_M → am_R) (x1 : Int32) (M : am_M) : gX10_leave F0 k 0 [.inr (10, 0), .inl (.int x1)] [] M =
  if am_in x1 40 then
   if am_in (M 51 0 (Int32.toNatClampNeg x1)) 10 then
    if am_in x1 40 then
     if am_in (M 51 0 (Int32.toNatClampNeg x1)) 10 then
      if am_in x1 40 then
       am_ret [] 33 [] (k 36 [.inr (10, 0), .inl (.int x1)]) (F0 [.inr (10, 0), .inl (.int x1)] (am_put (am_put (am_put M 59 0 (Int32.toNatClampNeg (M 51 0 (Int32.toNatClampNeg x1))) 3) 60 0 (Int32.toNatClampNeg (M 51 0 (Int32.toNatClampNeg x1))) 0) 51 0 (Int32.toNatClampNeg x1) (-1)))
      else none
     else none
    else none
   else none
  else none := (rfl)
theorem eX10_leave_0 {n : Nat} {x1 : Int32} {M : am_M} {res : am_O × am_M} (h : (if am_in x1 40 then
   if am_in (M 51 0 (Int32.toNatClampNeg x1)) 10 then
    if am_in x1 40 then
     if am_in (M 51 0 (Int32.toNatClampNeg x1)) 10 then
      if am_in x1 40 then
       am_ret [] 33 [] (rX10_leave n 36 [.inr (10, 0), .inl (.int x1)]) (fX10_cancel [.inr (10, 0), .inl (.int x1)] (am_put (am_put (am_put M 59 0 (Int32.toNatClampNeg (M 51 0 (Int32.toNatClampNeg x1))) 3) 60 0 (Int32.toNatClampNeg (M 51 0 (Int32.toNatClampNeg x1))) 0) 51 0 (Int32.toNatClampNeg x1) (-1)))
      else none
     else none
    else none
   else none
  else none) = some res) : rX10_leave (n + 100) 0 [.inr (10, 0), .inl (.int x1)] [] M = some res := uX10_leave ((gX10_leave_0 fX10_cancel (rX10_leave n) x1 M).trans h)
set_option maxRecDepth 20000 in
theorem gX10_leave_36 (F0 : am_F) (k : Nat → List am_V → List am_V → am_M → am_R) (x1 : Int32) (M : am_M) : gX10_leave F0 k 36 [.inr (10, 0), .inl (.int x1)] [] M =
  some (.inl none, M) := (rfl)
theorem eX10_leave_36 {n : Nat} {x1 : Int32} {M : am_M} {res : am_O × am_M} (h : (some (.inl none, M)) = some res) : rX10_leave (n + 100) 36 [.inr (10, 0), .inl (.int x1)] [] M = some res := uX10_leave ((gX10_leave_36 fX10_cancel (rX10_leave n) x1 M).trans h)
def rX10_breaksOff (n pc : Nat) (ls st : List am_V) (M : am_M) : am_R := am_run [fX10_leave, fX10_fail] [] 0 am_X0 pX10_breaksOff n pc ls st M
def gX10_breaksOff (F0 F1 : am_F) (k : Nat → List am_V → List am_V → am_M → am_R) (pc : Nat) (ls st : List am_V) (M : am_M) : am_R := am_go [F0, F1] [] 0 am_X0 pX10_breaksOff [5, 31] k 100 pc ls st M
theorem uX10_breaksOff {n pc : Nat} {ls st : List am_V} {M : am_M} {res : am_O × am_M} (h : gX10_breaksOff fX10_leave fX10_fail (rX10_breaksOff n) pc ls st M = some res) : rX10_breaksOff (n + 100) pc ls st M = some res := am_go_ok h
theorem eX10_breaksOff (x1 : Int32) (x2 : Int32) (M : am_M) : fX10_breaksOff [.inr (10, 0), .inl (.int x1), .inl (.int x2)] M = rX10_breaksOff 100000 0 [.inr (10, 0), .inl (.int x1), .inl (.int x2)] [] M := am_meth_eq rfl rfl
set_option maxRecDepth 20000 in
theorem gX10_breaksOff_0 (F0 F1 : am_F) (k : Nat → List am_V → List am_V → am_M → am_R) (x1 : Int32) (x2 : Int32) (M : am_M) : gX10_breaksOff F0 F1 k 0 [.inr (10, 0), .inl (.int x1), .inl (.int x2)] [] M =
  am_ret [] 2 [] (k 5 [.inr (10, 0), .inl (.int x1), .inl (.int x2)]) (F0 [.inr (10, 0), .inl (.int x1)] M) := (rfl)
theorem eX10_breaksOff_0 {n : Nat} {x1 : Int32} {x2 : Int32} {M : am_M} {res : am_O × am_M} (h : (am_ret [] 2 [] (rX10_breaksOff n 5 [.inr (10, 0), .inl (.int x1), .inl (.int x2)]) (fX10_leave [.inr (10, 0), .inl (.int x1)] M)) = some res) : rX10_breaksOff (n + 100) 0 [.inr (10, 0), .inl (.int x1), .inl (.int x2)] [] M = some res := uX10_breaksOff ((gX10_breaksOff_0 fX10_leave fX10_fail (rX10_breaksOff n) x1 x2 M).trans h)
set_option maxRecDepth 20000 in
theorem gX10_breaksOff_5 (F0 F1 : am_F) (k : Nat → List am_V → List am_V → am_M → am_R) (x1 : Int32) (x2 : Int32) (M : am_M) : gX10_breaksOff F0 F1 k 5 [.inr (10, 0), .inl (.int x1), .inl (.int x2)] [] M =
  if am_in x1 40 then
   if (M 50 0 (Int32.toNatClampNeg x1)) = 1 then
    if am_in x1 40 then
     k 31 [.inr (10, 0), .inl (.int x1), .inl (.int x2)] [] (am_put M 48 0 (Int32.toNatClampNeg x1) 0)
    else none
   else am_ret [] 28 [] (k 31 [.inr (10, 0), .inl (.int x1), .inl (.int x2)]) (F1 [.inr (10, 0), .inl (.int x1), .inl (.int x2)] M)
  else none := (rfl)
theorem eX10_breaksOff_5 {n : Nat} {x1 : Int32} {x2 : Int32} {M : am_M} {res : am_O × am_M} (h : (if am_in x1 40 then
   if (M 50 0 (Int32.toNatClampNeg x1)) = 1 then
    if am_in x1 40 then
     rX10_breaksOff n 31 [.inr (10, 0), .inl (.int x1), .inl (.int x2)] [] (am_put M 48 0 (Int32.toNatClampNeg x1) 0)
    else none
   else am_ret [] 28 [] (rX10_breaksOff n 31 [.inr (10, 0), .inl (.int x1), .inl (.int x2)]) (fX10_fail [.inr (10, 0), .inl (.int x1), .inl (.int x2)] M)
  else none) = some res) : rX10_breaksOff (n + 100) 5 [.inr (10, 0), .inl (.int x1), .inl (.int x2)] [] M = some res := uX10_breaksOff ((gX10_breaksOff_5 fX10_leave fX10_fail (rX10_breaksOff n) x1 x2 M).trans h)
set_option maxRecDepth 20000 in
theorem gX10_breaksOff_31 (F0 F1 : am_F) (k : Nat → List am_V → List am_V → am_M → am_R) (x1 : Int32) (x2 : Int32) (M : am_M) : gX10_breaksOff F0 F1 k 31 [.inr (10, 0), .inl (.int x1), .inl (.int x2)] [] M =
  some (.inl none, M) := (rfl)
theorem eX10_breaksOff_31 {n : Nat} {x1 : Int32} {x2 : Int32} {M : am_M} {res : am_O × am_M} (h : (some (.inl none, M)) = some res) : rX10_breaksOff (n + 100) 31 [.inr (10, 0), .inl (.int x1), .inl (.int x2)] [] M = some res := uX10_breaksOff ((gX10_breaksOff_31 fX10_leave fX10_fail (rX10_breaksOff n) x1 x2 M).trans h)
def rX10_give (n pc : Nat) (ls st : List am_V) (M : am_M) : am_R := am_run [fX10_breaksOff, fX10_copyBook] [] 0 am_X0 pX10_give n pc ls st M
def gX10_give (F0 F1 : am_F) (k : Nat → List am_V → List am_V → am_M → am_R) (pc : Nat) (ls st : List am_V) (M : am_M) : am_R := am_go [F0, F1] [] 0 am_X0 pX10_give [2, 66, 126] k 100 pc ls st M
theorem uX10_give {n pc : Nat} {ls st : List am_V} {M : am_M} {res : am_O × am_M} (h : gX10_give fX10_breaksOff fX10_copyBook (rX10_give n) pc ls st M = some res) : rX10_give (n + 100) pc ls st M = some res := am_go_ok h
theorem eX10_give (M : am_M) : fX10_give [.inr (10, 0)] M = rX10_give 100000 0 [.inr (10, 0), am_D, am_D] [] M := am_meth_eq rfl rfl
set_option maxRecDepth 20000 in
theorem gX10_give_0 (F0 F1 : am_F) (k : Nat → List am_V → List am_V → am_M → am_R) (M : am_M) : gX10_give F0 F1 k 0 [.inr (10, 0), am_D, am_D] [] M =
  k 2 [.inr (10, 0), .inl (.int 0), am_D] [] M := (rfl)
theorem eX10_give_0 {n : Nat} {M : am_M} {res : am_O × am_M} (h : (rX10_give n 2 [.inr (10, 0), .inl (.int 0), am_D] [] M) = some res) : rX10_give (n + 100) 0 [.inr (10, 0), am_D, am_D] [] M = some res := uX10_give ((gX10_give_0 fX10_breaksOff fX10_copyBook (rX10_give n) M).trans h)
set_option maxRecDepth 20000 in
theorem gX10_give_2 (F0 F1 : am_F) (k : Nat → List am_V → List am_V → am_M → am_R) (x1 : Int32) (M : am_M) : gX10_give F0 F1 k 2 [.inr (10, 0), .inl (.int x1), am_D] [] M =
  if (M 10 0 36) ≤ x1 then
   some (.inl none, M)
  else if am_in x1 24 then
   if (M 61 0 (Int32.toNatClampNeg x1)) = (M 10 0 42) then
    if am_in x1 24 then
     if am_in x1 24 then
      if (am_b (M 10 0 47)) = 0 then
       if am_in x1 24 then
        if am_in (M 63 0 (Int32.toNatClampNeg x1)) 8 then
         if am_in x1 24 then
          if am_in (M 63 0 (Int32.toNatClampNeg x1)) 8 then
           if am_in (M 65 0 (Int32.toNatClampNeg x1)) 40 then
            if am_in (M 51 0 (Int32.toNatClampNeg (M 65 0 (Int32.toNatClampNeg x1)))) 10 then
             if am_in x1 24 then
              if am_in (M 51 0 (Int32.toNatClampNeg (M 65 0 (Int32.toNatClampNeg x1)))) 10 then
               am_ret [] 123 [] (k 126 [.inr (10, 0), .inl (.int x1), .inl (.int (M 65 0 (Int32.toNatClampNeg x1)))]) (F1 [.inr (10, 0), .inl (.int ((M 10 0 36) - 1)), .inl (.int x1)] (am_put (am_put (am_put (am_put (am_put M 10 0 37 (M 10 0 42)) 10 0 38 (M 62 0 (Int32.toNatClampNeg x1))) 41 0 (Int32.toNatClampNeg (M 63 0 (Int32.toNatClampNeg x1))) ((M 41 0 (Int32.toNatClampNeg (M 63 0 (Int32.toNatClampNeg x1)))) - (M 64 0 (Int32.toNatClampNeg x1)))) 60 0 (Int32.toNatClampNeg (M 51 0 (Int32.toNatClampNeg (M 65 0 (Int32.toNatClampNeg x1))))) ((M 60 0 (Int32.toNatClampNeg (M 51 0 (Int32.toNatClampNeg (M 65 0 (Int32.toNatClampNeg x1)))))) + (M 64 0 (Int32.toNatClampNeg x1)))) 10 0 36 ((M 10 0 36) - 1)))
              else none
             else none
            else none
           else none
          else none
         else none
        else none
       else none
      else am_ret [] 63 [] (k 66 [.inr (10, 0), .inl (.int x1), .inl (.int (M 65 0 (Int32.toNatClampNeg x1)))]) (F0 [.inr (10, 0), .inl (.int (M 65 0 (Int32.toNatClampNeg x1))), .inl (.int 4)] (am_put (am_put (am_put M 10 0 37 (M 10 0 42)) 10 0 38 (M 62 0 (Int32.toNatClampNeg x1))) 10 0 47 0))
     else none
    else none
   else k 2 [.inr (10, 0), .inl (.int (x1 + 1)), am_D] [] M
  else none := (rfl)
theorem eX10_give_2 {n : Nat} {x1 : Int32} {M : am_M} {res : am_O × am_M} (h : (if (M 10 0 36) ≤ x1 then
   some (.inl none, M)
  else if am_in x1 24 then
   if (M 61 0 (Int32.toNatClampNeg x1)) = (M 10 0 42) then
    if am_in x1 24 then
     if am_in x1 24 then
      if (am_b (M 10 0 47)) = 0 then
       if am_in x1 24 then
        if am_in (M 63 0 (Int32.toNatClampNeg x1)) 8 then
         if am_in x1 24 then
          if am_in (M 63 0 (Int32.toNatClampNeg x1)) 8 then
           if am_in (M 65 0 (Int32.toNatClampNeg x1)) 40 then
            if am_in (M 51 0 (Int32.toNatClampNeg (M 65 0 (Int32.toNatClampNeg x1)))) 10 then
             if am_in x1 24 then
              if am_in (M 51 0 (Int32.toNatClampNeg (M 65 0 (Int32.toNatClampNeg x1)))) 10 then
               am_ret [] 123 [] (rX10_give n 126 [.inr (10, 0), .inl (.int x1), .inl (.int (M 65 0 (Int32.toNatClampNeg x1)))]) (fX10_copyBook [.inr (10, 0), .inl (.int ((M 10 0 36) - 1)), .inl (.int x1)] (am_put (am_put (am_put (am_put (am_put M 10 0 37 (M 10 0 42)) 10 0 38 (M 62 0 (Int32.toNatClampNeg x1))) 41 0 (Int32.toNatClampNeg (M 63 0 (Int32.toNatClampNeg x1))) ((M 41 0 (Int32.toNatClampNeg (M 63 0 (Int32.toNatClampNeg x1)))) - (M 64 0 (Int32.toNatClampNeg x1)))) 60 0 (Int32.toNatClampNeg (M 51 0 (Int32.toNatClampNeg (M 65 0 (Int32.toNatClampNeg x1))))) ((M 60 0 (Int32.toNatClampNeg (M 51 0 (Int32.toNatClampNeg (M 65 0 (Int32.toNatClampNeg x1)))))) + (M 64 0 (Int32.toNatClampNeg x1)))) 10 0 36 ((M 10 0 36) - 1)))
              else none
             else none
            else none
           else none
          else none
         else none
        else none
       else none
      else am_ret [] 63 [] (rX10_give n 66 [.inr (10, 0), .inl (.int x1), .inl (.int (M 65 0 (Int32.toNatClampNeg x1)))]) (fX10_breaksOff [.inr (10, 0), .inl (.int (M 65 0 (Int32.toNatClampNeg x1))), .inl (.int 4)] (am_put (am_put (am_put M 10 0 37 (M 10 0 42)) 10 0 38 (M 62 0 (Int32.toNatClampNeg x1))) 10 0 47 0))
     else none
    else none
   else rX10_give n 2 [.inr (10, 0), .inl (.int (x1 + 1)), am_D] [] M
  else none) = some res) : rX10_give (n + 100) 2 [.inr (10, 0), .inl (.int x1), am_D] [] M = some res := uX10_give ((gX10_give_2 fX10_breaksOff fX10_copyBook (rX10_give n) x1 M).trans h)
set_option maxRecDepth 20000 in
theorem gX10_give_126 (F0 F1 : am_F) (k : Nat → List am_V → List am_V → am_M → am_R) (x1 : Int32) (x2 : Int32) (M : am_M) : gX10_give F0 F1 k 126 [.inr (10, 0), .inl (.int x1), .inl (.int x2)] [] M =
  some (.inl none, M) := (rfl)
theorem eX10_give_126 {n : Nat} {x1 : Int32} {x2 : Int32} {M : am_M} {res : am_O × am_M} (h : (some (.inl none, M)) = some res) : rX10_give (n + 100) 126 [.inr (10, 0), .inl (.int x1), .inl (.int x2)] [] M = some res := uX10_give ((gX10_give_126 fX10_breaksOff fX10_copyBook (rX10_give n) x1 x2 M).trans h)
set_option maxRecDepth 20000 in
theorem gX10_give_66 (F0 F1 : am_F) (k : Nat → List am_V → List am_V → am_M → am_R) (x1 : Int32) (x2 : Int32) (M : am_M) : gX10_give F0 F1 k 66 [.inr (10, 0), .inl (.int x1), .inl (.int x2)] [] M =
  some (.inl none, M) := (rfl)
theorem eX10_give_66 {n : Nat} {x1 : Int32} {x2 : Int32} {M : am_M} {res : am_O × am_M} (h : (some (.inl none, M)) = some res) : rX10_give (n + 100) 66 [.inr (10, 0), .inl (.int x1), .inl (.int x2)] [] M = some res := uX10_give ((gX10_give_66 fX10_breaksOff fX10_copyBook (rX10_give n) x1 x2 M).trans h)
def rX10_absorbance (n pc : Nat) (ls st : List am_V) (M : am_M) : am_R := am_run [] [] 1 am_X0 pX10_absorbance n pc ls st M
def gX10_absorbance (k : Nat → List am_V → List am_V → am_M → am_R) (pc : Nat) (ls st : List am_V) (M : am_M) : am_R := am_go [] [] 1 am_X0 pX10_absorbance [3, 29] k 100 pc ls st M
theorem uX10_absorbance {n pc : Nat} {ls st : List am_V} {M : am_M} {res : am_O × am_M} (h : gX10_absorbance (rX10_absorbance n) pc ls st M = some res) : rX10_absorbance (n + 100) pc ls st M = some res := am_go_ok h
theorem eX10_absorbance (x0 : Int32) (M : am_M) : fX10_absorbance [.inl (.int x0)] M = rX10_absorbance 100000 0 [.inl (.int x0), am_D, am_D, am_D, am_D, am_D] [] M := am_meth_eq rfl rfl
set_option maxRecDepth 20000 in
theorem gX10_absorbance_0 (k : Nat → List am_V → List am_V → am_M → am_R) (x0 : Int32) (M : am_M) : gX10_absorbance k 0 [.inl (.int x0), am_D, am_D, am_D, am_D, am_D] [] M =
  k 3 [.inl (.int x0), .inl (.int 15), am_D, am_D, am_D, am_D] [] M := (rfl)
theorem eX10_absorbance_0 {n : Nat} {x0 : Int32} {M : am_M} {res : am_O × am_M} (h : (rX10_absorbance n 3 [.inl (.int x0), .inl (.int 15), am_D, am_D, am_D, am_D] [] M) = some res) : rX10_absorbance (n + 100) 0 [.inl (.int x0), am_D, am_D, am_D, am_D, am_D] [] M = some res := uX10_absorbance ((gX10_absorbance_0 (rX10_absorbance n) x0 M).trans h)
set_option maxRecDepth 20000 in
theorem gX10_absorbance_3 (k : Nat → List am_V → List am_V → am_M → am_R) (x0 : Int32) (x1 : Int32) (M : am_M) : gX10_absorbance k 3 [.inl (.int x0), .inl (.int x1), am_D, am_D, am_D, am_D] [] M =
  if (x0 >>> (x1 &&& 31)) = 0 then
   k 3 [.inl (.int x0), .inl (.int (x1 + (-1))), am_D, am_D, am_D, am_D] [] M
  else k 29 [.inl (.int x0), .inl (.int x1), .inl (.long ((Int32.toInt64 x0) <<< (((15 - x1) : Int32).toInt64 &&& 63))), am_D, .inl (.int 0), .inl (.int 0)] [] M := (rfl)
theorem eX10_absorbance_3 {n : Nat} {x0 : Int32} {x1 : Int32} {M : am_M} {res : am_O × am_M} (h : (if (x0 >>> (x1 &&& 31)) = 0 then
   rX10_absorbance n 3 [.inl (.int x0), .inl (.int (x1 + (-1))), am_D, am_D, am_D, am_D] [] M
  else rX10_absorbance n 29 [.inl (.int x0), .inl (.int x1), .inl (.long ((Int32.toInt64 x0) <<< (((15 - x1) : Int32).toInt64 &&& 63))), am_D, .inl (.int 0), .inl (.int 0)] [] M) = some res) : rX10_absorbance (n + 100) 3 [.inl (.int x0), .inl (.int x1), am_D, am_D, am_D, am_D] [] M = some res := uX10_absorbance ((gX10_absorbance_3 (rX10_absorbance n) x0 x1 M).trans h)
set_option maxRecDepth 20000 in
theorem gX10_absorbance_29 (k : Nat → List am_V → List am_V → am_M → am_R) (x0 : Int32) (x1 : Int32) (x2 : Int64) (x4 : Int32) (x5 : Int32) (M : am_M) : gX10_absorbance k 29 [.inl (.int x0), .inl (.int x1), .inl (.long x2), am_D, .inl (.int x4), .inl (.int x5)] [] M =
  if 10 ≤ x5 then
   some (.inl (some (.inl (.int (16384 - ((1024 * x1) + x4))))), M)
  else if (lg_cmp ((x2 * x2) / 32768) 65536) < 0 then
   k 29 [.inl (.int x0), .inl (.int x1), .inl (.long ((x2 * x2) / 32768)), am_D, .inl (.int (2 * x4)), .inl (.int (x5 + 1))] [] M
  else k 29 [.inl (.int x0), .inl (.int x1), .inl (.long (((x2 * x2) / 32768) / 2)), am_D, .inl (.int ((2 * x4) + 1)), .inl (.int (x5 + 1))] [] M := (rfl)
theorem eX10_absorbance_29 {n : Nat} {x0 : Int32} {x1 : Int32} {x2 : Int64} {x4 : Int32} {x5 : Int32} {M : am_M} {res : am_O × am_M} (h : (if 10 ≤ x5 then
   some (.inl (some (.inl (.int (16384 - ((1024 * x1) + x4))))), M)
  else if (lg_cmp ((x2 * x2) / 32768) 65536) < 0 then
   rX10_absorbance n 29 [.inl (.int x0), .inl (.int x1), .inl (.long ((x2 * x2) / 32768)), am_D, .inl (.int (2 * x4)), .inl (.int (x5 + 1))] [] M
  else rX10_absorbance n 29 [.inl (.int x0), .inl (.int x1), .inl (.long (((x2 * x2) / 32768) / 2)), am_D, .inl (.int ((2 * x4) + 1)), .inl (.int (x5 + 1))] [] M) = some res) : rX10_absorbance (n + 100) 29 [.inl (.int x0), .inl (.int x1), .inl (.long x2), am_D, .inl (.int x4), .inl (.int x5)] [] M = some res := uX10_absorbance ((gX10_absorbance_29 (rX10_absorbance n) x0 x1 x2 x4 x5 M).trans h)
def rX10_floor (n pc : Nat) (ls st : List am_V) (M : am_M) : am_R := am_run [] [] 3 am_X0 pX10_floor n pc ls st M
def gX10_floor (k : Nat → List am_V → List am_V → am_M → am_R) (pc : Nat) (ls st : List am_V) (M : am_M) : am_R := am_go [] [] 3 am_X0 pX10_floor [] k 100 pc ls st M
theorem uX10_floor {n pc : Nat} {ls st : List am_V} {M : am_M} {res : am_O × am_M} (h : gX10_floor (rX10_floor n) pc ls st M = some res) : rX10_floor (n + 100) pc ls st M = some res := am_go_ok h
theorem eX10_floor (x0 : Int64) (x1 : Int64) (M : am_M) : fX10_floor [.inl (.long x0), .inl (.long x1)] M = rX10_floor 100000 0 [.inl (.long x0), am_D, .inl (.long x1), am_D, am_D, am_D] [] M := am_meth_eq rfl rfl
set_option maxRecDepth 20000 in
theorem gX10_floor_0 (k : Nat → List am_V → List am_V → am_M → am_R) (x0 : Int64) (x2 : Int64) (M : am_M) : gX10_floor k 0 [.inl (.long x0), am_D, .inl (.long x2), am_D, am_D, am_D] [] M =
  if x2 = 0 then
   none
  else if x2 = 0 then
   none
  else if (lg_cmp (x0 - x0 / x2 * x2) 0) = 0 then
   some (.inl (some (.inl (.long (x0 / x2)))), M)
  else if 0 ≤ (lg_cmp x0 0) then
   if 0 ≤ (lg_cmp x2 0) then
    some (.inl (some (.inl (.long (x0 / x2)))), M)
   else some (.inl (some (.inl (.long ((x0 / x2) - 1)))), M)
  else if 0 ≤ (lg_cmp x2 0) then
   some (.inl (some (.inl (.long ((x0 / x2) - 1)))), M)
  else some (.inl (some (.inl (.long (x0 / x2)))), M) := (rfl)
theorem eX10_floor_0 {n : Nat} {x0 : Int64} {x2 : Int64} {M : am_M} {res : am_O × am_M} (h : (if x2 = 0 then
   none
  else if x2 = 0 then
   none
  else if (lg_cmp (x0 - x0 / x2 * x2) 0) = 0 then
   some (.inl (some (.inl (.long (x0 / x2)))), M)
  else if 0 ≤ (lg_cmp x0 0) then
   if 0 ≤ (lg_cmp x2 0) then
    some (.inl (some (.inl (.long (x0 / x2)))), M)
   else some (.inl (some (.inl (.long ((x0 / x2) - 1)))), M)
  else if 0 ≤ (lg_cmp x2 0) then
   some (.inl (some (.inl (.long ((x0 / x2) - 1)))), M)
  else some (.inl (some (.inl (.long (x0 / x2)))), M)) = some res) : rX10_floor (n + 100) 0 [.inl (.long x0), am_D, .inl (.long x2), am_D, am_D, am_D] [] M = some res := uX10_floor ((gX10_floor_0 (rX10_floor n) x0 x2 M).trans h)
def rX10_rounded (n pc : Nat) (ls st : List am_V) (M : am_M) : am_R := am_run [fX10_floor] [] 3 am_X0 pX10_rounded n pc ls st M
def gX10_rounded (F0 : am_F) (k : Nat → List am_V → List am_V → am_M → am_R) (pc : Nat) (ls st : List am_V) (M : am_M) : am_R := am_go [F0] [] 3 am_X0 pX10_rounded [21, 39] k 100 pc ls st M
theorem uX10_rounded {n pc : Nat} {ls st : List am_V} {M : am_M} {res : am_O × am_M} (h : gX10_rounded fX10_floor (rX10_rounded n) pc ls st M = some res) : rX10_rounded (n + 100) pc ls st M = some res := am_go_ok h
theorem eX10_rounded (x0 : Int64) (x1 : Int64) (M : am_M) : fX10_rounded [.inl (.long x0), .inl (.long x1)] M = rX10_rounded 100000 0 [.inl (.long x0), am_D, .inl (.long x1), am_D] [] M := am_meth_eq rfl rfl
set_option maxRecDepth 20000 in
theorem gX10_rounded_0 (F0 : am_F) (k : Nat → List am_V → List am_V → am_M → am_R) (x0 : Int64) (x2 : Int64) (M : am_M) : gX10_rounded F0 k 0 [.inl (.long x0), am_D, .inl (.long x2), am_D] [] M =
  if (lg_cmp x2 0) ≤ 0 then
   am_ret [] 36 [] (k 39 [.inl (.long x0), am_D, .inl (.long x2), am_D]) (F0 [.inl (.long (((-2) * x0) - x2)), .inl (.long ((-2) * x2))] M)
  else am_ret [] 18 [] (k 21 [.inl (.long x0), am_D, .inl (.long x2), am_D]) (F0 [.inl (.long ((2 * x0) + x2)), .inl (.long (2 * x2))] M) := (rfl)
theorem eX10_rounded_0 {n : Nat} {x0 : Int64} {x2 : Int64} {M : am_M} {res : am_O × am_M} (h : (if (lg_cmp x2 0) ≤ 0 then
   am_ret [] 36 [] (rX10_rounded n 39 [.inl (.long x0), am_D, .inl (.long x2), am_D]) (fX10_floor [.inl (.long (((-2) * x0) - x2)), .inl (.long ((-2) * x2))] M)
  else am_ret [] 18 [] (rX10_rounded n 21 [.inl (.long x0), am_D, .inl (.long x2), am_D]) (fX10_floor [.inl (.long ((2 * x0) + x2)), .inl (.long (2 * x2))] M)) = some res) : rX10_rounded (n + 100) 0 [.inl (.long x0), am_D, .inl (.long x2), am_D] [] M = some res := uX10_rounded ((gX10_rounded_0 fX10_floor (rX10_rounded n) x0 x2 M).trans h)
set_option maxRecDepth 20000 in
theorem gX10_rounded_39 (F0 : am_F) (k : Nat → List am_V → List am_V → am_M → am_R) (x0 : Int64) (x2 : Int64) (y0 : Int64) (M : am_M) : gX10_rounded F0 k 39 [.inl (.long x0), am_D, .inl (.long x2), am_D] [.inl (.long y0)] M =
  some (.inl (some (.inl (.long y0))), M) := (rfl)
theorem eX10_rounded_39 {n : Nat} {x0 : Int64} {x2 : Int64} {y0 : Int64} {M : am_M} {res : am_O × am_M} (h : (some (.inl (some (.inl (.long y0))), M)) = some res) : rX10_rounded (n + 100) 39 [.inl (.long x0), am_D, .inl (.long x2), am_D] [.inl (.long y0)] M = some res := uX10_rounded ((gX10_rounded_39 fX10_floor (rX10_rounded n) x0 x2 y0 M).trans h)
set_option maxRecDepth 20000 in
theorem gX10_rounded_21 (F0 : am_F) (k : Nat → List am_V → List am_V → am_M → am_R) (x0 : Int64) (x2 : Int64) (y0 : Int64) (M : am_M) : gX10_rounded F0 k 21 [.inl (.long x0), am_D, .inl (.long x2), am_D] [.inl (.long y0)] M =
  k 39 [.inl (.long x0), am_D, .inl (.long x2), am_D] [.inl (.long y0)] M := (rfl)
theorem eX10_rounded_21 {n : Nat} {x0 : Int64} {x2 : Int64} {y0 : Int64} {M : am_M} {res : am_O × am_M} (h : (rX10_rounded n 39 [.inl (.long x0), am_D, .inl (.long x2), am_D] [.inl (.long y0)] M) = some res) : rX10_rounded (n + 100) 21 [.inl (.long x0), am_D, .inl (.long x2), am_D] [.inl (.long y0)] M = some res := uX10_rounded ((gX10_rounded_21 fX10_floor (rX10_rounded n) x0 x2 y0 M).trans h)
def rX10_resultOf (n pc : Nat) (ls st : List am_V) (M : am_M) : am_R := am_run [fX10_of, fX10_rounded] [] 3 am_X0 pX10_resultOf n pc ls st M
def gX10_resultOf (F0 F1 : am_F) (k : Nat → List am_V → List am_V → am_M → am_R) (pc : Nat) (ls st : List am_V) (M : am_M) : am_R := am_go [F0, F1] [] 3 am_X0 pX10_resultOf [19, 72, 75, 78, 81, 84, 98, 109, 127, 149, 184] k 100 pc ls st M
theorem uX10_resultOf {n pc : Nat} {ls st : List am_V} {M : am_M} {res : am_O × am_M} (h : gX10_resultOf fX10_of fX10_rounded (rX10_resultOf n) pc ls st M = some res) : rX10_resultOf (n + 100) pc ls st M = some res := am_go_ok h
theorem eX10_resultOf (x1 : Int32) (M : am_M) : fX10_resultOf [.inr (10, 0), .inl (.int x1)] M = rX10_resultOf 100000 0 [.inr (10, 0), .inl (.int x1), am_D, am_D, am_D, am_D, am_D, am_D, am_D, am_D, am_D, am_D, am_D] [] M := am_meth_eq rfl rfl
set_option maxRecDepth 20000 in
theorem gX10_resultOf_0 (F0 F1 : am_F) (k : Nat → List am_V → List am_V → am_M → am_R) (x1 : Int32) (M : am_M) : gX10_resultOf F0 F1 k 0 [.inr (10, 0), .inl (.int x1), am_D, am_D, am_D, am_D, am_D, am_D, am_D, am_D, am_D, am_D, am_D] [] M =
  if am_in x1 40 then
   if am_in x1 40 then
    am_ret [] 16 [] (k 19 [.inr (10, 0), .inl (.int x1), .inl (.int (M 56 0 (Int32.toNatClampNeg x1))), am_D, am_D, am_D, am_D, am_D, am_D, am_D, am_D, am_D, am_D]) (F0 [.inr (10, 0), .inl (.int (M 46 0 (Int32.toNatClampNeg x1))), .inl (.int 9)] M)
   else none
  else none := (rfl)
theorem eX10_resultOf_0 {n : Nat} {x1 : Int32} {M : am_M} {res : am_O × am_M} (h : (if am_in x1 40 then
   if am_in x1 40 then
    am_ret [] 16 [] (rX10_resultOf n 19 [.inr (10, 0), .inl (.int x1), .inl (.int (M 56 0 (Int32.toNatClampNeg x1))), am_D, am_D, am_D, am_D, am_D, am_D, am_D, am_D, am_D, am_D]) (fX10_of [.inr (10, 0), .inl (.int (M 46 0 (Int32.toNatClampNeg x1))), .inl (.int 9)] M)
   else none
  else none) = some res) : rX10_resultOf (n + 100) 0 [.inr (10, 0), .inl (.int x1), am_D, am_D, am_D, am_D, am_D, am_D, am_D, am_D, am_D, am_D, am_D] [] M = some res := uX10_resultOf ((gX10_resultOf_0 fX10_of fX10_rounded (rX10_resultOf n) x1 M).trans h)
set_option maxRecDepth 20000 in
theorem gX10_resultOf_19 (F0 F1 : am_F) (k : Nat → List am_V → List am_V → am_M → am_R) (x1 : Int32) (x2 : Int32) (y0 : Int32) (M : am_M) : gX10_resultOf F0 F1 k 19 [.inr (10, 0), .inl (.int x1), .inl (.int x2), am_D, am_D, am_D, am_D, am_D, am_D, am_D, am_D, am_D, am_D] [.inl (.int y0)] M =
  if y0 = 0 then
   if am_in (((6 * x1) + x2) - 1) 240 then
    some (.inl (some (.inl (.long (Int32.toInt64 (M 55 0 (Int32.toNatClampNeg (((6 * x1) + x2) - 1))))))), M)
   else none
  else if y0 = 2 then
   if am_in (((6 * x1) + x2) - 1) 240 then
    if am_in (6 * x1) 240 then
     some (.inl (some (.inl (.long (Int32.toInt64 ((M 55 0 (Int32.toNatClampNeg (((6 * x1) + x2) - 1))) - (M 55 0 (Int32.toNatClampNeg (6 * x1)))))))), M)
    else none
   else none
  else k 72 [.inr (10, 0), .inl (.int x1), .inl (.int x2), .inl (.int y0), .inl (.long 0), am_D, am_D, am_D, am_D, am_D, am_D, am_D, am_D] [] M := (rfl)
theorem eX10_resultOf_19 {n : Nat} {x1 : Int32} {x2 : Int32} {y0 : Int32} {M : am_M} {res : am_O × am_M} (h : (if y0 = 0 then
   if am_in (((6 * x1) + x2) - 1) 240 then
    some (.inl (some (.inl (.long (Int32.toInt64 (M 55 0 (Int32.toNatClampNeg (((6 * x1) + x2) - 1))))))), M)
   else none
  else if y0 = 2 then
   if am_in (((6 * x1) + x2) - 1) 240 then
    if am_in (6 * x1) 240 then
     some (.inl (some (.inl (.long (Int32.toInt64 ((M 55 0 (Int32.toNatClampNeg (((6 * x1) + x2) - 1))) - (M 55 0 (Int32.toNatClampNeg (6 * x1)))))))), M)
    else none
   else none
  else rX10_resultOf n 72 [.inr (10, 0), .inl (.int x1), .inl (.int x2), .inl (.int y0), .inl (.long 0), am_D, am_D, am_D, am_D, am_D, am_D, am_D, am_D] [] M) = some res) : rX10_resultOf (n + 100) 19 [.inr (10, 0), .inl (.int x1), .inl (.int x2), am_D, am_D, am_D, am_D, am_D, am_D, am_D, am_D, am_D, am_D] [.inl (.int y0)] M = some res := uX10_resultOf ((gX10_resultOf_19 fX10_of fX10_rounded (rX10_resultOf n) x1 x2 y0 M).trans h)
set_option maxRecDepth 20000 in
theorem gX10_resultOf_72 (F0 F1 : am_F) (k : Nat → List am_V → List am_V → am_M → am_R) (x1 : Int32) (x2 : Int32) (x3 : Int32) (x4 : Int64) (M : am_M) : gX10_resultOf F0 F1 k 72 [.inr (10, 0), .inl (.int x1), .inl (.int x2), .inl (.int x3), .inl (.long x4), am_D, am_D, am_D, am_D, am_D, am_D, am_D, am_D] [] M =
  k 75 [.inr (10, 0), .inl (.int x1), .inl (.int x2), .inl (.int x3), .inl (.long x4), am_D, .inl (.long 0), am_D, am_D, am_D, am_D, am_D, am_D] [] M := (rfl)
theorem eX10_resultOf_72 {n : Nat} {x1 : Int32} {x2 : Int32} {x3 : Int32} {x4 : Int64} {M : am_M} {res : am_O × am_M} (h : (rX10_resultOf n 75 [.inr (10, 0), .inl (.int x1), .inl (.int x2), .inl (.int x3), .inl (.long x4), am_D, .inl (.long 0), am_D, am_D, am_D, am_D, am_D, am_D] [] M) = some res) : rX10_resultOf (n + 100) 72 [.inr (10, 0), .inl (.int x1), .inl (.int x2), .inl (.int x3), .inl (.long x4), am_D, am_D, am_D, am_D, am_D, am_D, am_D, am_D] [] M = some res := uX10_resultOf ((gX10_resultOf_72 fX10_of fX10_rounded (rX10_resultOf n) x1 x2 x3 x4 M).trans h)
set_option maxRecDepth 20000 in
theorem gX10_resultOf_75 (F0 F1 : am_F) (k : Nat → List am_V → List am_V → am_M → am_R) (x1 : Int32) (x2 : Int32) (x3 : Int32) (x4 : Int64) (x6 : Int64) (M : am_M) : gX10_resultOf F0 F1 k 75 [.inr (10, 0), .inl (.int x1), .inl (.int x2), .inl (.int x3), .inl (.long x4), am_D, .inl (.long x6), am_D, am_D, am_D, am_D, am_D, am_D] [] M =
  k 78 [.inr (10, 0), .inl (.int x1), .inl (.int x2), .inl (.int x3), .inl (.long x4), am_D, .inl (.long x6), am_D, .inl (.long 0), am_D, am_D, am_D, am_D] [] M := (rfl)
theorem eX10_resultOf_75 {n : Nat} {x1 : Int32} {x2 : Int32} {x3 : Int32} {x4 : Int64} {x6 : Int64} {M : am_M} {res : am_O × am_M} (h : (rX10_resultOf n 78 [.inr (10, 0), .inl (.int x1), .inl (.int x2), .inl (.int x3), .inl (.long x4), am_D, .inl (.long x6), am_D, .inl (.long 0), am_D, am_D, am_D, am_D] [] M) = some res) : rX10_resultOf (n + 100) 75 [.inr (10, 0), .inl (.int x1), .inl (.int x2), .inl (.int x3), .inl (.long x4), am_D, .inl (.long x6), am_D, am_D, am_D, am_D, am_D, am_D] [] M = some res := uX10_resultOf ((gX10_resultOf_75 fX10_of fX10_rounded (rX10_resultOf n) x1 x2 x3 x4 x6 M).trans h)
set_option maxRecDepth 20000 in
theorem gX10_resultOf_78 (F0 F1 : am_F) (k : Nat → List am_V → List am_V → am_M → am_R) (x1 : Int32) (x2 : Int32) (x3 : Int32) (x4 : Int64) (x6 : Int64) (x8 : Int64) (M : am_M) : gX10_resultOf F0 F1 k 78 [.inr (10, 0), .inl (.int x1), .inl (.int x2), .inl (.int x3), .inl (.long x4), am_D, .inl (.long x6), am_D, .inl (.long x8), am_D, am_D, am_D, am_D] [] M =
  k 81 [.inr (10, 0), .inl (.int x1), .inl (.int x2), .inl (.int x3), .inl (.long x4), am_D, .inl (.long x6), am_D, .inl (.long x8), am_D, .inl (.long 0), am_D, am_D] [] M := (rfl)
theorem eX10_resultOf_78 {n : Nat} {x1 : Int32} {x2 : Int32} {x3 : Int32} {x4 : Int64} {x6 : Int64} {x8 : Int64} {M : am_M} {res : am_O × am_M} (h : (rX10_resultOf n 81 [.inr (10, 0), .inl (.int x1), .inl (.int x2), .inl (.int x3), .inl (.long x4), am_D, .inl (.long x6), am_D, .inl (.long x8), am_D, .inl (.long 0), am_D, am_D] [] M) = some res) : rX10_resultOf (n + 100) 78 [.inr (10, 0), .inl (.int x1), .inl (.int x2), .inl (.int x3), .inl (.long x4), am_D, .inl (.long x6), am_D, .inl (.long x8), am_D, am_D, am_D, am_D] [] M = some res := uX10_resultOf ((gX10_resultOf_78 fX10_of fX10_rounded (rX10_resultOf n) x1 x2 x3 x4 x6 x8 M).trans h)
set_option maxRecDepth 20000 in
theorem gX10_resultOf_81 (F0 F1 : am_F) (k : Nat → List am_V → List am_V → am_M → am_R) (x1 : Int32) (x2 : Int32) (x3 : Int32) (x4 : Int64) (x6 : Int64) (x8 : Int64) (x10 : Int64) (M : am_M) : gX10_resultOf F0 F1 k 81 [.inr (10, 0), .inl (.int x1), .inl (.int x2), .inl (.int x3), .inl (.long x4), am_D, .inl (.long x6), am_D, .inl (.long x8), am_D, .inl (.long x10), am_D, am_D] [] M =
  k 84 [.inr (10, 0), .inl (.int x1), .inl (.int x2), .inl (.int x3), .inl (.long x4), am_D, .inl (.long x6), am_D, .inl (.long x8), am_D, .inl (.long x10), am_D, .inl (.int 0)] [] M := (rfl)
theorem eX10_resultOf_81 {n : Nat} {x1 : Int32} {x2 : Int32} {x3 : Int32} {x4 : Int64} {x6 : Int64} {x8 : Int64} {x10 : Int64} {M : am_M} {res : am_O × am_M} (h : (rX10_resultOf n 84 [.inr (10, 0), .inl (.int x1), .inl (.int x2), .inl (.int x3), .inl (.long x4), am_D, .inl (.long x6), am_D, .inl (.long x8), am_D, .inl (.long x10), am_D, .inl (.int 0)] [] M) = some res) : rX10_resultOf (n + 100) 81 [.inr (10, 0), .inl (.int x1), .inl (.int x2), .inl (.int x3), .inl (.long x4), am_D, .inl (.long x6), am_D, .inl (.long x8), am_D, .inl (.long x10), am_D, am_D] [] M = some res := uX10_resultOf ((gX10_resultOf_81 fX10_of fX10_rounded (rX10_resultOf n) x1 x2 x3 x4 x6 x8 x10 M).trans h)
set_option maxRecDepth 20000 in
theorem gX10_resultOf_84 (F0 F1 : am_F) (k : Nat → List am_V → List am_V → am_M → am_R) (x1 : Int32) (x2 : Int32) (x3 : Int32) (x4 : Int64) (x6 : Int64) (x8 : Int64) (x10 : Int64) (x12 : Int32) (M : am_M) : gX10_resultOf F0 F1 k 84 [.inr (10, 0), .inl (.int x1), .inl (.int x2), .inl (.int x3), .inl (.long x4), am_D, .inl (.long x6), am_D, .inl (.long x8), am_D, .inl (.long x10), am_D, .inl (.int x12)] [] M =
  if x2 ≤ x12 then
   am_ret [] 181 [] (k 184 [.inr (10, 0), .inl (.int x1), .inl (.int x2), .inl (.int x3), .inl (.long x4), am_D, .inl (.long x6), am_D, .inl (.long x8), am_D, .inl (.long x10), am_D, .inl (.int x12)]) (F1 [.inl (.long (1000 * (((Int32.toInt64 x2) * x8) - (x4 * x6)))), .inl (.long (((Int32.toInt64 x2) * x10) - (x4 * x4)))] M)
  else k 98 [.inr (10, 0), .inl (.int x1), .inl (.int x2), .inl (.int x3), .inl (.long (x4 + (Int32.toInt64 x12))), am_D, .inl (.long x6), am_D, .inl (.long x8), am_D, .inl (.long x10), am_D, .inl (.int x12)] [] M := (rfl)
theorem eX10_resultOf_84 {n : Nat} {x1 : Int32} {x2 : Int32} {x3 : Int32} {x4 : Int64} {x6 : Int64} {x8 : Int64} {x10 : Int64} {x12 : Int32} {M : am_M} {res : am_O × am_M} (h : (if x2 ≤ x12 then
   am_ret [] 181 [] (rX10_resultOf n 184 [.inr (10, 0), .inl (.int x1), .inl (.int x2), .inl (.int x3), .inl (.long x4), am_D, .inl (.long x6), am_D, .inl (.long x8), am_D, .inl (.long x10), am_D, .inl (.int x12)]) (fX10_rounded [.inl (.long (1000 * (((Int32.toInt64 x2) * x8) - (x4 * x6)))), .inl (.long (((Int32.toInt64 x2) * x10) - (x4 * x4)))] M)
  else rX10_resultOf n 98 [.inr (10, 0), .inl (.int x1), .inl (.int x2), .inl (.int x3), .inl (.long (x4 + (Int32.toInt64 x12))), am_D, .inl (.long x6), am_D, .inl (.long x8), am_D, .inl (.long x10), am_D, .inl (.int x12)] [] M) = some res) : rX10_resultOf (n + 100) 84 [.inr (10, 0), .inl (.int x1), .inl (.int x2), .inl (.int x3), .inl (.long x4), am_D, .inl (.long x6), am_D, .inl (.long x8), am_D, .inl (.long x10), am_D, .inl (.int x12)] [] M = some res := uX10_resultOf ((gX10_resultOf_84 fX10_of fX10_rounded (rX10_resultOf n) x1 x2 x3 x4 x6 x8 x10 x12 M).trans h)
set_option maxRecDepth 20000 in
theorem gX10_resultOf_184 (F0 F1 : am_F) (k : Nat → List am_V → List am_V → am_M → am_R) (x1 : Int32) (x2 : Int32) (x3 : Int32) (x4 : Int64) (x6 : Int64) (x8 : Int64) (x10 : Int64) (x12 : Int32) (y0 : Int64) (M : am_M) : gX10_resultOf F0 F1 k 184 [.inr (10, 0), .inl (.int x1), .inl (.int x2), .inl (.int x3), .inl (.long x4), am_D, .inl (.long x6), am_D, .inl (.long x8), am_D, .inl (.long x10), am_D, .inl (.int x12)] [.inl (.long y0)] M =
  some (.inl (some (.inl (.long y0))), M) := (rfl)
theorem eX10_resultOf_184 {n : Nat} {x1 : Int32} {x2 : Int32} {x3 : Int32} {x4 : Int64} {x6 : Int64} {x8 : Int64} {x10 : Int64} {x12 : Int32} {y0 : Int64} {M : am_M} {res : am_O × am_M} (h : (some (.inl (some (.inl (.long y0))), M)) = some res) : rX10_resultOf (n + 100) 184 [.inr (10, 0), .inl (.int x1), .inl (.int x2), .inl (.int x3), .inl (.long x4), am_D, .inl (.long x6), am_D, .inl (.long x8), am_D, .inl (.long x10), am_D, .inl (.int x12)] [.inl (.long y0)] M = some res := uX10_resultOf ((gX10_resultOf_184 fX10_of fX10_rounded (rX10_resultOf n) x1 x2 x3 x4 x6 x8 x10 x12 y0 M).trans h)
set_option maxRecDepth 20000 in
theorem gX10_resultOf_98 (F0 F1 : am_F) (k : Nat → List am_V → List am_V → am_M → am_R) (x1 : Int32) (x2 : Int32) (x3 : Int32) (x4 : Int64) (x6 : Int64) (x8 : Int64) (x10 : Int64) (x12 : Int32) (M : am_M) : gX10_resultOf F0 F1 k 98 [.inr (10, 0), .inl (.int x1), .inl (.int x2), .inl (.int x3), .inl (.long x4), am_D, .inl (.long x6), am_D, .inl (.long x8), am_D, .inl (.long x10), am_D, .inl (.int x12)] [] M =
  k 109 [.inr (10, 0), .inl (.int x1), .inl (.int x2), .inl (.int x3), .inl (.long x4), am_D, .inl (.long x6), am_D, .inl (.long x8), am_D, .inl (.long (x10 + (Int32.toInt64 (x12 * x12)))), am_D, .inl (.int x12)] [] M := (rfl)
theorem eX10_resultOf_98 {n : Nat} {x1 : Int32} {x2 : Int32} {x3 : Int32} {x4 : Int64} {x6 : Int64} {x8 : Int64} {x10 : Int64} {x12 : Int32} {M : am_M} {res : am_O × am_M} (h : (rX10_resultOf n 109 [.inr (10, 0), .inl (.int x1), .inl (.int x2), .inl (.int x3), .inl (.long x4), am_D, .inl (.long x6), am_D, .inl (.long x8), am_D, .inl (.long (x10 + (Int32.toInt64 (x12 * x12)))), am_D, .inl (.int x12)] [] M) = some res) : rX10_resultOf (n + 100) 98 [.inr (10, 0), .inl (.int x1), .inl (.int x2), .inl (.int x3), .inl (.long x4), am_D, .inl (.long x6), am_D, .inl (.long x8), am_D, .inl (.long x10), am_D, .inl (.int x12)] [] M = some res := uX10_resultOf ((gX10_resultOf_98 fX10_of fX10_rounded (rX10_resultOf n) x1 x2 x3 x4 x6 x8 x10 x12 M).trans h)
set_option maxRecDepth 20000 in
theorem gX10_resultOf_109 (F0 F1 : am_F) (k : Nat → List am_V → List am_V → am_M → am_R) (x1 : Int32) (x2 : Int32) (x3 : Int32) (x4 : Int64) (x6 : Int64) (x8 : Int64) (x10 : Int64) (x12 : Int32) (M : am_M) : gX10_resultOf F0 F1 k 109 [.inr (10, 0), .inl (.int x1), .inl (.int x2), .inl (.int x3), .inl (.long x4), am_D, .inl (.long x6), am_D, .inl (.long x8), am_D, .inl (.long x10), am_D, .inl (.int x12)] [] M =
  if am_in ((6 * x1) + x12) 240 then
   k 127 [.inr (10, 0), .inl (.int x1), .inl (.int x2), .inl (.int x3), .inl (.long x4), am_D, .inl (.long (x6 + (Int32.toInt64 (M 55 0 (Int32.toNatClampNeg ((6 * x1) + x12)))))), am_D, .inl (.long x8), am_D, .inl (.long x10), am_D, .inl (.int x12)] [] M
  else none := (rfl)
theorem eX10_resultOf_109 {n : Nat} {x1 : Int32} {x2 : Int32} {x3 : Int32} {x4 : Int64} {x6 : Int64} {x8 : Int64} {x10 : Int64} {x12 : Int32} {M : am_M} {res : am_O × am_M} (h : (if am_in ((6 * x1) + x12) 240 then
   rX10_resultOf n 127 [.inr (10, 0), .inl (.int x1), .inl (.int x2), .inl (.int x3), .inl (.long x4), am_D, .inl (.long (x6 + (Int32.toInt64 (M 55 0 (Int32.toNatClampNeg ((6 * x1) + x12)))))), am_D, .inl (.long x8), am_D, .inl (.long x10), am_D, .inl (.int x12)] [] M
  else none) = some res) : rX10_resultOf (n + 100) 109 [.inr (10, 0), .inl (.int x1), .inl (.int x2), .inl (.int x3), .inl (.long x4), am_D, .inl (.long x6), am_D, .inl (.long x8), am_D, .inl (.long x10), am_D, .inl (.int x12)] [] M = some res := uX10_resultOf ((gX10_resultOf_109 fX10_of fX10_rounded (rX10_resultOf n) x1 x2 x3 x4 x6 x8 x10 x12 M).trans h)
set_option maxRecDepth 20000 in
theorem gX10_resultOf_127 (F0 F1 : am_F) (k : Nat → List am_V → List am_V → am_M → am_R) (x1 : Int32) (x2 : Int32) (x3 : Int32) (x4 : Int64) (x6 : Int64) (x8 : Int64) (x10 : Int64) (x12 : Int32) (M : am_M) : gX10_resultOf F0 F1 k 127 [.inr (10, 0), .inl (.int x1), .inl (.int x2), .inl (.int x3), .inl (.long x4), am_D, .inl (.long x6), am_D, .inl (.long x8), am_D, .inl (.long x10), am_D, .inl (.int x12)] [] M =
  if am_in ((6 * x1) + x12) 240 then
   k 149 [.inr (10, 0), .inl (.int x1), .inl (.int x2), .inl (.int x3), .inl (.long x4), am_D, .inl (.long x6), am_D, .inl (.long (x8 + ((Int32.toInt64 x12) * (Int32.toInt64 (M 55 0 (Int32.toNatClampNeg ((6 * x1) + x12))))))), am_D, .inl (.long x10), am_D, .inl (.int x12)] [] M
  else none := (rfl)
theorem eX10_resultOf_127 {n : Nat} {x1 : Int32} {x2 : Int32} {x3 : Int32} {x4 : Int64} {x6 : Int64} {x8 : Int64} {x10 : Int64} {x12 : Int32} {M : am_M} {res : am_O × am_M} (h : (if am_in ((6 * x1) + x12) 240 then
   rX10_resultOf n 149 [.inr (10, 0), .inl (.int x1), .inl (.int x2), .inl (.int x3), .inl (.long x4), am_D, .inl (.long x6), am_D, .inl (.long (x8 + ((Int32.toInt64 x12) * (Int32.toInt64 (M 55 0 (Int32.toNatClampNeg ((6 * x1) + x12))))))), am_D, .inl (.long x10), am_D, .inl (.int x12)] [] M
  else none) = some res) : rX10_resultOf (n + 100) 127 [.inr (10, 0), .inl (.int x1), .inl (.int x2), .inl (.int x3), .inl (.long x4), am_D, .inl (.long x6), am_D, .inl (.long x8), am_D, .inl (.long x10), am_D, .inl (.int x12)] [] M = some res := uX10_resultOf ((gX10_resultOf_127 fX10_of fX10_rounded (rX10_resultOf n) x1 x2 x3 x4 x6 x8 x10 x12 M).trans h)
set_option maxRecDepth 20000 in
theorem gX10_resultOf_149 (F0 F1 : am_F) (k : Nat → List am_V → List am_V → am_M → am_R) (x1 : Int32) (x2 : Int32) (x3 : Int32) (x4 : Int64) (x6 : Int64) (x8 : Int64) (x10 : Int64) (x12 : Int32) (M : am_M) : gX10_resultOf F0 F1 k 149 [.inr (10, 0), .inl (.int x1), .inl (.int x2), .inl (.int x3), .inl (.long x4), am_D, .inl (.long x6), am_D, .inl (.long x8), am_D, .inl (.long x10), am_D, .inl (.int x12)] [] M =
  k 84 [.inr (10, 0), .inl (.int x1), .inl (.int x2), .inl (.int x3), .inl (.long x4), am_D, .inl (.long x6), am_D, .inl (.long x8), am_D, .inl (.long x10), am_D, .inl (.int (x12 + 1))] [] M := (rfl)
theorem eX10_resultOf_149 {n : Nat} {x1 : Int32} {x2 : Int32} {x3 : Int32} {x4 : Int64} {x6 : Int64} {x8 : Int64} {x10 : Int64} {x12 : Int32} {M : am_M} {res : am_O × am_M} (h : (rX10_resultOf n 84 [.inr (10, 0), .inl (.int x1), .inl (.int x2), .inl (.int x3), .inl (.long x4), am_D, .inl (.long x6), am_D, .inl (.long x8), am_D, .inl (.long x10), am_D, .inl (.int (x12 + 1))] [] M) = some res) : rX10_resultOf (n + 100) 149 [.inr (10, 0), .inl (.int x1), .inl (.int x2), .inl (.int x3), .inl (.long x4), am_D, .inl (.long x6), am_D, .inl (.long x8), am_D, .inl (.long x10), am_D, .inl (.int x12)] [] M = some res := uX10_resultOf ((gX10_resultOf_149 fX10_of fX10_rounded (rX10_resultOf n) x1 x2 x3 x4 x6 x8 x10 x12 M).trans h)
def rX10_byCurve (n pc : Nat) (ls st : List am_V) (M : am_M) : am_R := am_run [fX10_rounded] [] 3 am_X0 pX10_byCurve n pc ls st M
def gX10_byCurve (F0 : am_F) (k : Nat → List am_V → List am_V → am_M → am_R) (pc : Nat) (ls st : List am_V) (M : am_M) : am_R := am_go [F0] [] 3 am_X0 pX10_byCurve [5, 109] k 100 pc ls st M
theorem uX10_byCurve {n pc : Nat} {ls st : List am_V} {M : am_M} {res : am_O × am_M} (h : gX10_byCurve fX10_rounded (rX10_byCurve n) pc ls st M = some res) : rX10_byCurve (n + 100) pc ls st M = some res := am_go_ok h
theorem eX10_byCurve (x1 : Int32) (x2 : Int64) (M : am_M) : fX10_byCurve [.inr (10, 0), .inl (.int x1), .inl (.long x2)] M = rX10_byCurve 100000 0 [.inr (10, 0), .inl (.int x1), .inl (.long x2), am_D, am_D, am_D, am_D, am_D, am_D] [] M := am_meth_eq rfl rfl
set_option maxRecDepth 20000 in
theorem gX10_byCurve_0 (F0 : am_F) (k : Nat → List am_V → List am_V → am_M → am_R) (x1 : Int32) (x2 : Int64) (M : am_M) : gX10_byCurve F0 k 0 [.inr (10, 0), .inl (.int x1), .inl (.long x2), am_D, am_D, am_D, am_D, am_D, am_D] [] M =
  k 5 [.inr (10, 0), .inl (.int x1), .inl (.long x2), am_D, .inl (.int (5 * x1)), am_D, am_D, am_D, am_D] [] M := (rfl)
theorem eX10_byCurve_0 {n : Nat} {x1 : Int32} {x2 : Int64} {M : am_M} {res : am_O × am_M} (h : (rX10_byCurve n 5 [.inr (10, 0), .inl (.int x1), .inl (.long x2), am_D, .inl (.int (5 * x1)), am_D, am_D, am_D, am_D] [] M) = some res) : rX10_byCurve (n + 100) 0 [.inr (10, 0), .inl (.int x1), .inl (.long x2), am_D, am_D, am_D, am_D, am_D, am_D] [] M = some res := uX10_byCurve ((gX10_byCurve_0 fX10_rounded (rX10_byCurve n) x1 x2 M).trans h)
set_option maxRecDepth 20000 in
theorem gX10_byCurve_5 (F0 : am_F) (k : Nat → List am_V → List am_V → am_M → am_R) (x1 : Int32) (x2 : Int64) (x4 : Int32) (M : am_M) : gX10_byCurve F0 k 5 [.inr (10, 0), .inl (.int x1), .inl (.long x2), am_D, .inl (.int x4), am_D, am_D, am_D, am_D] [] M =
  if am_in x1 4 then
   if ((5 * x1) + (M 34 0 (Int32.toNatClampNeg x1))) ≤ (x4 + 2) then
    if am_in (x4 + 1) 20 then
     if am_in x4 20 then
      if am_in (x4 + 1) 20 then
       if am_in x4 20 then
        if am_in x4 20 then
         if am_in x4 20 then
          am_ret [] 106 [.inl (.long (Int32.toInt64 (M 33 0 (Int32.toNatClampNeg x4))))] (k 109 [.inr (10, 0), .inl (.int x1), .inl (.long x2), am_D, .inl (.int x4), .inl (.long (Int32.toInt64 ((M 32 0 (Int32.toNatClampNeg (x4 + 1))) - (M 32 0 (Int32.toNatClampNeg x4))))), am_D, .inl (.long (Int32.toInt64 ((M 33 0 (Int32.toNatClampNeg (x4 + 1))) - (M 33 0 (Int32.toNatClampNeg x4))))), am_D]) (F0 [.inl (.long ((x2 - (Int32.toInt64 (M 32 0 (Int32.toNatClampNeg x4)))) * (Int32.toInt64 ((M 33 0 (Int32.toNatClampNeg (x4 + 1))) - (M 33 0 (Int32.toNatClampNeg x4)))))), .inl (.long (Int32.toInt64 ((M 32 0 (Int32.toNatClampNeg (x4 + 1))) - (M 32 0 (Int32.toNatClampNeg x4)))))] M)
         else none
        else none
       else none
      else none
     else none
    else none
   else if am_in (x4 + 1) 20 then
    if (lg_cmp x2 (Int32.toInt64 (M 32 0 (Int32.toNatClampNeg (x4 + 1))))) ≤ 0 then
     if am_in (x4 + 1) 20 then
      if am_in x4 20 then
       if am_in (x4 + 1) 20 then
        if am_in x4 20 then
         if am_in x4 20 then
          if am_in x4 20 then
           am_ret [] 106 [.inl (.long (Int32.toInt64 (M 33 0 (Int32.toNatClampNeg x4))))] (k 109 [.inr (10, 0), .inl (.int x1), .inl (.long x2), am_D, .inl (.int x4), .inl (.long (Int32.toInt64 ((M 32 0 (Int32.toNatClampNeg (x4 + 1))) - (M 32 0 (Int32.toNatClampNeg x4))))), am_D, .inl (.long (Int32.toInt64 ((M 33 0 (Int32.toNatClampNeg (x4 + 1))) - (M 33 0 (Int32.toNatClampNeg x4))))), am_D]) (F0 [.inl (.long ((x2 - (Int32.toInt64 (M 32 0 (Int32.toNatClampNeg x4)))) * (Int32.toInt64 ((M 33 0 (Int32.toNatClampNeg (x4 + 1))) - (M 33 0 (Int32.toNatClampNeg x4)))))), .inl (.long (Int32.toInt64 ((M 32 0 (Int32.toNatClampNeg (x4 + 1))) - (M 32 0 (Int32.toNatClampNeg x4)))))] M)
          else none
         else none
        else none
       else none
      else none
     else none
    else k 5 [.inr (10, 0), .inl (.int x1), .inl (.long x2), am_D, .inl (.int (x4 + 1)), am_D, am_D, am_D, am_D] [] M
   else none
  else none := (rfl)
theorem eX10_byCurve_5 {n : Nat} {x1 : Int32} {x2 : Int64} {x4 : Int32} {M : am_M} {res : am_O × am_M} (h : (if am_in x1 4 then
   if ((5 * x1) + (M 34 0 (Int32.toNatClampNeg x1))) ≤ (x4 + 2) then
    if am_in (x4 + 1) 20 then
     if am_in x4 20 then
      if am_in (x4 + 1) 20 then
       if am_in x4 20 then
        if am_in x4 20 then
         if am_in x4 20 then
          am_ret [] 106 [.inl (.long (Int32.toInt64 (M 33 0 (Int32.toNatClampNeg x4))))] (rX10_byCurve n 109 [.inr (10, 0), .inl (.int x1), .inl (.long x2), am_D, .inl (.int x4), .inl (.long (Int32.toInt64 ((M 32 0 (Int32.toNatClampNeg (x4 + 1))) - (M 32 0 (Int32.toNatClampNeg x4))))), am_D, .inl (.long (Int32.toInt64 ((M 33 0 (Int32.toNatClampNeg (x4 + 1))) - (M 33 0 (Int32.toNatClampNeg x4))))), am_D]) (fX10_rounded [.inl (.long ((x2 - (Int32.toInt64 (M 32 0 (Int32.toNatClampNeg x4)))) * (Int32.toInt64 ((M 33 0 (Int32.toNatClampNeg (x4 + 1))) - (M 33 0 (Int32.toNatClampNeg x4)))))), .inl (.long (Int32.toInt64 ((M 32 0 (Int32.toNatClampNeg (x4 + 1))) - (M 32 0 (Int32.toNatClampNeg x4)))))] M)
         else none
        else none
       else none
      else none
     else none
    else none
   else if am_in (x4 + 1) 20 then
    if (lg_cmp x2 (Int32.toInt64 (M 32 0 (Int32.toNatClampNeg (x4 + 1))))) ≤ 0 then
     if am_in (x4 + 1) 20 then
      if am_in x4 20 then
       if am_in (x4 + 1) 20 then
        if am_in x4 20 then
         if am_in x4 20 then
          if am_in x4 20 then
           am_ret [] 106 [.inl (.long (Int32.toInt64 (M 33 0 (Int32.toNatClampNeg x4))))] (rX10_byCurve n 109 [.inr (10, 0), .inl (.int x1), .inl (.long x2), am_D, .inl (.int x4), .inl (.long (Int32.toInt64 ((M 32 0 (Int32.toNatClampNeg (x4 + 1))) - (M 32 0 (Int32.toNatClampNeg x4))))), am_D, .inl (.long (Int32.toInt64 ((M 33 0 (Int32.toNatClampNeg (x4 + 1))) - (M 33 0 (Int32.toNatClampNeg x4))))), am_D]) (fX10_rounded [.inl (.long ((x2 - (Int32.toInt64 (M 32 0 (Int32.toNatClampNeg x4)))) * (Int32.toInt64 ((M 33 0 (Int32.toNatClampNeg (x4 + 1))) - (M 33 0 (Int32.toNatClampNeg x4)))))), .inl (.long (Int32.toInt64 ((M 32 0 (Int32.toNatClampNeg (x4 + 1))) - (M 32 0 (Int32.toNatClampNeg x4)))))] M)
          else none
         else none
        else none
       else none
      else none
     else none
    else rX10_byCurve n 5 [.inr (10, 0), .inl (.int x1), .inl (.long x2), am_D, .inl (.int (x4 + 1)), am_D, am_D, am_D, am_D] [] M
   else none
  else none) = some res) : rX10_byCurve (n + 100) 5 [.inr (10, 0), .inl (.int x1), .inl (.long x2), am_D, .inl (.int x4), am_D, am_D, am_D, am_D] [] M = some res := uX10_byCurve ((gX10_byCurve_5 fX10_rounded (rX10_byCurve n) x1 x2 x4 M).trans h)
set_option maxRecDepth 20000 in
theorem gX10_byCurve_109 (F0 : am_F) (k : Nat → List am_V → List am_V → am_M → am_R) (x1 : Int32) (x2 : Int64) (x4 : Int32) (x5 : Int64) (x7 : Int64) (y0 : Int64) (y1 : Int64) (M : am_M) : gX10_byCurve F0 k 109 [.inr (10, 0), .inl (.int x1), .inl (.long x2), am_D, .inl (.int x4), .inl (.long x5), am_D, .inl (.long x7), am_D] [.inl (.long y0), .inl (.long y1)] M =
  some (.inl (some (.inl (.long (y1 + y0)))), M) := (rfl)
theorem eX10_byCurve_109 {n : Nat} {x1 : Int32} {x2 : Int64} {x4 : Int32} {x5 : Int64} {x7 : Int64} {y0 : Int64} {y1 : Int64} {M : am_M} {res : am_O × am_M} (h : (some (.inl (some (.inl (.long (y1 + y0)))), M)) = some res) : rX10_byCurve (n + 100) 109 [.inr (10, 0), .inl (.int x1), .inl (.long x2), am_D, .inl (.int x4), .inl (.long x5), am_D, .inl (.long x7), am_D] [.inl (.long y0), .inl (.long y1)] M = some res := uX10_byCurve ((gX10_byCurve_109 fX10_rounded (rX10_byCurve n) x1 x2 x4 x5 x7 y0 y1 M).trans h)
def rX10_release (n pc : Nat) (ls st : List am_V) (M : am_M) : am_R := am_run [] [] 0 am_X0 pX10_release n pc ls st M
def gX10_release (k : Nat → List am_V → List am_V → am_M → am_R) (pc : Nat) (ls st : List am_V) (M : am_M) : am_R := am_go [] [] 0 am_X0 pX10_release [] k 100 pc ls st M
theorem uX10_release {n pc : Nat} {ls st : List am_V} {M : am_M} {res : am_O × am_M} (h : gX10_release (rX10_release n) pc ls st M = some res) : rX10_release (n + 100) pc ls st M = some res := am_go_ok h
theorem eX10_release (x1 : Int32) (x2 : Int32) (x3 : Int32) (M : am_M) : fX10_release [.inr (10, 0), .inl (.int x1), .inl (.int x2), .inl (.int x3)] M = rX10_release 100000 0 [.inr (10, 0), .inl (.int x1), .inl (.int x2), .inl (.int x3)] [] M := am_meth_eq rfl rfl
set_option maxRecDepth 20000 in
theorem gX10_release_0 (k : Nat → List am_V → List am_V → am_M → am_R) (x1 : Int32) (x2 : Int32) (x3 : Int32) (M : am_M) : gX10_release k 0 [.inr (10, 0), .inl (.int x1), .inl (.int x2), .inl (.int x3)] [] M =
  if am_in x1 40 then
   if am_in x1 40 then
    if am_in x1 40 then
     if am_in (M 10 0 40) 40 then
      some (.inl none, (am_put (am_put (am_put (am_put (am_put M 48 0 (Int32.toNatClampNeg x1) 2) 57 0 (Int32.toNatClampNeg x1) x2) 58 0 (Int32.toNatClampNeg x1) x3) 69 0 (Int32.toNatClampNeg (M 10 0 40)) x1) 10 0 40 ((M 10 0 40) + 1)))
     else none
    else none
   else none
  else none := (rfl)
theorem eX10_release_0 {n : Nat} {x1 : Int32} {x2 : Int32} {x3 : Int32} {M : am_M} {res : am_O × am_M} (h : (if am_in x1 40 then
   if am_in x1 40 then
    if am_in x1 40 then
     if am_in (M 10 0 40) 40 then
      some (.inl none, (am_put (am_put (am_put (am_put (am_put M 48 0 (Int32.toNatClampNeg x1) 2) 57 0 (Int32.toNatClampNeg x1) x2) 58 0 (Int32.toNatClampNeg x1) x3) 69 0 (Int32.toNatClampNeg (M 10 0 40)) x1) 10 0 40 ((M 10 0 40) + 1)))
     else none
    else none
   else none
  else none) = some res) : rX10_release (n + 100) 0 [.inr (10, 0), .inl (.int x1), .inl (.int x2), .inl (.int x3)] [] M = some res := uX10_release ((gX10_release_0 (rX10_release n) x1 x2 x3 M).trans h)
