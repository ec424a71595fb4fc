/-! ===== the runs, piece by piece ===== -/
def rX0_valueAt (n pc : Nat) (ls st : List am_V) (M : am_M) : am_R := am_run [fX9_rounded] [] 3 am_X0 pX0_valueAt n pc ls st M
def gX0_valueAt (k : Nat → List am_V → List am_V → am_M → am_R) (pc : Nat) (ls st : List am_V) (M : am_M) : am_R := am_go [fX9_rounded] [] 3 am_X0 pX0_valueAt [12, 101] k 100 pc ls st M
theorem uX0_valueAt {n pc : Nat} {ls st : List am_V} {M : am_M} {res : am_O × am_M} (h : gX0_valueAt (rX0_valueAt n) pc ls st M = some res) : rX0_valueAt (n + 100) pc ls st M = some res := am_go_ok h
theorem eX0_valueAt (x0 : Nat) (x1 : Int64) (M : am_M) : fX0_valueAt [.inr (0, x0), .inl (.long x1)] M = rX0_valueAt 100000 0 [.inr (0, x0), .inl (.long x1), am_D, am_D, am_D, am_D, am_D] [] M := am_meth_eq rfl rfl
set_option maxRecDepth 20000 in
theorem gX0_valueAt_0 (k : Nat → List am_V → List am_V → am_M → am_R) (x0 : Nat) (x1 : Int64) (M : am_M) : gX0_valueAt k 0 [.inr (0, x0), .inl (.long x1), am_D, am_D, am_D, am_D, am_D] [] M =
  if 2 ≤ (M 0 x0 2) then
   k 12 [.inr (0, x0), .inl (.long x1), am_D, .inl (.int 1), am_D, am_D, am_D] [] M
  else some (.inl (some (.inl (.long 0))), M) := (rfl)
theorem eX0_valueAt_0 {n : Nat} {x0 : Nat} {x1 : Int64} {M : am_M} {res : am_O × am_M} (h : (if 2 ≤ (M 0 x0 2) then
   rX0_valueAt n 12 [.inr (0, x0), .inl (.long x1), am_D, .inl (.int 1), am_D, am_D, am_D] [] M
  else some (.inl (some (.inl (.long 0))), M)) = some res) : rX0_valueAt (n + 100) 0 [.inr (0, x0), .inl (.long x1), am_D, am_D, am_D, am_D, am_D] [] M = some res := uX0_valueAt ((gX0_valueAt_0 (rX0_valueAt n) x0 x1 M).trans h)
set_option maxRecDepth 20000 in
theorem gX0_valueAt_12 (k : Nat → List am_V → List am_V → am_M → am_R) (x0 : Nat) (x1 : Int64) (x3 : Int32) (M : am_M) : gX0_valueAt k 12 [.inr (0, x0), .inl (.long x1), am_D, .inl (.int x3), am_D, am_D, am_D] [] M =
  if ((M 0 x0 2) - 1) ≤ x3 then
   if am_in (x3 - 1) 5 then
    if am_in x3 5 then
     if am_in (x3 - 1) 5 then
      if am_in (x3 - 1) 5 then
       if am_in x3 5 then
        if am_in (x3 - 1) 5 then
         am_ret [] 98 [.inl (.long (Int32.toInt64 (M 12 x0 (Int32.toNatClampNeg (x3 - 1)))))] (k 101 [.inr (0, x0), .inl (.long x1), am_D, .inl (.int x3), .inl (.int (x3 - 1)), .inl (.long ((x1 - (Int32.toInt64 (M 11 x0 (Int32.toNatClampNeg (x3 - 1))))) * (Int32.toInt64 ((M 12 x0 (Int32.toNatClampNeg x3)) - (M 12 x0 (Int32.toNatClampNeg (x3 - 1))))))), am_D]) (fX9_rounded [.inl (.long ((x1 - (Int32.toInt64 (M 11 x0 (Int32.toNatClampNeg (x3 - 1))))) * (Int32.toInt64 ((M 12 x0 (Int32.toNatClampNeg x3)) - (M 12 x0 (Int32.toNatClampNeg (x3 - 1))))))), .inl (.long (Int32.toInt64 ((M 11 x0 (Int32.toNatClampNeg x3)) - (M 11 x0 (Int32.toNatClampNeg (x3 - 1))))))] M)
        else none
       else none
      else none
     else none
    else none
   else none
  else if am_in x3 5 then
   if (lg_cmp x1 (Int32.toInt64 (M 11 x0 (Int32.toNatClampNeg x3)))) ≤ 0 then
    if am_in (x3 - 1) 5 then
     if am_in x3 5 then
      if am_in (x3 - 1) 5 then
       if am_in (x3 - 1) 5 then
        if am_in x3 5 then
         if am_in (x3 - 1) 5 then
          am_ret [] 98 [.inl (.long (Int32.toInt64 (M 12 x0 (Int32.toNatClampNeg (x3 - 1)))))] (k 101 [.inr (0, x0), .inl (.long x1), am_D, .inl (.int x3), .inl (.int (x3 - 1)), .inl (.long ((x1 - (Int32.toInt64 (M 11 x0 (Int32.toNatClampNeg (x3 - 1))))) * (Int32.toInt64 ((M 12 x0 (Int32.toNatClampNeg x3)) - (M 12 x0 (Int32.toNatClampNeg (x3 - 1))))))), am_D]) (fX9_rounded [.inl (.long ((x1 - (Int32.toInt64 (M 11 x0 (Int32.toNatClampNeg (x3 - 1))))) * (Int32.toInt64 ((M 12 x0 (Int32.toNatClampNeg x3)) - (M 12 x0 (Int32.toNatClampNeg (x3 - 1))))))), .inl (.long (Int32.toInt64 ((M 11 x0 (Int32.toNatClampNeg x3)) - (M 11 x0 (Int32.toNatClampNeg (x3 - 1))))))] M)
         else none
        else none
       else none
      else none
     else none
    else none
   else k 12 [.inr (0, x0), .inl (.long x1), am_D, .inl (.int (x3 + 1)), am_D, am_D, am_D] [] M
  else none := (rfl)
theorem eX0_valueAt_12 {n : Nat} {x0 : Nat} {x1 : Int64} {x3 : Int32} {M : am_M} {res : am_O × am_M} (h : (if ((M 0 x0 2) - 1) ≤ x3 then
   if am_in (x3 - 1) 5 then
    if am_in x3 5 then
     if am_in (x3 - 1) 5 then
      if am_in (x3 - 1) 5 then
       if am_in x3 5 then
        if am_in (x3 - 1) 5 then
         am_ret [] 98 [.inl (.long (Int32.toInt64 (M 12 x0 (Int32.toNatClampNeg (x3 - 1)))))] (rX0_valueAt n 101 [.inr (0, x0), .inl (.long x1), am_D, .inl (.int x3), .inl (.int (x3 - 1)), .inl (.long ((x1 - (Int32.toInt64 (M 11 x0 (Int32.toNatClampNeg (x3 - 1))))) * (Int32.toInt64 ((M 12 x0 (Int32.toNatClampNeg x3)) - (M 12 x0 (Int32.toNatClampNeg (x3 - 1))))))), am_D]) (fX9_rounded [.inl (.long ((x1 - (Int32.toInt64 (M 11 x0 (Int32.toNatClampNeg (x3 - 1))))) * (Int32.toInt64 ((M 12 x0 (Int32.toNatClampNeg x3)) - (M 12 x0 (Int32.toNatClampNeg (x3 - 1))))))), .inl (.long (Int32.toInt64 ((M 11 x0 (Int32.toNatClampNeg x3)) - (M 11 x0 (Int32.toNatClampNeg (x3 - 1))))))] M)
        else none
       else none
      else none
     else none
    else none
   else none
  else if am_in x3 5 then
   if (lg_cmp x1 (Int32.toInt64 (M 11 x0 (Int32.toNatClampNeg x3)))) ≤ 0 then
    if am_in (x3 - 1) 5 then
     if am_in x3 5 then
      if am_in (x3 - 1) 5 then
       if am_in (x3 - 1) 5 then
        if am_in x3 5 then
         if am_in (x3 - 1) 5 then
          am_ret [] 98 [.inl (.long (Int32.toInt64 (M 12 x0 (Int32.toNatClampNeg (x3 - 1)))))] (rX0_valueAt n 101 [.inr (0, x0), .inl (.long x1), am_D, .inl (.int x3), .inl (.int (x3 - 1)), .inl (.long ((x1 - (Int32.toInt64 (M 11 x0 (Int32.toNatClampNeg (x3 - 1))))) * (Int32.toInt64 ((M 12 x0 (Int32.toNatClampNeg x3)) - (M 12 x0 (Int32.toNatClampNeg (x3 - 1))))))), am_D]) (fX9_rounded [.inl (.long ((x1 - (Int32.toInt64 (M 11 x0 (Int32.toNatClampNeg (x3 - 1))))) * (Int32.toInt64 ((M 12 x0 (Int32.toNatClampNeg x3)) - (M 12 x0 (Int32.toNatClampNeg (x3 - 1))))))), .inl (.long (Int32.toInt64 ((M 11 x0 (Int32.toNatClampNeg x3)) - (M 11 x0 (Int32.toNatClampNeg (x3 - 1))))))] M)
         else none
        else none
       else none
      else none
     else none
    else none
   else rX0_valueAt n 12 [.inr (0, x0), .inl (.long x1), am_D, .inl (.int (x3 + 1)), am_D, am_D, am_D] [] M
  else none) = some res) : rX0_valueAt (n + 100) 12 [.inr (0, x0), .inl (.long x1), am_D, .inl (.int x3), am_D, am_D, am_D] [] M = some res := uX0_valueAt ((gX0_valueAt_12 (rX0_valueAt n) x0 x1 x3 M).trans h)
set_option maxRecDepth 20000 in
theorem gX0_valueAt_101 (k : Nat → List am_V → List am_V → am_M → am_R) (x0 : Nat) (x1 : Int64) (x3 : Int32) (x4 : Int32) (x5 : Int64) (y0 : Int64) (y1 : Int64) (M : am_M) : gX0_valueAt k 101 [.inr (0, x0), .inl (.long x1), am_D, .inl (.int x3), .inl (.int x4), .inl (.long x5), am_D] [.inl (.long y0), .inl (.long y1)] M =
  some (.inl (some (.inl (.long (y1 + y0)))), M) := (rfl)
theorem eX0_valueAt_101 {n : Nat} {x0 : Nat} {x1 : Int64} {x3 : Int32} {x4 : Int32} {x5 : Int64} {y0 : Int64} {y1 : Int64} {M : am_M} {res : am_O × am_M} (h : (some (.inl (some (.inl (.long (y1 + y0)))), M)) = some res) : rX0_valueAt (n + 100) 101 [.inr (0, x0), .inl (.long x1), am_D, .inl (.int x3), .inl (.int x4), .inl (.long x5), am_D] [.inl (.long y0), .inl (.long y1)] M = some res := uX0_valueAt ((gX0_valueAt_101 (rX0_valueAt n) x0 x1 x3 x4 x5 y0 y1 M).trans h)
def rX1_isClean (n pc : Nat) (ls st : List am_V) (M : am_M) : am_R := am_run [] [] 2 am_X0 pX1_isClean n pc ls st M
def gX1_isClean (k : Nat → List am_V → List am_V → am_M → am_R) (pc : Nat) (ls st : List am_V) (M : am_M) : am_R := am_go [] [] 2 am_X0 pX1_isClean [] k 100 pc ls st M
theorem uX1_isClean {n pc : Nat} {ls st : List am_V} {M : am_M} {res : am_O × am_M} (h : gX1_isClean (rX1_isClean n) pc ls st M = some res) : rX1_isClean (n + 100) pc ls st M = some res := am_go_ok h
theorem eX1_isClean (x0 : Nat) (M : am_M) : fX1_isClean [.inr (1, x0)] M = rX1_isClean 100000 0 [.inr (1, x0)] [] M := am_meth_eq rfl rfl
set_option maxRecDepth 20000 in
theorem gX1_isClean_0 (k : Nat → List am_V → List am_V → am_M → am_R) (x0 : Nat) (M : am_M) : gX1_isClean k 0 [.inr (1, x0)] [] M =
  if (M 1 x0 5) = (-1) then
   if (M 1 x0 8) = 0 then
    some (.inl (some (.inl (.int 1))), M)
   else some (.inl (some (.inl (.int 0))), M)
  else some (.inl (some (.inl (.int 0))), M) := (rfl)
theorem eX1_isClean_0 {n : Nat} {x0 : Nat} {M : am_M} {res : am_O × am_M} (h : (if (M 1 x0 5) = (-1) then
   if (M 1 x0 8) = 0 then
    some (.inl (some (.inl (.int 1))), M)
   else some (.inl (some (.inl (.int 0))), M)
  else some (.inl (some (.inl (.int 0))), M)) = some res) : rX1_isClean (n + 100) 0 [.inr (1, x0)] [] M = some res := uX1_isClean ((gX1_isClean_0 (rX1_isClean n) x0 M).trans h)
def rX1_turn (n pc : Nat) (ls st : List am_V) (M : am_M) : am_R := am_run [] [] 0 am_X0 pX1_turn n pc ls st M
def gX1_turn (k : Nat → List am_V → List am_V → am_M → am_R) (pc : Nat) (ls st : List am_V) (M : am_M) : am_R := am_go [] [] 0 am_X0 pX1_turn [] k 100 pc ls st M
theorem uX1_turn {n pc : Nat} {ls st : List am_V} {M : am_M} {res : am_O × am_M} (h : gX1_turn (rX1_turn n) pc ls st M = some res) : rX1_turn (n + 100) pc ls st M = some res := am_go_ok h
theorem eX1_turn (x0 : Nat) (M : am_M) : fX1_turn [.inr (1, x0)] M = rX1_turn 100000 0 [.inr (1, x0)] [] M := am_meth_eq rfl rfl
set_option maxRecDepth 20000 in
theorem gX1_turn_0 (k : Nat → List am_V → List am_V → am_M → am_R) (x0 : Nat) (M : am_M) : gX1_turn k 0 [.inr (1, x0)] [] M =
  if (M 1 x0 5) = (-1) then
   if (M 1 x0 8) ≤ 0 then
    some (.inl none, M)
   else some (.inl none, (am_put M 1 x0 8 ((M 1 x0 8) - 1)))
  else some (.inl none, (am_put M 1 x0 7 ((M 1 x0 7) + 1))) := (rfl)
theorem eX1_turn_0 {n : Nat} {x0 : Nat} {M : am_M} {res : am_O × am_M} (h : (if (M 1 x0 5) = (-1) then
   if (M 1 x0 8) ≤ 0 then
    some (.inl none, M)
   else some (.inl none, (am_put M 1 x0 8 ((M 1 x0 8) - 1)))
  else some (.inl none, (am_put M 1 x0 7 ((M 1 x0 7) + 1)))) = some res) : rX1_turn (n + 100) 0 [.inr (1, x0)] [] M = some res := uX1_turn ((gX1_turn_0 (rX1_turn n) x0 M).trans h)
def rX1_start (n pc : Nat) (ls st : List am_V) (M : am_M) : am_R := am_run [] [] 0 am_X0 pX1_start n pc ls st M
def gX1_start (k : Nat → List am_V → List am_V → am_M → am_R) (pc : Nat) (ls st : List am_V) (M : am_M) : am_R := am_go [] [] 0 am_X0 pX1_start [] k 100 pc ls st M
theorem uX1_start {n pc : Nat} {ls st : List am_V} {M : am_M} {res : am_O × am_M} (h : gX1_start (rX1_start n) pc ls st M = some res) : rX1_start (n + 100) pc ls st M = some res := am_go_ok h
theorem eX1_start (x0 : Nat) (x1 : Int32) (x2 : Int32) (M : am_M) : fX1_start [.inr (1, x0), .inl (.int x1), .inl (.int x2)] M = rX1_start 100000 0 [.inr (1, x0), .inl (.int x1), .inl (.int x2)] [] M := am_meth_eq rfl rfl
set_option maxRecDepth 20000 in
theorem gX1_start_0 (k : Nat → List am_V → List am_V → am_M → am_R) (x0 : Nat) (x1 : Int32) (x2 : Int32) (M : am_M) : gX1_start k 0 [.inr (1, x0), .inl (.int x1), .inl (.int x2)] [] M =
  if am_b x2 = x2 then
   some (.inl none, (am_put (am_put (am_put (am_put (am_put M 1 x0 5 x1) 1 x0 6 x2) 1 x0 7 0) 1 x0 1 0) 1 x0 4 0))
  else none := (rfl)
theorem eX1_start_0 {n : Nat} {x0 : Nat} {x1 : Int32} {x2 : Int32} {M : am_M} {res : am_O × am_M} (h : (if am_b x2 = x2 then
   some (.inl none, (am_put (am_put (am_put (am_put (am_put M 1 x0 5 x1) 1 x0 6 x2) 1 x0 7 0) 1 x0 1 0) 1 x0 4 0))
  else none) = some res) : rX1_start (n + 100) 0 [.inr (1, x0), .inl (.int x1), .inl (.int x2)] [] M = some res := uX1_start ((gX1_start_0 (rX1_start n) x0 x1 x2 M).trans h)
def rX1_addReading (n pc : Nat) (ls st : List am_V) (M : am_M) : am_R := am_run [] [] 0 am_X0 pX1_addReading n pc ls st M
def gX1_addReading (k : Nat → List am_V → List am_V → am_M → am_R) (pc : Nat) (ls st : List am_V) (M : am_M) : am_R := am_go [] [] 0 am_X0 pX1_addReading [] k 100 pc ls st M
theorem uX1_addReading {n pc : Nat} {ls st : List am_V} {M : am_M} {res : am_O × am_M} (h : gX1_addReading (rX1_addReading n) pc ls st M = some res) : rX1_addReading (n + 100) pc ls st M = some res := am_go_ok h
theorem eX1_addReading (x0 : Nat) (x1 : Int32) (M : am_M) : fX1_addReading [.inr (1, x0), .inl (.int x1)] M = rX1_addReading 100000 0 [.inr (1, x0), .inl (.int x1)] [] M := am_meth_eq rfl rfl
set_option maxRecDepth 20000 in
theorem gX1_addReading_0 (k : Nat → List am_V → List am_V → am_M → am_R) (x0 : Nat) (x1 : Int32) (M : am_M) : gX1_addReading k 0 [.inr (1, x0), .inl (.int x1)] [] M =
  if 6 ≤ (M 1 x0 1) then
   some (.inl none, M)
  else if am_in (M 1 x0 1) 6 then
   some (.inl none, (am_put (am_put M 13 x0 (Int32.toNatClampNeg (M 1 x0 1)) x1) 1 x0 1 ((M 1 x0 1) + 1)))
  else none := (rfl)
theorem eX1_addReading_0 {n : Nat} {x0 : Nat} {x1 : Int32} {M : am_M} {res : am_O × am_M} (h : (if 6 ≤ (M 1 x0 1) then
   some (.inl none, M)
  else if am_in (M 1 x0 1) 6 then
   some (.inl none, (am_put (am_put M 13 x0 (Int32.toNatClampNeg (M 1 x0 1)) x1) 1 x0 1 ((M 1 x0 1) + 1)))
  else none) = some res) : rX1_addReading (n + 100) 0 [.inr (1, x0), .inl (.int x1)] [] M = some res := uX1_addReading ((gX1_addReading_0 (rX1_addReading n) x0 x1 M).trans h)
def rX1_sendToWash (n pc : Nat) (ls st : List am_V) (M : am_M) : am_R := am_run [] [] 0 am_X0 pX1_sendToWash n pc ls st M
def gX1_sendToWash (k : Nat → List am_V → List am_V → am_M → am_R) (pc : Nat) (ls st : List am_V) (M : am_M) : am_R := am_go [] [] 0 am_X0 pX1_sendToWash [] k 100 pc ls st M
theorem uX1_sendToWash {n pc : Nat} {ls st : List am_V} {M : am_M} {res : am_O × am_M} (h : gX1_sendToWash (rX1_sendToWash n) pc ls st M = some res) : rX1_sendToWash (n + 100) pc ls st M = some res := am_go_ok h
theorem eX1_sendToWash (x0 : Nat) (M : am_M) : fX1_sendToWash [.inr (1, x0)] M = rX1_sendToWash 100000 0 [.inr (1, x0)] [] M := am_meth_eq rfl rfl
set_option maxRecDepth 20000 in
theorem gX1_sendToWash_0 (k : Nat → List am_V → List am_V → am_M → am_R) (x0 : Nat) (M : am_M) : gX1_sendToWash k 0 [.inr (1, x0)] [] M =
  some (.inl none, (am_put (am_put (am_put M 1 x0 5 (-1)) 1 x0 9 0) 1 x0 8 3)) := (rfl)
theorem eX1_sendToWash_0 {n : Nat} {x0 : Nat} {M : am_M} {res : am_O × am_M} (h : (some (.inl none, (am_put (am_put (am_put M 1 x0 5 (-1)) 1 x0 9 0) 1 x0 8 3))) = some res) : rX1_sendToWash (n + 100) 0 [.inr (1, x0)] [] M = some res := uX1_sendToWash ((gX1_sendToWash_0 (rX1_sendToWash n) x0 M).trans h)
def rX2_append (n pc : Nat) (ls st : List am_V) (M : am_M) : am_R := am_run [] [] 0 am_X0 pX2_append n pc ls st M
def gX2_append (k : Nat → List am_V → List am_V → am_M → am_R) (pc : Nat) (ls st : List am_V) (M : am_M) : am_R := am_go [] [] 0 am_X0 pX2_append [11] k 100 pc ls st M
theorem uX2_append {n pc : Nat} {ls st : List am_V} {M : am_M} {res : am_O × am_M} (h : gX2_append (rX2_append n) pc ls st M = some res) : rX2_append (n + 100) pc ls st M = some res := am_go_ok h
theorem eX2_append (x0 : Nat) (x1 : Int32) (M : am_M) : fX2_append [.inr (2, x0), .inl (.int x1)] M = rX2_append 100000 0 [.inr (2, x0), .inl (.int x1), am_D] [] M := am_meth_eq rfl rfl
set_option maxRecDepth 20000 in
theorem gX2_append_0 (k : Nat → List am_V → List am_V → am_M → am_R) (x0 : Nat) (x1 : Int32) (M : am_M) : gX2_append k 0 [.inr (2, x0), .inl (.int x1), am_D] [] M =
  if (M 2 x0 1) = 10 then
   k 11 [.inr (2, x0), .inl (.int x1), .inl (.int 1)] [] M
  else if am_in (M 2 x0 1) 10 then
   some (.inl none, (am_put (am_put M 16 x0 (Int32.toNatClampNeg (M 2 x0 1)) x1) 2 x0 1 ((M 2 x0 1) + 1)))
  else none := (rfl)
theorem eX2_append_0 {n : Nat} {x0 : Nat} {x1 : Int32} {M : am_M} {res : am_O × am_M} (h : (if (M 2 x0 1) = 10 then
   rX2_append n 11 [.inr (2, x0), .inl (.int x1), .inl (.int 1)] [] M
  else if am_in (M 2 x0 1) 10 then
   some (.inl none, (am_put (am_put M 16 x0 (Int32.toNatClampNeg (M 2 x0 1)) x1) 2 x0 1 ((M 2 x0 1) + 1)))
  else none) = some res) : rX2_append (n + 100) 0 [.inr (2, x0), .inl (.int x1), am_D] [] M = some res := uX2_append ((gX2_append_0 (rX2_append n) x0 x1 M).trans h)
set_option maxRecDepth 20000 in
theorem gX2_append_11 (k : Nat → List am_V → List am_V → am_M → am_R) (x0 : Nat) (x1 : Int32) (x2 : Int32) (M : am_M) : gX2_append k 11 [.inr (2, x0), .inl (.int x1), .inl (.int x2)] [] M =
  if 10 ≤ x2 then
   if am_in ((am_put M 2 x0 1 ((M 2 x0 1) - 1)) 2 x0 1) 10 then
    some (.inl none, (am_put (am_put (am_put M 2 x0 1 ((M 2 x0 1) - 1)) 16 x0 (Int32.toNatClampNeg ((am_put M 2 x0 1 ((M 2 x0 1) - 1)) 2 x0 1)) x1) 2 x0 1 (((am_put M 2 x0 1 ((M 2 x0 1) - 1)) 2 x0 1) + 1)))
   else none
  else if am_in x2 10 then
   if am_in (x2 - 1) 10 then
    k 11 [.inr (2, x0), .inl (.int x1), .inl (.int (x2 + 1))] [] (am_put M 16 x0 (Int32.toNatClampNeg (x2 - 1)) (M 16 x0 (Int32.toNatClampNeg x2)))
   else none
  else none := (rfl)
theorem eX2_append_11 {n : Nat} {x0 : Nat} {x1 : Int32} {x2 : Int32} {M : am_M} {res : am_O × am_M} (h : (if 10 ≤ x2 then
   if am_in ((am_put M 2 x0 1 ((M 2 x0 1) - 1)) 2 x0 1) 10 then
    some (.inl none, (am_put (am_put (am_put M 2 x0 1 ((M 2 x0 1) - 1)) 16 x0 (Int32.toNatClampNeg ((am_put M 2 x0 1 ((M 2 x0 1) - 1)) 2 x0 1)) x1) 2 x0 1 (((am_put M 2 x0 1 ((M 2 x0 1) - 1)) 2 x0 1) + 1)))
   else none
  else if am_in x2 10 then
   if am_in (x2 - 1) 10 then
    rX2_append n 11 [.inr (2, x0), .inl (.int x1), .inl (.int (x2 + 1))] [] (am_put M 16 x0 (Int32.toNatClampNeg (x2 - 1)) (M 16 x0 (Int32.toNatClampNeg x2)))
   else none
  else none) = some res) : rX2_append (n + 100) 11 [.inr (2, x0), .inl (.int x1), .inl (.int x2)] [] M = some res := uX2_append ((gX2_append_11 (rX2_append n) x0 x1 x2 M).trans h)
def rX2_fromLatest (n pc : Nat) (ls st : List am_V) (M : am_M) : am_R := am_run [fX9_isWithin] [] 1 am_X0 pX2_fromLatest n pc ls st M
def gX2_fromLatest (k : Nat → List am_V → List am_V → am_M → am_R) (pc : Nat) (ls st : List am_V) (M : am_M) : am_R := am_go [fX9_isWithin] [] 1 am_X0 pX2_fromLatest [11] k 100 pc ls st M
theorem uX2_fromLatest {n pc : Nat} {ls st : List am_V} {M : am_M} {res : am_O × am_M} (h : gX2_fromLatest (rX2_fromLatest n) pc ls st M = some res) : rX2_fromLatest (n + 100) pc ls st M = some res := am_go_ok h
theorem eX2_fromLatest (x0 : Nat) (x1 : Int32) (M : am_M) : fX2_fromLatest [.inr (2, x0), .inl (.int x1)] M = rX2_fromLatest 100000 0 [.inr (2, x0), .inl (.int x1)] [] M := am_meth_eq rfl rfl
set_option maxRecDepth 20000 in
theorem gX2_fromLatest_0 (k : Nat → List am_V → List am_V → am_M → am_R) (x0 : Nat) (x1 : Int32) (M : am_M) : gX2_fromLatest k 0 [.inr (2, x0), .inl (.int x1)] [] M =
  am_ret [] 8 [] (k 11 [.inr (2, x0), .inl (.int x1)]) (fX9_isWithin [.inl (.int x1), .inl (.int 0), .inl (.int ((M 2 x0 1) - 1))] M) := (rfl)
theorem eX2_fromLatest_0 {n : Nat} {x0 : Nat} {x1 : Int32} {M : am_M} {res : am_O × am_M} (h : (am_ret [] 8 [] (rX2_fromLatest n 11 [.inr (2, x0), .inl (.int x1)]) (fX9_isWithin [.inl (.int x1), .inl (.int 0), .inl (.int ((M 2 x0 1) - 1))] M)) = some res) : rX2_fromLatest (n + 100) 0 [.inr (2, x0), .inl (.int x1)] [] M = some res := uX2_fromLatest ((gX2_fromLatest_0 (rX2_fromLatest n) x0 x1 M).trans h)
set_option maxRecDepth 20000 in
theorem gX2_fromLatest_11 (k : Nat → List am_V → List am_V → am_M → am_R) (x0 : Nat) (x1 : Int32) (y0 : Int32) (M : am_M) : gX2_fromLatest k 11 [.inr (2, x0), .inl (.int x1)] [.inl (.int y0)] M =
  if y0 = 0 then
   some (.inl (some (.inl (.int 0))), M)
  else if am_in (((M 2 x0 1) - 1) - x1) 10 then
   some (.inl (some (.inl (.int (M 16 x0 (Int32.toNatClampNeg (((M 2 x0 1) - 1) - x1)))))), M)
  else none := (rfl)
theorem eX2_fromLatest_11 {n : Nat} {x0 : Nat} {x1 : Int32} {y0 : Int32} {M : am_M} {res : am_O × am_M} (h : (if y0 = 0 then
   some (.inl (some (.inl (.int 0))), M)
  else if am_in (((M 2 x0 1) - 1) - x1) 10 then
   some (.inl (some (.inl (.int (M 16 x0 (Int32.toNatClampNeg (((M 2 x0 1) - 1) - x1)))))), M)
  else none) = some res) : rX2_fromLatest (n + 100) 11 [.inr (2, x0), .inl (.int x1)] [.inl (.int y0)] M = some res := uX2_fromLatest ((gX2_fromLatest_11 (rX2_fromLatest n) x0 x1 y0 M).trans h)
