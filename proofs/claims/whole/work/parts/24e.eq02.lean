/-! ===== the runs, piece by piece ===== -/
def rX2_above (n pc : Nat) (ls st : List am_V) (M : am_M) : am_R := am_run [fX2_fromLatest] [] 1 am_X0 pX2_above n pc ls st M
def gX2_above (k : Nat → List am_V → List am_V → am_M → am_R) (pc : Nat) (ls st : List am_V) (M : am_M) : am_R := am_go [fX2_fromLatest] [] 1 am_X0 pX2_above [6, 29] k 100 pc ls st M
theorem uX2_above {n pc : Nat} {ls st : List am_V} {M : am_M} {res : am_O × am_M} (h : gX2_above (rX2_above n) pc ls st M = some res) : rX2_above (n + 100) pc ls st M = some res := am_go_ok h
theorem eX2_above (x0 : Nat) (x1 : Int64) (x2 : Int32) (M : am_M) : fX2_above [.inr (2, x0), .inl (.long x1), .inl (.int x2)] M = rX2_above 100000 0 [.inr (2, x0), .inl (.long x1), am_D, .inl (.int x2), am_D, am_D] [] M := am_meth_eq rfl rfl
set_option maxRecDepth 20000 in
theorem gX2_above_0 (k : Nat → List am_V → List am_V → am_M → am_R) (x0 : Nat) (x1 : Int64) (x3 : Int32) (M : am_M) : gX2_above k 0 [.inr (2, x0), .inl (.long x1), am_D, .inl (.int x3), am_D, am_D] [] M =
  k 6 [.inr (2, x0), .inl (.long x1), am_D, .inl (.int x3), .inl (.int 0), .inl (.int 0)] [] M := (rfl)
theorem eX2_above_0 {n : Nat} {x0 : Nat} {x1 : Int64} {x3 : Int32} {M : am_M} {res : am_O × am_M} (h : (rX2_above n 6 [.inr (2, x0), .inl (.long x1), am_D, .inl (.int x3), .inl (.int 0), .inl (.int 0)] [] M) = some res) : rX2_above (n + 100) 0 [.inr (2, x0), .inl (.long x1), am_D, .inl (.int x3), am_D, am_D] [] M = some res := uX2_above ((gX2_above_0 (rX2_above n) x0 x1 x3 M).trans h)
set_option maxRecDepth 20000 in
theorem gX2_above_6 (k : Nat → List am_V → List am_V → am_M → am_R) (x0 : Nat) (x1 : Int64) (x3 : Int32) (x4 : Int32) (x5 : Int32) (M : am_M) : gX2_above k 6 [.inr (2, x0), .inl (.long x1), am_D, .inl (.int x3), .inl (.int x4), .inl (.int x5)] [] M =
  if x3 ≤ x5 then
   some (.inl (some (.inl (.int x4))), M)
  else if (M 2 x0 1) ≤ x5 then
   some (.inl (some (.inl (.int x4))), M)
  else am_ret [] 26 [.inl (.int x4)] (k 29 [.inr (2, x0), .inl (.long x1), am_D, .inl (.int x3), .inl (.int x4), .inl (.int x5)]) (fX2_fromLatest [.inr (2, x0), .inl (.int x5)] M) := (rfl)
theorem eX2_above_6 {n : Nat} {x0 : Nat} {x1 : Int64} {x3 : Int32} {x4 : Int32} {x5 : Int32} {M : am_M} {res : am_O × am_M} (h : (if x3 ≤ x5 then
   some (.inl (some (.inl (.int x4))), M)
  else if (M 2 x0 1) ≤ x5 then
   some (.inl (some (.inl (.int x4))), M)
  else am_ret [] 26 [.inl (.int x4)] (rX2_above n 29 [.inr (2, x0), .inl (.long x1), am_D, .inl (.int x3), .inl (.int x4), .inl (.int x5)]) (fX2_fromLatest [.inr (2, x0), .inl (.int x5)] M)) = some res) : rX2_above (n + 100) 6 [.inr (2, x0), .inl (.long x1), am_D, .inl (.int x3), .inl (.int x4), .inl (.int x5)] [] M = some res := uX2_above ((gX2_above_6 (rX2_above n) x0 x1 x3 x4 x5 M).trans h)
set_option maxRecDepth 20000 in
theorem gX2_above_29 (k : Nat → List am_V → List am_V → am_M → am_R) (x0 : Nat) (x1 : Int64) (x3 : Int32) (x4 : Int32) (x5 : Int32) (y0 : Int32) (y1 : Int32) (M : am_M) : gX2_above k 29 [.inr (2, x0), .inl (.long x1), am_D, .inl (.int x3), .inl (.int x4), .inl (.int x5)] [.inl (.int y0), .inl (.int y1)] M =
  if (lg_cmp (Int32.toInt64 y0) x1) ≤ 0 then
   k 6 [.inr (2, x0), .inl (.long x1), am_D, .inl (.int x3), .inl (.int (y1 + 0)), .inl (.int (x5 + 1))] [] M
  else k 6 [.inr (2, x0), .inl (.long x1), am_D, .inl (.int x3), .inl (.int (y1 + 1)), .inl (.int (x5 + 1))] [] M := (rfl)
theorem eX2_above_29 {n : Nat} {x0 : Nat} {x1 : Int64} {x3 : Int32} {x4 : Int32} {x5 : Int32} {y0 : Int32} {y1 : Int32} {M : am_M} {res : am_O × am_M} (h : (if (lg_cmp (Int32.toInt64 y0) x1) ≤ 0 then
   rX2_above n 6 [.inr (2, x0), .inl (.long x1), am_D, .inl (.int x3), .inl (.int (y1 + 0)), .inl (.int (x5 + 1))] [] M
  else rX2_above n 6 [.inr (2, x0), .inl (.long x1), am_D, .inl (.int x3), .inl (.int (y1 + 1)), .inl (.int (x5 + 1))] [] M) = some res) : rX2_above (n + 100) 29 [.inr (2, x0), .inl (.long x1), am_D, .inl (.int x3), .inl (.int x4), .inl (.int x5)] [.inl (.int y0), .inl (.int y1)] M = some res := uX2_above ((gX2_above_29 (rX2_above n) x0 x1 x3 x4 x5 y0 y1 M).trans h)
def rX2_below (n pc : Nat) (ls st : List am_V) (M : am_M) : am_R := am_run [fX2_fromLatest] [] 1 am_X0 pX2_below n pc ls st M
def gX2_below (k : Nat → List am_V → List am_V → am_M → am_R) (pc : Nat) (ls st : List am_V) (M : am_M) : am_R := am_go [fX2_fromLatest] [] 1 am_X0 pX2_below [6, 29] k 100 pc ls st M
theorem uX2_below {n pc : Nat} {ls st : List am_V} {M : am_M} {res : am_O × am_M} (h : gX2_below (rX2_below n) pc ls st M = some res) : rX2_below (n + 100) pc ls st M = some res := am_go_ok h
theorem eX2_below (x0 : Nat) (x1 : Int64) (x2 : Int32) (M : am_M) : fX2_below [.inr (2, x0), .inl (.long x1), .inl (.int x2)] M = rX2_below 100000 0 [.inr (2, x0), .inl (.long x1), am_D, .inl (.int x2), am_D, am_D] [] M := am_meth_eq rfl rfl
set_option maxRecDepth 20000 in
theorem gX2_below_0 (k : Nat → List am_V → List am_V → am_M → am_R) (x0 : Nat) (x1 : Int64) (x3 : Int32) (M : am_M) : gX2_below k 0 [.inr (2, x0), .inl (.long x1), am_D, .inl (.int x3), am_D, am_D] [] M =
  k 6 [.inr (2, x0), .inl (.long x1), am_D, .inl (.int x3), .inl (.int 0), .inl (.int 0)] [] M := (rfl)
theorem eX2_below_0 {n : Nat} {x0 : Nat} {x1 : Int64} {x3 : Int32} {M : am_M} {res : am_O × am_M} (h : (rX2_below n 6 [.inr (2, x0), .inl (.long x1), am_D, .inl (.int x3), .inl (.int 0), .inl (.int 0)] [] M) = some res) : rX2_below (n + 100) 0 [.inr (2, x0), .inl (.long x1), am_D, .inl (.int x3), am_D, am_D] [] M = some res := uX2_below ((gX2_below_0 (rX2_below n) x0 x1 x3 M).trans h)
set_option maxRecDepth 20000 in
theorem gX2_below_6 (k : Nat → List am_V → List am_V → am_M → am_R) (x0 : Nat) (x1 : Int64) (x3 : Int32) (x4 : Int32) (x5 : Int32) (M : am_M) : gX2_below k 6 [.inr (2, x0), .inl (.long x1), am_D, .inl (.int x3), .inl (.int x4), .inl (.int x5)] [] M =
  if x3 ≤ x5 then
   some (.inl (some (.inl (.int x4))), M)
  else if (M 2 x0 1) ≤ x5 then
   some (.inl (some (.inl (.int x4))), M)
  else am_ret [] 26 [.inl (.int x4)] (k 29 [.inr (2, x0), .inl (.long x1), am_D, .inl (.int x3), .inl (.int x4), .inl (.int x5)]) (fX2_fromLatest [.inr (2, x0), .inl (.int x5)] M) := (rfl)
theorem eX2_below_6 {n : Nat} {x0 : Nat} {x1 : Int64} {x3 : Int32} {x4 : Int32} {x5 : Int32} {M : am_M} {res : am_O × am_M} (h : (if x3 ≤ x5 then
   some (.inl (some (.inl (.int x4))), M)
  else if (M 2 x0 1) ≤ x5 then
   some (.inl (some (.inl (.int x4))), M)
  else am_ret [] 26 [.inl (.int x4)] (rX2_below n 29 [.inr (2, x0), .inl (.long x1), am_D, .inl (.int x3), .inl (.int x4), .inl (.int x5)]) (fX2_fromLatest [.inr (2, x0), .inl (.int x5)] M)) = some res) : rX2_below (n + 100) 6 [.inr (2, x0), .inl (.long x1), am_D, .inl (.int x3), .inl (.int x4), .inl (.int x5)] [] M = some res := uX2_below ((gX2_below_6 (rX2_below n) x0 x1 x3 x4 x5 M).trans h)
set_option maxRecDepth 20000 in
theorem gX2_below_29 (k : Nat → List am_V → List am_V → am_M → am_R) (x0 : Nat) (x1 : Int64) (x3 : Int32) (x4 : Int32) (x5 : Int32) (y0 : Int32) (y1 : Int32) (M : am_M) : gX2_below k 29 [.inr (2, x0), .inl (.long x1), am_D, .inl (.int x3), .inl (.int x4), .inl (.int x5)] [.inl (.int y0), .inl (.int y1)] M =
  if 0 ≤ (lg_cmp (Int32.toInt64 y0) x1) then
   k 6 [.inr (2, x0), .inl (.long x1), am_D, .inl (.int x3), .inl (.int (y1 + 0)), .inl (.int (x5 + 1))] [] M
  else k 6 [.inr (2, x0), .inl (.long x1), am_D, .inl (.int x3), .inl (.int (y1 + 1)), .inl (.int (x5 + 1))] [] M := (rfl)
theorem eX2_below_29 {n : Nat} {x0 : Nat} {x1 : Int64} {x3 : Int32} {x4 : Int32} {x5 : Int32} {y0 : Int32} {y1 : Int32} {M : am_M} {res : am_O × am_M} (h : (if 0 ≤ (lg_cmp (Int32.toInt64 y0) x1) then
   rX2_below n 6 [.inr (2, x0), .inl (.long x1), am_D, .inl (.int x3), .inl (.int (y1 + 0)), .inl (.int (x5 + 1))] [] M
  else rX2_below n 6 [.inr (2, x0), .inl (.long x1), am_D, .inl (.int x3), .inl (.int (y1 + 1)), .inl (.int (x5 + 1))] [] M) = some res) : rX2_below (n + 100) 29 [.inr (2, x0), .inl (.long x1), am_D, .inl (.int x3), .inl (.int x4), .inl (.int x5)] [.inl (.int y0), .inl (.int y1)] M = some res := uX2_below ((gX2_below_29 (rX2_below n) x0 x1 x3 x4 x5 y0 y1 M).trans h)
def rX3_append (n pc : Nat) (ls st : List am_V) (M : am_M) : am_R := am_run [] [] 0 am_X0 pX3_append n pc ls st M
def gX3_append (k : Nat → List am_V → List am_V → am_M → am_R) (pc : Nat) (ls st : List am_V) (M : am_M) : am_R := am_go [] [] 0 am_X0 pX3_append [] k 100 pc ls st M
theorem uX3_append {n pc : Nat} {ls st : List am_V} {M : am_M} {res : am_O × am_M} (h : gX3_append (rX3_append n) pc ls st M = some res) : rX3_append (n + 100) pc ls st M = some res := am_go_ok h
theorem eX3_append (x1 : Int32) (M : am_M) : fX3_append [.inr (3, 0), .inl (.int x1)] M = rX3_append 100000 0 [.inr (3, 0), .inl (.int x1)] [] M := am_meth_eq rfl rfl
set_option maxRecDepth 20000 in
theorem gX3_append_0 (k : Nat → List am_V → List am_V → am_M → am_R) (x1 : Int32) (M : am_M) : gX3_append k 0 [.inr (3, 0), .inl (.int x1)] [] M =
  if 40 ≤ (M 3 0 1) then
   some (.inl none, M)
  else if am_in (M 3 0 1) 40 then
   some (.inl none, (am_put (am_put M 17 0 (Int32.toNatClampNeg (M 3 0 1)) x1) 3 0 1 ((M 3 0 1) + 1)))
  else none := (rfl)
theorem eX3_append_0 {n : Nat} {x1 : Int32} {M : am_M} {res : am_O × am_M} (h : (if 40 ≤ (M 3 0 1) then
   some (.inl none, M)
  else if am_in (M 3 0 1) 40 then
   some (.inl none, (am_put (am_put M 17 0 (Int32.toNatClampNeg (M 3 0 1)) x1) 3 0 1 ((M 3 0 1) + 1)))
  else none) = some res) : rX3_append (n + 100) 0 [.inr (3, 0), .inl (.int x1)] [] M = some res := uX3_append ((gX3_append_0 (rX3_append n) x1 M).trans h)
def rX3_dropFirst (n pc : Nat) (ls st : List am_V) (M : am_M) : am_R := am_run [] [] 0 am_X0 pX3_dropFirst n pc ls st M
def gX3_dropFirst (k : Nat → List am_V → List am_V → am_M → am_R) (pc : Nat) (ls st : List am_V) (M : am_M) : am_R := am_go [] [] 0 am_X0 pX3_dropFirst [2] k 100 pc ls st M
theorem uX3_dropFirst {n pc : Nat} {ls st : List am_V} {M : am_M} {res : am_O × am_M} (h : gX3_dropFirst (rX3_dropFirst n) pc ls st M = some res) : rX3_dropFirst (n + 100) pc ls st M = some res := am_go_ok h
theorem eX3_dropFirst (x1 : Int32) (M : am_M) : fX3_dropFirst [.inr (3, 0), .inl (.int x1)] M = rX3_dropFirst 100000 0 [.inr (3, 0), .inl (.int x1), am_D] [] M := am_meth_eq rfl rfl
set_option maxRecDepth 20000 in
theorem gX3_dropFirst_0 (k : Nat → List am_V → List am_V → am_M → am_R) (x1 : Int32) (M : am_M) : gX3_dropFirst k 0 [.inr (3, 0), .inl (.int x1), am_D] [] M =
  k 2 [.inr (3, 0), .inl (.int x1), .inl (.int x1)] [] M := (rfl)
theorem eX3_dropFirst_0 {n : Nat} {x1 : Int32} {M : am_M} {res : am_O × am_M} (h : (rX3_dropFirst n 2 [.inr (3, 0), .inl (.int x1), .inl (.int x1)] [] M) = some res) : rX3_dropFirst (n + 100) 0 [.inr (3, 0), .inl (.int x1), am_D] [] M = some res := uX3_dropFirst ((gX3_dropFirst_0 (rX3_dropFirst n) x1 M).trans h)
set_option maxRecDepth 20000 in
theorem gX3_dropFirst_2 (k : Nat → List am_V → List am_V → am_M → am_R) (x1 : Int32) (x2 : Int32) (M : am_M) : gX3_dropFirst k 2 [.inr (3, 0), .inl (.int x1), .inl (.int x2)] [] M =
  if (M 3 0 1) ≤ x2 then
   some (.inl none, (am_put M 3 0 1 ((M 3 0 1) - x1)))
  else if am_in x2 40 then
   if am_in (x2 - x1) 40 then
    k 2 [.inr (3, 0), .inl (.int x1), .inl (.int (x2 + 1))] [] (am_put M 17 0 (Int32.toNatClampNeg (x2 - x1)) (M 17 0 (Int32.toNatClampNeg x2)))
   else none
  else none := (rfl)
theorem eX3_dropFirst_2 {n : Nat} {x1 : Int32} {x2 : Int32} {M : am_M} {res : am_O × am_M} (h : (if (M 3 0 1) ≤ x2 then
   some (.inl none, (am_put M 3 0 1 ((M 3 0 1) - x1)))
  else if am_in x2 40 then
   if am_in (x2 - x1) 40 then
    rX3_dropFirst n 2 [.inr (3, 0), .inl (.int x1), .inl (.int (x2 + 1))] [] (am_put M 17 0 (Int32.toNatClampNeg (x2 - x1)) (M 17 0 (Int32.toNatClampNeg x2)))
   else none
  else none) = some res) : rX3_dropFirst (n + 100) 2 [.inr (3, 0), .inl (.int x1), .inl (.int x2)] [] M = some res := uX3_dropFirst ((gX3_dropFirst_2 (rX3_dropFirst n) x1 x2 M).trans h)
def rX4_place (n pc : Nat) (ls st : List am_V) (M : am_M) : am_R := am_run [] [] 0 am_X0 pX4_place n pc ls st M
def gX4_place (k : Nat → List am_V → List am_V → am_M → am_R) (pc : Nat) (ls st : List am_V) (M : am_M) : am_R := am_go [] [] 0 am_X0 pX4_place [] k 100 pc ls st M
theorem uX4_place {n pc : Nat} {ls st : List am_V} {M : am_M} {res : am_O × am_M} (h : gX4_place (rX4_place n) pc ls st M = some res) : rX4_place (n + 100) pc ls st M = some res := am_go_ok h
theorem eX4_place (x0 : Nat) (x1 : Int32) (x2 : Int32) (x3 : Int32) (M : am_M) : fX4_place [.inr (4, x0), .inl (.int x1), .inl (.int x2), .inl (.int x3)] M = rX4_place 100000 0 [.inr (4, x0), .inl (.int x1), .inl (.int x2), .inl (.int x3)] [] M := am_meth_eq rfl rfl
set_option maxRecDepth 20000 in
theorem gX4_place_0 (k : Nat → List am_V → List am_V → am_M → am_R) (x0 : Nat) (x1 : Int32) (x2 : Int32) (x3 : Int32) (M : am_M) : gX4_place k 0 [.inr (4, x0), .inl (.int x1), .inl (.int x2), .inl (.int x3)] [] M =
  if am_b x3 = x3 then
   some (.inl none, (am_put (am_put (am_put M 4 x0 0 x1) 4 x0 1 x2) 4 x0 2 x3))
  else none := (rfl)
theorem eX4_place_0 {n : Nat} {x0 : Nat} {x1 : Int32} {x2 : Int32} {x3 : Int32} {M : am_M} {res : am_O × am_M} (h : (if am_b x3 = x3 then
   some (.inl none, (am_put (am_put (am_put M 4 x0 0 x1) 4 x0 1 x2) 4 x0 2 x3))
  else none) = some res) : rX4_place (n + 100) 0 [.inr (4, x0), .inl (.int x1), .inl (.int x2), .inl (.int x3)] [] M = some res := uX4_place ((gX4_place_0 (rX4_place n) x0 x1 x2 x3 M).trans h)
def rX4_isOpen (n pc : Nat) (ls st : List am_V) (M : am_M) : am_R := am_run [] [] 2 am_X0 pX4_isOpen n pc ls st M
def gX4_isOpen (k : Nat → List am_V → List am_V → am_M → am_R) (pc : Nat) (ls st : List am_V) (M : am_M) : am_R := am_go [] [] 2 am_X0 pX4_isOpen [] k 100 pc ls st M
theorem uX4_isOpen {n pc : Nat} {ls st : List am_V} {M : am_M} {res : am_O × am_M} (h : gX4_isOpen (rX4_isOpen n) pc ls st M = some res) : rX4_isOpen (n + 100) pc ls st M = some res := am_go_ok h
theorem eX4_isOpen (x0 : Nat) (M : am_M) : fX4_isOpen [.inr (4, x0)] M = rX4_isOpen 100000 0 [.inr (4, x0)] [] M := am_meth_eq rfl rfl
set_option maxRecDepth 20000 in
theorem gX4_isOpen_0 (k : Nat → List am_V → List am_V → am_M → am_R) (x0 : Nat) (M : am_M) : gX4_isOpen k 0 [.inr (4, x0)] [] M =
  if (M 4 x0 3) = 0 then
   some (.inl (some (.inl (.int 1))), M)
  else if (M 4 x0 3) = 1 then
   some (.inl (some (.inl (.int 1))), M)
  else some (.inl (some (.inl (.int 0))), M) := (rfl)
theorem eX4_isOpen_0 {n : Nat} {x0 : Nat} {M : am_M} {res : am_O × am_M} (h : (if (M 4 x0 3) = 0 then
   some (.inl (some (.inl (.int 1))), M)
  else if (M 4 x0 3) = 1 then
   some (.inl (some (.inl (.int 1))), M)
  else some (.inl (some (.inl (.int 0))), M)) = some res) : rX4_isOpen (n + 100) 0 [.inr (4, x0)] [] M = some res := uX4_isOpen ((gX4_isOpen_0 (rX4_isOpen n) x0 M).trans h)
def rX4_startRun (n pc : Nat) (ls st : List am_V) (M : am_M) : am_R := am_run [] [] 0 am_X0 pX4_startRun n pc ls st M
def gX4_startRun (k : Nat → List am_V → List am_V → am_M → am_R) (pc : Nat) (ls st : List am_V) (M : am_M) : am_R := am_go [] [] 0 am_X0 pX4_startRun [] k 100 pc ls st M
theorem uX4_startRun {n pc : Nat} {ls st : List am_V} {M : am_M} {res : am_O × am_M} (h : gX4_startRun (rX4_startRun n) pc ls st M = some res) : rX4_startRun (n + 100) pc ls st M = some res := am_go_ok h
theorem eX4_startRun (x0 : Nat) (x1 : Int32) (M : am_M) : fX4_startRun [.inr (4, x0), .inl (.int x1)] M = rX4_startRun 100000 0 [.inr (4, x0), .inl (.int x1)] [] M := am_meth_eq rfl rfl
set_option maxRecDepth 20000 in
theorem gX4_startRun_0 (k : Nat → List am_V → List am_V → am_M → am_R) (x0 : Nat) (x1 : Int32) (M : am_M) : gX4_startRun k 0 [.inr (4, x0), .inl (.int x1)] [] M =
  some (.inl none, (am_put (am_put (am_put M 4 x0 3 1) 4 x0 5 (((am_put M 4 x0 3 1) 4 x0 5) + 1)) 4 x0 7 x1)) := (rfl)
theorem eX4_startRun_0 {n : Nat} {x0 : Nat} {x1 : Int32} {M : am_M} {res : am_O × am_M} (h : (some (.inl none, (am_put (am_put (am_put M 4 x0 3 1) 4 x0 5 (((am_put M 4 x0 3 1) 4 x0 5) + 1)) 4 x0 7 x1))) = some res) : rX4_startRun (n + 100) 0 [.inr (4, x0), .inl (.int x1)] [] M = some res := uX4_startRun ((gX4_startRun_0 (rX4_startRun n) x0 x1 M).trans h)
def rX4_waitAgain (n pc : Nat) (ls st : List am_V) (M : am_M) : am_R := am_run [] [] 0 am_X0 pX4_waitAgain n pc ls st M
def gX4_waitAgain (k : Nat → List am_V → List am_V → am_M → am_R) (pc : Nat) (ls st : List am_V) (M : am_M) : am_R := am_go [] [] 0 am_X0 pX4_waitAgain [] k 100 pc ls st M
theorem uX4_waitAgain {n pc : Nat} {ls st : List am_V} {M : am_M} {res : am_O × am_M} (h : gX4_waitAgain (rX4_waitAgain n) pc ls st M = some res) : rX4_waitAgain (n + 100) pc ls st M = some res := am_go_ok h
theorem eX4_waitAgain (x0 : Nat) (x1 : Int32) (M : am_M) : fX4_waitAgain [.inr (4, x0), .inl (.int x1)] M = rX4_waitAgain 100000 0 [.inr (4, x0), .inl (.int x1)] [] M := am_meth_eq rfl rfl
set_option maxRecDepth 20000 in
theorem gX4_waitAgain_0 (k : Nat → List am_V → List am_V → am_M → am_R) (x0 : Nat) (x1 : Int32) (M : am_M) : gX4_waitAgain k 0 [.inr (4, x0), .inl (.int x1)] [] M =
  if am_b x1 = x1 then
   some (.inl none, (am_put (am_put (am_put M 4 x0 3 0) 4 x0 7 (-1)) 4 x0 6 x1))
  else none := (rfl)
theorem eX4_waitAgain_0 {n : Nat} {x0 : Nat} {x1 : Int32} {M : am_M} {res : am_O × am_M} (h : (if am_b x1 = x1 then
   some (.inl none, (am_put (am_put (am_put M 4 x0 3 0) 4 x0 7 (-1)) 4 x0 6 x1))
  else none) = some res) : rX4_waitAgain (n + 100) 0 [.inr (4, x0), .inl (.int x1)] [] M = some res := uX4_waitAgain ((gX4_waitAgain_0 (rX4_waitAgain n) x0 x1 M).trans h)
