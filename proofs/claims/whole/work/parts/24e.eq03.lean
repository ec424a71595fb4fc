/-! ===== the runs, piece by piece ===== -/
def rX8_fill (n pc : Nat) (ls st : List am_V) (M : am_M) : am_R := am_run [] [] 0 am_X0 pX8_fill n pc ls st M
def gX8_fill (k : Nat → List am_V → List am_V → am_M → am_R) (pc : Nat) (ls st : List am_V) (M : am_M) : am_R := am_go [] [] 0 am_X0 pX8_fill [] k 100 pc ls st M
theorem uX8_fill {n pc : Nat} {ls st : List am_V} {M : am_M} {res : am_O × am_M} (h : gX8_fill (rX8_fill n) pc ls st M = some res) : rX8_fill (n + 100) pc ls st M = some res := am_go_ok h
theorem eX8_fill (x0 : Nat) (x1 : Int32) (x2 : Int32) (x3 : Int32) (M : am_M) : fX8_fill [.inr (8, x0), .inl (.int x1), .inl (.int x2), .inl (.int x3)] M = rX8_fill 100000 0 [.inr (8, x0), .inl (.int x1), .inl (.int x2), .inl (.int x3)] [] M := am_meth_eq rfl rfl
set_option maxRecDepth 20000 in
theorem gX8_fill_0 (k : Nat → List am_V → List am_V → am_M → am_R) (x0 : Nat) (x1 : Int32) (x2 : Int32) (x3 : Int32) (M : am_M) : gX8_fill k 0 [.inr (8, x0), .inl (.int x1), .inl (.int x2), .inl (.int x3)] [] M =
  if am_b x2 = x2 then
   some (.inl none, (am_put (am_put (am_put M 8 x0 0 x1) 8 x0 1 x2) 8 x0 2 x3))
  else none := (rfl)
theorem eX8_fill_0 {n : Nat} {x0 : Nat} {x1 : Int32} {x2 : Int32} {x3 : Int32} {M : am_M} {res : am_O × am_M} (h : (if am_b x2 = x2 then
   some (.inl none, (am_put (am_put (am_put M 8 x0 0 x1) 8 x0 1 x2) 8 x0 2 x3))
  else none) = some res) : rX8_fill (n + 100) 0 [.inr (8, x0), .inl (.int x1), .inl (.int x2), .inl (.int x3)] [] M = some res := uX8_fill ((gX8_fill_0 (rX8_fill n) x0 x1 x2 x3 M).trans h)
def rX9_isOrdered (n pc : Nat) (ls st : List am_V) (M : am_M) : am_R := am_run [fX4_isOpen] [] 2 am_X0 pX9_isOrdered n pc ls st M
def gX9_isOrdered (F0 : am_F) (k : Nat → List am_V → List am_V → am_M → am_R) (pc : Nat) (ls st : List am_V) (M : am_M) : am_R := am_go [F0] [] 2 am_X0 pX9_isOrdered [2, 19] k 100 pc ls st M
theorem uX9_isOrdered {n pc : Nat} {ls st : List am_V} {M : am_M} {res : am_O × am_M} (h : gX9_isOrdered fX4_isOpen (rX9_isOrdered n) pc ls st M = some res) : rX9_isOrdered (n + 100) pc ls st M = some res := am_go_ok h
theorem eX9_isOrdered (x1 : Int32) (M : am_M) : fX9_isOrdered [.inr (9, 0), .inl (.int x1)] M = rX9_isOrdered 100000 0 [.inr (9, 0), .inl (.int x1), am_D] [] M := am_meth_eq rfl rfl
set_option maxRecDepth 20000 in
theorem gX9_isOrdered_0 (F0 : am_F) (k : Nat → List am_V → List am_V → am_M → am_R) (x1 : Int32) (M : am_M) : gX9_isOrdered F0 k 0 [.inr (9, 0), .inl (.int x1), am_D] [] M =
  k 2 [.inr (9, 0), .inl (.int x1), .inl (.int 0)] [] M := (rfl)
theorem eX9_isOrdered_0 {n : Nat} {x1 : Int32} {M : am_M} {res : am_O × am_M} (h : (rX9_isOrdered n 2 [.inr (9, 0), .inl (.int x1), .inl (.int 0)] [] M) = some res) : rX9_isOrdered (n + 100) 0 [.inr (9, 0), .inl (.int x1), am_D] [] M = some res := uX9_isOrdered ((gX9_isOrdered_0 fX4_isOpen (rX9_isOrdered n) x1 M).trans h)
set_option maxRecDepth 20000 in
theorem gX9_isOrdered_2 (F0 : am_F) (k : Nat → List am_V → List am_V → am_M → am_R) (x1 : Int32) (x2 : Int32) (M : am_M) : gX9_isOrdered F0 k 2 [.inr (9, 0), .inl (.int x1), .inl (.int x2)] [] M =
  if (M 9 0 7) ≤ x2 then
   some (.inl (some (.inl (.int 0))), M)
  else if am_in x2 40 then
   am_ret [] 16 [] (k 19 [.inr (9, 0), .inl (.int x1), .inl (.int x2)]) (F0 [.inr (4, (Int32.toNatClampNeg x2))] M)
  else none := (rfl)
theorem eX9_isOrdered_2 {n : Nat} {x1 : Int32} {x2 : Int32} {M : am_M} {res : am_O × am_M} (h : (if (M 9 0 7) ≤ x2 then
   some (.inl (some (.inl (.int 0))), M)
  else if am_in x2 40 then
   am_ret [] 16 [] (rX9_isOrdered n 19 [.inr (9, 0), .inl (.int x1), .inl (.int x2)]) (fX4_isOpen [.inr (4, (Int32.toNatClampNeg x2))] M)
  else none) = some res) : rX9_isOrdered (n + 100) 2 [.inr (9, 0), .inl (.int x1), .inl (.int x2)] [] M = some res := uX9_isOrdered ((gX9_isOrdered_2 fX4_isOpen (rX9_isOrdered n) x1 x2 M).trans h)
set_option maxRecDepth 20000 in
theorem gX9_isOrdered_19 (F0 : am_F) (k : Nat → List am_V → List am_V → am_M → am_R) (x1 : Int32) (x2 : Int32) (y0 : Int32) (M : am_M) : gX9_isOrdered F0 k 19 [.inr (9, 0), .inl (.int x1), .inl (.int x2)] [.inl (.int y0)] M =
  if y0 = 0 then
   k 2 [.inr (9, 0), .inl (.int x1), .inl (.int (x2 + 1))] [] M
  else if am_in x2 40 then
   if (M 4 (Int32.toNatClampNeg x2) 1) = x1 then
    some (.inl (some (.inl (.int 1))), M)
   else k 2 [.inr (9, 0), .inl (.int x1), .inl (.int (x2 + 1))] [] M
  else none := (rfl)
theorem eX9_isOrdered_19 {n : Nat} {x1 : Int32} {x2 : Int32} {y0 : Int32} {M : am_M} {res : am_O × am_M} (h : (if y0 = 0 then
   rX9_isOrdered n 2 [.inr (9, 0), .inl (.int x1), .inl (.int (x2 + 1))] [] M
  else if am_in x2 40 then
   if (M 4 (Int32.toNatClampNeg x2) 1) = x1 then
    some (.inl (some (.inl (.int 1))), M)
   else rX9_isOrdered n 2 [.inr (9, 0), .inl (.int x1), .inl (.int (x2 + 1))] [] M
  else none) = some res) : rX9_isOrdered (n + 100) 19 [.inr (9, 0), .inl (.int x1), .inl (.int x2)] [.inl (.int y0)] M = some res := uX9_isOrdered ((gX9_isOrdered_19 fX4_isOpen (rX9_isOrdered n) x1 x2 y0 M).trans h)
def rX9_define (n pc : Nat) (ls st : List am_V) (M : am_M) : am_R := am_run [fX9_isWithin, fX6_accepts, fX9_demandArgument, fX9_isOrdered, fX9_demandState] [] 0 am_X0 pX9_define n pc ls st M
def gX9_define (F0 F1 F2 F3 F4 : am_F) (k : Nat → List am_V → List am_V → am_M → am_R) (pc : Nat) (ls st : List am_V) (M : am_M) : am_R := am_go [F0, F1, F2, F3, F4] [] 0 am_X0 pX9_define [6, 14, 25, 30, 41] k 100 pc ls st M
theorem uX9_define {n pc : Nat} {ls st : List am_V} {M : am_M} {res : am_O × am_M} (h : gX9_define fX9_isWithin fX6_accepts fX9_demandArgument fX9_isOrdered fX9_demandState (rX9_define n) pc ls st M = some res) : rX9_define (n + 100) pc ls st M = some res := am_go_ok h
theorem eX9_define (x1 : Int32) (x2 : Int32) (x3 : Int32) (M : am_M) : fX9_define [.inr (9, 0), .inl (.int x1), .inl (.int x2), .inl (.int x3)] M = rX9_define 100000 0 [.inr (9, 0), .inl (.int x1), .inl (.int x2), .inl (.int x3), am_D] [] M := am_meth_eq rfl rfl
set_option maxRecDepth 20000 in
theorem gX9_define_0 (F0 F1 F2 F3 F4 : am_F) (k : Nat → List am_V → List am_V → am_M → am_R) (x1 : Int32) (x2 : Int32) (x3 : Int32) (M : am_M) : gX9_define F0 F1 F2 F3 F4 k 0 [.inr (9, 0), .inl (.int x1), .inl (.int x2), .inl (.int x3), am_D] [] M =
  am_ret [] 3 [] (k 6 [.inr (9, 0), .inl (.int x1), .inl (.int x2), .inl (.int x3), am_D]) (F0 [.inl (.int x1), .inl (.int 0), .inl (.int 3)] M) := (rfl)
theorem eX9_define_0 {n : Nat} {x1 : Int32} {x2 : Int32} {x3 : Int32} {M : am_M} {res : am_O × am_M} (h : (am_ret [] 3 [] (rX9_define n 6 [.inr (9, 0), .inl (.int x1), .inl (.int x2), .inl (.int x3), am_D]) (fX9_isWithin [.inl (.int x1), .inl (.int 0), .inl (.int 3)] M)) = some res) : rX9_define (n + 100) 0 [.inr (9, 0), .inl (.int x1), .inl (.int x2), .inl (.int x3), am_D] [] M = some res := uX9_define ((gX9_define_0 fX9_isWithin fX6_accepts fX9_demandArgument fX9_isOrdered fX9_demandState (rX9_define n) x1 x2 x3 M).trans h)
set_option maxRecDepth 20000 in
theorem gX9_define_6 (F0 F1 F2 F3 F4 : am_F) (k : Nat → List am_V → List am_V → am_M → am_R) (x1 : Int32) (x2 : Int32) (x3 : Int32) (y0 : Int32) (M : am_M) : gX9_define F0 F1 F2 F3 F4 k 6 [.inr (9, 0), .inl (.int x1), .inl (.int x2), .inl (.int x3), am_D] [.inl (.int y0)] M =
  if y0 = 0 then
   am_ret [] 22 [] (k 25 [.inr (9, 0), .inl (.int x1), .inl (.int x2), .inl (.int x3), am_D]) (F2 [.inl (.int 0)] M)
  else am_ret [] 11 [] (k 14 [.inr (9, 0), .inl (.int x1), .inl (.int x2), .inl (.int x3), am_D]) (F1 [.inl (.int x2), .inl (.int x3)] M) := (rfl)
theorem eX9_define_6 {n : Nat} {x1 : Int32} {x2 : Int32} {x3 : Int32} {y0 : Int32} {M : am_M} {res : am_O × am_M} (h : (if y0 = 0 then
   am_ret [] 22 [] (rX9_define n 25 [.inr (9, 0), .inl (.int x1), .inl (.int x2), .inl (.int x3), am_D]) (fX9_demandArgument [.inl (.int 0)] M)
  else am_ret [] 11 [] (rX9_define n 14 [.inr (9, 0), .inl (.int x1), .inl (.int x2), .inl (.int x3), am_D]) (fX6_accepts [.inl (.int x2), .inl (.int x3)] M)) = some res) : rX9_define (n + 100) 6 [.inr (9, 0), .inl (.int x1), .inl (.int x2), .inl (.int x3), am_D] [.inl (.int y0)] M = some res := uX9_define ((gX9_define_6 fX9_isWithin fX6_accepts fX9_demandArgument fX9_isOrdered fX9_demandState (rX9_define n) x1 x2 x3 y0 M).trans h)
set_option maxRecDepth 20000 in
theorem gX9_define_25 (F0 F1 F2 F3 F4 : am_F) (k : Nat → List am_V → List am_V → am_M → am_R) (x1 : Int32) (x2 : Int32) (x3 : Int32) (M : am_M) : gX9_define F0 F1 F2 F3 F4 k 25 [.inr (9, 0), .inl (.int x1), .inl (.int x2), .inl (.int x3), am_D] [] M =
  am_ret [] 27 [] (k 30 [.inr (9, 0), .inl (.int x1), .inl (.int x2), .inl (.int x3), am_D]) (F3 [.inr (9, 0), .inl (.int x1)] M) := (rfl)
theorem eX9_define_25 {n : Nat} {x1 : Int32} {x2 : Int32} {x3 : Int32} {M : am_M} {res : am_O × am_M} (h : (am_ret [] 27 [] (rX9_define n 30 [.inr (9, 0), .inl (.int x1), .inl (.int x2), .inl (.int x3), am_D]) (fX9_isOrdered [.inr (9, 0), .inl (.int x1)] M)) = some res) : rX9_define (n + 100) 25 [.inr (9, 0), .inl (.int x1), .inl (.int x2), .inl (.int x3), am_D] [] M = some res := uX9_define ((gX9_define_25 fX9_isWithin fX6_accepts fX9_demandArgument fX9_isOrdered fX9_demandState (rX9_define n) x1 x2 x3 M).trans h)
set_option maxRecDepth 20000 in
theorem gX9_define_14 (F0 F1 F2 F3 F4 : am_F) (k : Nat → List am_V → List am_V → am_M → am_R) (x1 : Int32) (x2 : Int32) (x3 : Int32) (y0 : Int32) (M : am_M) : gX9_define F0 F1 F2 F3 F4 k 14 [.inr (9, 0), .inl (.int x1), .inl (.int x2), .inl (.int x3), am_D] [.inl (.int y0)] M =
  if y0 = 0 then
   am_ret [] 22 [] (k 25 [.inr (9, 0), .inl (.int x1), .inl (.int x2), .inl (.int x3), am_D]) (F2 [.inl (.int 0)] M)
  else am_ret [] 22 [] (k 25 [.inr (9, 0), .inl (.int x1), .inl (.int x2), .inl (.int x3), am_D]) (F2 [.inl (.int 1)] M) := (rfl)
theorem eX9_define_14 {n : Nat} {x1 : Int32} {x2 : Int32} {x3 : Int32} {y0 : Int32} {M : am_M} {res : am_O × am_M} (h : (if y0 = 0 then
   am_ret [] 22 [] (rX9_define n 25 [.inr (9, 0), .inl (.int x1), .inl (.int x2), .inl (.int x3), am_D]) (fX9_demandArgument [.inl (.int 0)] M)
  else am_ret [] 22 [] (rX9_define n 25 [.inr (9, 0), .inl (.int x1), .inl (.int x2), .inl (.int x3), am_D]) (fX9_demandArgument [.inl (.int 1)] M)) = some res) : rX9_define (n + 100) 14 [.inr (9, 0), .inl (.int x1), .inl (.int x2), .inl (.int x3), am_D] [.inl (.int y0)] M = some res := uX9_define ((gX9_define_14 fX9_isWithin fX6_accepts fX9_demandArgument fX9_isOrdered fX9_demandState (rX9_define n) x1 x2 x3 y0 M).trans h)
set_option maxRecDepth 20000 in
theorem gX9_define_30 (F0 F1 F2 F3 F4 : am_F) (k : Nat → List am_V → List am_V → am_M → am_R) (x1 : Int32) (x2 : Int32) (x3 : Int32) (y0 : Int32) (M : am_M) : gX9_define F0 F1 F2 F3 F4 k 30 [.inr (9, 0), .inl (.int x1), .inl (.int x2), .inl (.int x3), am_D] [.inl (.int y0)] M =
  if y0 = 0 then
   am_ret [] 38 [] (k 41 [.inr (9, 0), .inl (.int x1), .inl (.int x2), .inl (.int x3), am_D]) (F4 [.inl (.int 1)] M)
  else am_ret [] 38 [] (k 41 [.inr (9, 0), .inl (.int x1), .inl (.int x2), .inl (.int x3), am_D]) (F4 [.inl (.int 0)] M) := (rfl)
theorem eX9_define_30 {n : Nat} {x1 : Int32} {x2 : Int32} {x3 : Int32} {y0 : Int32} {M : am_M} {res : am_O × am_M} (h : (if y0 = 0 then
   am_ret [] 38 [] (rX9_define n 41 [.inr (9, 0), .inl (.int x1), .inl (.int x2), .inl (.int x3), am_D]) (fX9_demandState [.inl (.int 1)] M)
  else am_ret [] 38 [] (rX9_define n 41 [.inr (9, 0), .inl (.int x1), .inl (.int x2), .inl (.int x3), am_D]) (fX9_demandState [.inl (.int 0)] M)) = some res) : rX9_define (n + 100) 30 [.inr (9, 0), .inl (.int x1), .inl (.int x2), .inl (.int x3), am_D] [.inl (.int y0)] M = some res := uX9_define ((gX9_define_30 fX9_isWithin fX6_accepts fX9_demandArgument fX9_isOrdered fX9_demandState (rX9_define n) x1 x2 x3 y0 M).trans h)
set_option maxRecDepth 20000 in
theorem gX9_define_41 (F0 F1 F2 F3 F4 : am_F) (k : Nat → List am_V → List am_V → am_M → am_R) (x1 : Int32) (x2 : Int32) (x3 : Int32) (M : am_M) : gX9_define F0 F1 F2 F3 F4 k 41 [.inr (9, 0), .inl (.int x1), .inl (.int x2), .inl (.int x3), am_D] [] M =
  if am_in x1 4 then
   if am_in x2 16 then
    some (.inl none, (am_put (am_put M 18 (Int32.toNatClampNeg x1) (Int32.toNatClampNeg x2) x3) 6 (Int32.toNatClampNeg x1) 3 0))
   else none
  else none := (rfl)
theorem eX9_define_41 {n : Nat} {x1 : Int32} {x2 : Int32} {x3 : Int32} {M : am_M} {res : am_O × am_M} (h : (if am_in x1 4 then
   if am_in x2 16 then
    some (.inl none, (am_put (am_put M 18 (Int32.toNatClampNeg x1) (Int32.toNatClampNeg x2) x3) 6 (Int32.toNatClampNeg x1) 3 0))
   else none
  else none) = some res) : rX9_define (n + 100) 41 [.inr (9, 0), .inl (.int x1), .inl (.int x2), .inl (.int x3), am_D] [] M = some res := uX9_define ((gX9_define_41 fX9_isWithin fX6_accepts fX9_demandArgument fX9_isOrdered fX9_demandState (rX9_define n) x1 x2 x3 M).trans h)
def rX9_curve (n pc : Nat) (ls st : List am_V) (M : am_M) : am_R := am_run [fX9_isWithin, fX0_accepts, fX9_demandArgument, fX9_isOrdered, fX0_takes, fX9_demandState, fX0_add] [] 1 am_X0 pX9_curve n pc ls st M
def gX9_curve (F0 F1 F2 F3 F4 F5 F6 : am_F) (k : Nat → List am_V → List am_V → am_M → am_R) (pc : Nat) (ls st : List am_V) (M : am_M) : am_R := am_go [F0, F1, F2, F3, F4, F5, F6] [] 1 am_X0 pX9_curve [6, 13, 20, 31, 44, 56, 67, 77] k 100 pc ls st M
theorem uX9_curve {n pc : Nat} {ls st : List am_V} {M : am_M} {res : am_O × am_M} (h : gX9_curve fX9_isWithin fX0_accepts fX9_demandArgument fX9_isOrdered fX0_takes fX9_demandState fX0_add (rX9_curve n) pc ls st M = some res) : rX9_curve (n + 100) pc ls st M = some res := am_go_ok h
theorem eX9_curve (x1 : Int32) (x2 : Int32) (x3 : Int32) (M : am_M) : fX9_curve [.inr (9, 0), .inl (.int x1), .inl (.int x2), .inl (.int x3)] M = rX9_curve 100000 0 [.inr (9, 0), .inl (.int x1), .inl (.int x2), .inl (.int x3), am_D] [] M := am_meth_eq rfl rfl
set_option maxRecDepth 20000 in
theorem gX9_curve_0 (F0 F1 F2 F3 F4 F5 F6 : am_F) (k : Nat → List am_V → List am_V → am_M → am_R) (x1 : Int32) (x2 : Int32) (x3 : Int32) (M : am_M) : gX9_curve F0 F1 F2 F3 F4 F5 F6 k 0 [.inr (9, 0), .inl (.int x1), .inl (.int x2), .inl (.int x3), am_D] [] M =
  am_ret [] 3 [] (k 6 [.inr (9, 0), .inl (.int x1), .inl (.int x2), .inl (.int x3), am_D]) (F0 [.inl (.int x1), .inl (.int 0), .inl (.int 3)] M) := (rfl)
theorem eX9_curve_0 {n : Nat} {x1 : Int32} {x2 : Int32} {x3 : Int32} {M : am_M} {res : am_O × am_M} (h : (am_ret [] 3 [] (rX9_curve n 6 [.inr (9, 0), .inl (.int x1), .inl (.int x2), .inl (.int x3), am_D]) (fX9_isWithin [.inl (.int x1), .inl (.int 0), .inl (.int 3)] M)) = some res) : rX9_curve (n + 100) 0 [.inr (9, 0), .inl (.int x1), .inl (.int x2), .inl (.int x3), am_D] [] M = some res := uX9_curve ((gX9_curve_0 fX9_isWithin fX0_accepts fX9_demandArgument fX9_isOrdered fX0_takes fX9_demandState fX0_add (rX9_curve n) x1 x2 x3 M).trans h)
set_option maxRecDepth 20000 in
theorem gX9_curve_6 (F0 F1 F2 F3 F4 F5 F6 : am_F) (k : Nat → List am_V → List am_V → am_M → am_R) (x1 : Int32) (x2 : Int32) (x3 : Int32) (y0 : Int32) (M : am_M) : gX9_curve F0 F1 F2 F3 F4 F5 F6 k 6 [.inr (9, 0), .inl (.int x1), .inl (.int x2), .inl (.int x3), am_D] [.inl (.int y0)] M =
  if y0 = 0 then
   am_ret [] 28 [] (k 31 [.inr (9, 0), .inl (.int x1), .inl (.int x2), .inl (.int x3), am_D]) (F2 [.inl (.int 0)] M)
  else am_ret [] 10 [] (k 13 [.inr (9, 0), .inl (.int x1), .inl (.int x2), .inl (.int x3), am_D]) (F1 [.inl (.int x2)] M) := (rfl)
theorem eX9_curve_6 {n : Nat} {x1 : Int32} {x2 : Int32} {x3 : Int32} {y0 : Int32} {M : am_M} {res : am_O × am_M} (h : (if y0 = 0 then
   am_ret [] 28 [] (rX9_curve n 31 [.inr (9, 0), .inl (.int x1), .inl (.int x2), .inl (.int x3), am_D]) (fX9_demandArgument [.inl (.int 0)] M)
  else am_ret [] 10 [] (rX9_curve n 13 [.inr (9, 0), .inl (.int x1), .inl (.int x2), .inl (.int x3), am_D]) (fX0_accepts [.inl (.int x2)] M)) = some res) : rX9_curve (n + 100) 6 [.inr (9, 0), .inl (.int x1), .inl (.int x2), .inl (.int x3), am_D] [.inl (.int y0)] M = some res := uX9_curve ((gX9_curve_6 fX9_isWithin fX0_accepts fX9_demandArgument fX9_isOrdered fX0_takes fX9_demandState fX0_add (rX9_curve n) x1 x2 x3 y0 M).trans h)
set_option maxRecDepth 20000 in
theorem gX9_curve_31 (F0 F1 F2 F3 F4 F5 F6 : am_F) (k : Nat → List am_V → List am_V → am_M → am_R) (x1 : Int32) (x2 : Int32) (x3 : Int32) (M : am_M) : gX9_curve F0 F1 F2 F3 F4 F5 F6 k 31 [.inr (9, 0), .inl (.int x1), .inl (.int x2), .inl (.int x3), am_D] [] M =
  if am_in x1 4 then
   am_ret [] 41 [] (k 44 [.inr (9, 0), .inl (.int x1), .inl (.int x2), .inl (.int x3), .inr (6, (Int32.toNatClampNeg x1))]) (F3 [.inr (9, 0), .inl (.int x1)] M)
  else none := (rfl)
theorem eX9_curve_31 {n : Nat} {x1 : Int32} {x2 : Int32} {x3 : Int32} {M : am_M} {res : am_O × am_M} (h : (if am_in x1 4 then
   am_ret [] 41 [] (rX9_curve n 44 [.inr (9, 0), .inl (.int x1), .inl (.int x2), .inl (.int x3), .inr (6, (Int32.toNatClampNeg x1))]) (fX9_isOrdered [.inr (9, 0), .inl (.int x1)] M)
  else none) = some res) : rX9_curve (n + 100) 31 [.inr (9, 0), .inl (.int x1), .inl (.int x2), .inl (.int x3), am_D] [] M = some res := uX9_curve ((gX9_curve_31 fX9_isWithin fX0_accepts fX9_demandArgument fX9_isOrdered fX0_takes fX9_demandState fX0_add (rX9_curve n) x1 x2 x3 M).trans h)
set_option maxRecDepth 20000 in
theorem gX9_curve_13 (F0 F1 F2 F3 F4 F5 F6 : am_F) (k : Nat → List am_V → List am_V → am_M → am_R) (x1 : Int32) (x2 : Int32) (x3 : Int32) (y0 : Int32) (M : am_M) : gX9_curve F0 F1 F2 F3 F4 F5 F6 k 13 [.inr (9, 0), .inl (.int x1), .inl (.int x2), .inl (.int x3), am_D] [.inl (.int y0)] M =
  if y0 = 0 then
   am_ret [] 28 [] (k 31 [.inr (9, 0), .inl (.int x1), .inl (.int x2), .inl (.int x3), am_D]) (F2 [.inl (.int 0)] M)
  else am_ret [] 17 [] (k 20 [.inr (9, 0), .inl (.int x1), .inl (.int x2), .inl (.int x3), am_D]) (F1 [.inl (.int x3)] M) := (rfl)
theorem eX9_curve_13 {n : Nat} {x1 : Int32} {x2 : Int32} {x3 : Int32} {y0 : Int32} {M : am_M} {res : am_O × am_M} (h : (if y0 = 0 then
   am_ret [] 28 [] (rX9_curve n 31 [.inr (9, 0), .inl (.int x1), .inl (.int x2), .inl (.int x3), am_D]) (fX9_demandArgument [.inl (.int 0)] M)
  else am_ret [] 17 [] (rX9_curve n 20 [.inr (9, 0), .inl (.int x1), .inl (.int x2), .inl (.int x3), am_D]) (fX0_accepts [.inl (.int x3)] M)) = some res) : rX9_curve (n + 100) 13 [.inr (9, 0), .inl (.int x1), .inl (.int x2), .inl (.int x3), am_D] [.inl (.int y0)] M = some res := uX9_curve ((gX9_curve_13 fX9_isWithin fX0_accepts fX9_demandArgument fX9_isOrdered fX0_takes fX9_demandState fX0_add (rX9_curve n) x1 x2 x3 y0 M).trans h)
set_option maxRecDepth 20000 in
theorem gX9_curve_44 (F0 F1 F2 F3 F4 F5 F6 : am_F) (k : Nat → List am_V → List am_V → am_M → am_R) (x1 : Int32) (x2 : Int32) (x3 : Int32) (x4 : Nat) (y0 : Int32) (M : am_M) : gX9_curve F0 F1 F2 F3 F4 F5 F6 k 44 [.inr (9, 0), .inl (.int x1), .inl (.int x2), .inl (.int x3), .inr (6, x4)] [.inl (.int y0)] M =
  if y0 = 0 then
   am_ret [] 53 [] (k 56 [.inr (9, 0), .inl (.int x1), .inl (.int x2), .inl (.int x3), .inr (6, x4)]) (F4 [.inr (0, x4), .inl (.int x2)] M)
  else am_ret [] 64 [] (k 67 [.inr (9, 0), .inl (.int x1), .inl (.int x2), .inl (.int x3), .inr (6, x4)]) (F5 [.inl (.int 0)] M) := (rfl)
theorem eX9_curve_44 {n : Nat} {x1 : Int32} {x2 : Int32} {x3 : Int32} {x4 : Nat} {y0 : Int32} {M : am_M} {res : am_O × am_M} (h : (if y0 = 0 then
   am_ret [] 53 [] (rX9_curve n 56 [.inr (9, 0), .inl (.int x1), .inl (.int x2), .inl (.int x3), .inr (6, x4)]) (fX0_takes [.inr (0, x4), .inl (.int x2)] M)
  else am_ret [] 64 [] (rX9_curve n 67 [.inr (9, 0), .inl (.int x1), .inl (.int x2), .inl (.int x3), .inr (6, x4)]) (fX9_demandState [.inl (.int 0)] M)) = some res) : rX9_curve (n + 100) 44 [.inr (9, 0), .inl (.int x1), .inl (.int x2), .inl (.int x3), .inr (6, x4)] [.inl (.int y0)] M = some res := uX9_curve ((gX9_curve_44 fX9_isWithin fX0_accepts fX9_demandArgument fX9_isOrdered fX0_takes fX9_demandState fX0_add (rX9_curve n) x1 x2 x3 x4 y0 M).trans h)
set_option maxRecDepth 20000 in
theorem gX9_curve_20 (F0 F1 F2 F3 F4 F5 F6 : am_F) (k : Nat → List am_V → List am_V → am_M → am_R) (x1 : Int32) (x2 : Int32) (x3 : Int32) (y0 : Int32) (M : am_M) : gX9_curve F0 F1 F2 F3 F4 F5 F6 k 20 [.inr (9, 0), .inl (.int x1), .inl (.int x2), .inl (.int x3), am_D] [.inl (.int y0)] M =
  if y0 = 0 then
   am_ret [] 28 [] (k 31 [.inr (9, 0), .inl (.int x1), .inl (.int x2), .inl (.int x3), am_D]) (F2 [.inl (.int 0)] M)
  else am_ret [] 28 [] (k 31 [.inr (9, 0), .inl (.int x1), .inl (.int x2), .inl (.int x3), am_D]) (F2 [.inl (.int 1)] M) := (rfl)
theorem eX9_curve_20 {n : Nat} {x1 : Int32} {x2 : Int32} {x3 : Int32} {y0 : Int32} {M : am_M} {res : am_O × am_M} (h : (if y0 = 0 then
   am_ret [] 28 [] (rX9_curve n 31 [.inr (9, 0), .inl (.int x1), .inl (.int x2), .inl (.int x3), am_D]) (fX9_demandArgument [.inl (.int 0)] M)
  else am_ret [] 28 [] (rX9_curve n 31 [.inr (9, 0), .inl (.int x1), .inl (.int x2), .inl (.int x3), am_D]) (fX9_demandArgument [.inl (.int 1)] M)) = some res) : rX9_curve (n + 100) 20 [.inr (9, 0), .inl (.int x1), .inl (.int x2), .inl (.int x3), am_D] [.inl (.int y0)] M = some res := uX9_curve ((gX9_curve_20 fX9_isWithin fX0_accepts fX9_demandArgument fX9_isOrdered fX0_takes fX9_demandState fX0_add (rX9_curve n) x1 x2 x3 y0 M).trans h)
set_option maxRecDepth 20000 in
theorem gX9_curve_56 (F0 F1 F2 F3 F4 F5 F6 : am_F) (k : Nat → List am_V → List am_V → am_M → am_R) (x1 : Int32) (x2 : Int32) (x3 : Int32) (x4 : Nat) (y0 : Int32) (M : am_M) : gX9_curve F0 F1 F2 F3 F4 F5 F6 k 56 [.inr (9, 0), .inl (.int x1), .inl (.int x2), .inl (.int x3), .inr (6, x4)] [.inl (.int y0)] M =
  if y0 = 0 then
   am_ret [] 64 [] (k 67 [.inr (9, 0), .inl (.int x1), .inl (.int x2), .inl (.int x3), .inr (6, x4)]) (F5 [.inl (.int 0)] M)
  else am_ret [] 64 [] (k 67 [.inr (9, 0), .inl (.int x1), .inl (.int x2), .inl (.int x3), .inr (6, x4)]) (F5 [.inl (.int 1)] M) := (rfl)
theorem eX9_curve_56 {n : Nat} {x1 : Int32} {x2 : Int32} {x3 : Int32} {x4 : Nat} {y0 : Int32} {M : am_M} {res : am_O × am_M} (h : (if y0 = 0 then
   am_ret [] 64 [] (rX9_curve n 67 [.inr (9, 0), .inl (.int x1), .inl (.int x2), .inl (.int x3), .inr (6, x4)]) (fX9_demandState [.inl (.int 0)] M)
  else am_ret [] 64 [] (rX9_curve n 67 [.inr (9, 0), .inl (.int x1), .inl (.int x2), .inl (.int x3), .inr (6, x4)]) (fX9_demandState [.inl (.int 1)] M)) = some res) : rX9_curve (n + 100) 56 [.inr (9, 0), .inl (.int x1), .inl (.int x2), .inl (.int x3), .inr (6, x4)] [.inl (.int y0)] M = some res := uX9_curve ((gX9_curve_56 fX9_isWithin fX0_accepts fX9_demandArgument fX9_isOrdered fX0_takes fX9_demandState fX0_add (rX9_curve n) x1 x2 x3 x4 y0 M).trans h)
set_option maxRecDepth 20000 in
theorem gX9_curve_67 (F0 F1 F2 F3 F4 F5 F6 : am_F) (k : Nat → List am_V → List am_V → am_M → am_R) (x1 : Int32) (x2 : Int32) (x3 : Int32) (x4 : Nat) (M : am_M) : gX9_curve F0 F1 F2 F3 F4 F5 F6 k 67 [.inr (9, 0), .inl (.int x1), .inl (.int x2), .inl (.int x3), .inr (6, x4)] [] M =
  am_ret [] 74 [] (k 77 [.inr (9, 0), .inl (.int x1), .inl (.int x2), .inl (.int x3), .inr (6, x4)]) (F6 [.inr (0, x4), .inl (.int x2), .inl (.int x3)] M) := (rfl)
theorem eX9_curve_67 {n : Nat} {x1 : Int32} {x2 : Int32} {x3 : Int32} {x4 : Nat} {M : am_M} {res : am_O × am_M} (h : (am_ret [] 74 [] (rX9_curve n 77 [.inr (9, 0), .inl (.int x1), .inl (.int x2), .inl (.int x3), .inr (6, x4)]) (fX0_add [.inr (0, x4), .inl (.int x2), .inl (.int x3)] M)) = some res) : rX9_curve (n + 100) 67 [.inr (9, 0), .inl (.int x1), .inl (.int x2), .inl (.int x3), .inr (6, x4)] [] M = some res := uX9_curve ((gX9_curve_67 fX9_isWithin fX0_accepts fX9_demandArgument fX9_isOrdered fX0_takes fX9_demandState fX0_add (rX9_curve n) x1 x2 x3 x4 M).trans h)
set_option maxRecDepth 20000 in
theorem gX9_curve_77 (F0 F1 F2 F3 F4 F5 F6 : am_F) (k : Nat → List am_V → List am_V → am_M → am_R) (x1 : Int32) (x2 : Int32) (x3 : Int32) (x4 : Nat) (M : am_M) : gX9_curve F0 F1 F2 F3 F4 F5 F6 k 77 [.inr (9, 0), .inl (.int x1), .inl (.int x2), .inl (.int x3), .inr (6, x4)] [] M =
  some (.inl (some (.inl (.int (M 0 x4 2)))), (am_put M 6 x4 3 0)) := (rfl)
theorem eX9_curve_77 {n : Nat} {x1 : Int32} {x2 : Int32} {x3 : Int32} {x4 : Nat} {M : am_M} {res : am_O × am_M} (h : (some (.inl (some (.inl (.int (M 0 x4 2)))), (am_put M 6 x4 3 0))) = some res) : rX9_curve (n + 100) 77 [.inr (9, 0), .inl (.int x1), .inl (.int x2), .inl (.int x3), .inr (6, x4)] [] M = some res := uX9_curve ((gX9_curve_77 fX9_isWithin fX0_accepts fX9_demandArgument fX9_isOrdered fX0_takes fX9_demandState fX0_add (rX9_curve n) x1 x2 x3 x4 M).trans h)
def rX9_seal (n pc : Nat) (ls st : List am_V) (M : am_M) : am_R := am_run [fX9_isWithin, fX9_demandArgument, fX6_isComplete] [] 2 am_X0 pX9_seal n pc ls st M
def gX9_seal (F0 F1 F2 : am_F) (k : Nat → List am_V → List am_V → am_M → am_R) (pc : Nat) (ls st : List am_V) (M : am_M) : am_R := am_go [F0, F1, F2] [] 2 am_X0 pX9_seal [6, 9, 21] k 100 pc ls st M
theorem uX9_seal {n pc : Nat} {ls st : List am_V} {M : am_M} {res : am_O × am_M} (h : gX9_seal fX9_isWithin fX9_demandArgument fX6_isComplete (rX9_seal n) pc ls st M = some res) : rX9_seal (n + 100) pc ls st M = some res := am_go_ok h
theorem eX9_seal (x1 : Int32) (M : am_M) : fX9_seal [.inr (9, 0), .inl (.int x1)] M = rX9_seal 100000 0 [.inr (9, 0), .inl (.int x1), am_D] [] M := am_meth_eq rfl rfl
set_option maxRecDepth 20000 in
theorem gX9_seal_0 (F0 F1 F2 : am_F) (k : Nat → List am_V → List am_V → am_M → am_R) (x1 : Int32) (M : am_M) : gX9_seal F0 F1 F2 k 0 [.inr (9, 0), .inl (.int x1), am_D] [] M =
  am_ret [] 3 [] (k 6 [.inr (9, 0), .inl (.int x1), am_D]) (F0 [.inl (.int x1), .inl (.int 0), .inl (.int 3)] M) := (rfl)
theorem eX9_seal_0 {n : Nat} {x1 : Int32} {M : am_M} {res : am_O × am_M} (h : (am_ret [] 3 [] (rX9_seal n 6 [.inr (9, 0), .inl (.int x1), am_D]) (fX9_isWithin [.inl (.int x1), .inl (.int 0), .inl (.int 3)] M)) = some res) : rX9_seal (n + 100) 0 [.inr (9, 0), .inl (.int x1), am_D] [] M = some res := uX9_seal ((gX9_seal_0 fX9_isWithin fX9_demandArgument fX6_isComplete (rX9_seal n) x1 M).trans h)
set_option maxRecDepth 20000 in
theorem gX9_seal_6 (F0 F1 F2 : am_F) (k : Nat → List am_V → List am_V → am_M → am_R) (x1 : Int32) (y0 : Int32) (M : am_M) : gX9_seal F0 F1 F2 k 6 [.inr (9, 0), .inl (.int x1), am_D] [.inl (.int y0)] M =
  am_ret [] 6 [] (k 9 [.inr (9, 0), .inl (.int x1), am_D]) (F1 [.inl (.int y0)] M) := (rfl)
theorem eX9_seal_6 {n : Nat} {x1 : Int32} {y0 : Int32} {M : am_M} {res : am_O × am_M} (h : (am_ret [] 6 [] (rX9_seal n 9 [.inr (9, 0), .inl (.int x1), am_D]) (fX9_demandArgument [.inl (.int y0)] M)) = some res) : rX9_seal (n + 100) 6 [.inr (9, 0), .inl (.int x1), am_D] [.inl (.int y0)] M = some res := uX9_seal ((gX9_seal_6 fX9_isWithin fX9_demandArgument fX6_isComplete (rX9_seal n) x1 y0 M).trans h)
set_option maxRecDepth 20000 in
theorem gX9_seal_9 (F0 F1 F2 : am_F) (k : Nat → List am_V → List am_V → am_M → am_R) (x1 : Int32) (M : am_M) : gX9_seal F0 F1 F2 k 9 [.inr (9, 0), .inl (.int x1), am_D] [] M =
  if am_in x1 4 then
   am_ret [] 18 [.inr (6, (Int32.toNatClampNeg x1))] (k 21 [.inr (9, 0), .inl (.int x1), .inr (6, (Int32.toNatClampNeg x1))]) (F2 [.inr (6, (Int32.toNatClampNeg x1))] M)
  else none := (rfl)
theorem eX9_seal_9 {n : Nat} {x1 : Int32} {M : am_M} {res : am_O × am_M} (h : (if am_in x1 4 then
   am_ret [] 18 [.inr (6, (Int32.toNatClampNeg x1))] (rX9_seal n 21 [.inr (9, 0), .inl (.int x1), .inr (6, (Int32.toNatClampNeg x1))]) (fX6_isComplete [.inr (6, (Int32.toNatClampNeg x1))] M)
  else none) = some res) : rX9_seal (n + 100) 9 [.inr (9, 0), .inl (.int x1), am_D] [] M = some res := uX9_seal ((gX9_seal_9 fX9_isWithin fX9_demandArgument fX6_isComplete (rX9_seal n) x1 M).trans h)
set_option maxRecDepth 20000 in
theorem gX9_seal_21 (F0 F1 F2 : am_F) (k : Nat → List am_V → List am_V → am_M → am_R) (x1 : Int32) (x2 : Nat) (y0 : Int32) (y1 : Nat) (M : am_M) : gX9_seal F0 F1 F2 k 21 [.inr (9, 0), .inl (.int x1), .inr (6, x2)] [.inl (.int y0), .inr (6, y1)] M =
  if am_b y0 = y0 then
   Option.map (fun o => (o, (am_put M 6 y1 3 y0))) (am_fin 2 .ireturn [.inr (9, 0), .inl (.int x1), .inr (6, x2)] [.inl (.int (am_b ((am_put M 6 y1 3 y0) 6 x2 3)))])
  else none := (rfl)
theorem eX9_seal_21 {n : Nat} {x1 : Int32} {x2 : Nat} {y0 : Int32} {y1 : Nat} {M : am_M} {res : am_O × am_M} (h : (if am_b y0 = y0 then
   Option.map (fun o => (o, (am_put M 6 y1 3 y0))) (am_fin 2 .ireturn [.inr (9, 0), .inl (.int x1), .inr (6, x2)] [.inl (.int (am_b ((am_put M 6 y1 3 y0) 6 x2 3)))])
  else none) = some res) : rX9_seal (n + 100) 21 [.inr (9, 0), .inl (.int x1), .inr (6, x2)] [.inl (.int y0), .inr (6, y1)] M = some res := uX9_seal ((gX9_seal_21 fX9_isWithin fX9_demandArgument fX6_isComplete (rX9_seal n) x1 x2 y0 y1 M).trans h)
def rX9_slotOf (n pc : Nat) (ls st : List am_V) (M : am_M) : am_R := am_run [] [] 1 am_X0 pX9_slotOf n pc ls st M
def gX9_slotOf (k : Nat → List am_V → List am_V → am_M → am_R) (pc : Nat) (ls st : List am_V) (M : am_M) : am_R := am_go [] [] 1 am_X0 pX9_slotOf [2] k 100 pc ls st M
theorem uX9_slotOf {n pc : Nat} {ls st : List am_V} {M : am_M} {res : am_O × am_M} (h : gX9_slotOf (rX9_slotOf n) pc ls st M = some res) : rX9_slotOf (n + 100) pc ls st M = some res := am_go_ok h
theorem eX9_slotOf (x1 : Int32) (M : am_M) : fX9_slotOf [.inr (9, 0), .inl (.int x1)] M = rX9_slotOf 100000 0 [.inr (9, 0), .inl (.int x1), am_D] [] M := am_meth_eq rfl rfl
set_option maxRecDepth 20000 in
theorem gX9_slotOf_0 (k : Nat → List am_V → List am_V → am_M → am_R) (x1 : Int32) (M : am_M) : gX9_slotOf k 0 [.inr (9, 0), .inl (.int x1), am_D] [] M =
  k 2 [.inr (9, 0), .inl (.int x1), .inl (.int 0)] [] M := (rfl)
theorem eX9_slotOf_0 {n : Nat} {x1 : Int32} {M : am_M} {res : am_O × am_M} (h : (rX9_slotOf n 2 [.inr (9, 0), .inl (.int x1), .inl (.int 0)] [] M) = some res) : rX9_slotOf (n + 100) 0 [.inr (9, 0), .inl (.int x1), am_D] [] M = some res := uX9_slotOf ((gX9_slotOf_0 (rX9_slotOf n) x1 M).trans h)
set_option maxRecDepth 20000 in
theorem gX9_slotOf_2 (k : Nat → List am_V → List am_V → am_M → am_R) (x1 : Int32) (x2 : Int32) (M : am_M) : gX9_slotOf k 2 [.inr (9, 0), .inl (.int x1), .inl (.int x2)] [] M =
  if 6 ≤ x2 then
   some (.inl (some (.inl (.int (-1)))), M)
  else if am_in x2 6 then
   if (M 8 (Int32.toNatClampNeg x2) 0) = x1 then
    some (.inl (some (.inl (.int x2))), M)
   else k 2 [.inr (9, 0), .inl (.int x1), .inl (.int (x2 + 1))] [] M
  else none := (rfl)
theorem eX9_slotOf_2 {n : Nat} {x1 : Int32} {x2 : Int32} {M : am_M} {res : am_O × am_M} (h : (if 6 ≤ x2 then
   some (.inl (some (.inl (.int (-1)))), M)
  else if am_in x2 6 then
   if (M 8 (Int32.toNatClampNeg x2) 0) = x1 then
    some (.inl (some (.inl (.int x2))), M)
   else rX9_slotOf n 2 [.inr (9, 0), .inl (.int x1), .inl (.int (x2 + 1))] [] M
  else none) = some res) : rX9_slotOf (n + 100) 2 [.inr (9, 0), .inl (.int x1), .inl (.int x2)] [] M = some res := uX9_slotOf ((gX9_slotOf_2 (rX9_slotOf n) x1 x2 M).trans h)
def rX9_rack (n pc : Nat) (ls st : List am_V) (M : am_M) : am_R := am_run [fX9_isWithin, fX9_demandArgument, fX8_isEmpty, fX9_slotOf, fX9_demandState, fX8_fill] [] 0 am_X0 pX9_rack n pc ls st M
def gX9_rack (F0 F1 F2 F3 F4 : am_F) (k : Nat → List am_V → List am_V → am_M → am_R) (pc : Nat) (ls st : List am_V) (M : am_M) : am_R := am_go [F0, F1, F2, F3, F4, fX8_fill] [] 0 am_X0 pX9_rack [6, 16, 27, 33, 44, 55, 64, 72, 84] k 100 pc ls st M
theorem uX9_rack {n pc : Nat} {ls st : List am_V} {M : am_M} {res : am_O × am_M} (h : gX9_rack fX9_isWithin fX9_demandArgument fX8_isEmpty fX9_slotOf fX9_demandState (rX9_rack n) pc ls st M = some res) : rX9_rack (n + 100) pc ls st M = some res := am_go_ok h
theorem eX9_rack (x1 : Int32) (x2 : Int32) (x3 : Int32) (x4 : Int32) (M : am_M) : fX9_rack [.inr (9, 0), .inl (.int x1), .inl (.int x2), .inl (.int x3), .inl (.int x4)] M = rX9_rack 100000 0 [.inr (9, 0), .inl (.int x1), .inl (.int x2), .inl (.int x3), .inl (.int x4)] [] M := am_meth_eq rfl rfl
set_option maxRecDepth 20000 in
theorem gX9_rack_0 (F0 F1 F2 F3 F4 : am_F) (k : Nat → List am_V → List am_V → am_M → am_R) (x1 : Int32) (x2 : Int32) (x3 : Int32) (x4 : Int32) (M : am_M) : gX9_rack F0 F1 F2 F3 F4 k 0 [.inr (9, 0), .inl (.int x1), .inl (.int x2), .inl (.int x3), .inl (.int x4)] [] M =
  am_ret [] 3 [] (k 6 [.inr (9, 0), .inl (.int x1), .inl (.int x2), .inl (.int x3), .inl (.int x4)]) (F0 [.inl (.int x1), .inl (.int 0), .inl (.int 5)] M) := (rfl)
theorem eX9_rack_0 {n : Nat} {x1 : Int32} {x2 : Int32} {x3 : Int32} {x4 : Int32} {M : am_M} {res : am_O × am_M} (h : (am_ret [] 3 [] (rX9_rack n 6 [.inr (9, 0), .inl (.int x1), .inl (.int x2), .inl (.int x3), .inl (.int x4)]) (fX9_isWithin [.inl (.int x1), .inl (.int 0), .inl (.int 5)] M)) = some res) : rX9_rack (n + 100) 0 [.inr (9, 0), .inl (.int x1), .inl (.int x2), .inl (.int x3), .inl (.int x4)] [] M = some res := uX9_rack ((gX9_rack_0 fX9_isWithin fX9_demandArgument fX8_isEmpty fX9_slotOf fX9_demandState (rX9_rack n) x1 x2 x3 x4 M).trans h)
set_option maxRecDepth 20000 in
theorem gX9_rack_6 (F0 F1 F2 F3 F4 : am_F) (k : Nat → List am_V → List am_V → am_M → am_R) (x1 : Int32) (x2 : Int32) (x3 : Int32) (x4 : Int32) (y0 : Int32) (M : am_M) : gX9_rack F0 F1 F2 F3 F4 k 6 [.inr (9, 0), .inl (.int x1), .inl (.int x2), .inl (.int x3), .inl (.int x4)] [.inl (.int y0)] M =
  if y0 = 0 then
   am_ret [] 24 [] (k 27 [.inr (9, 0), .inl (.int x1), .inl (.int x2), .inl (.int x3), .inl (.int x4)]) (F1 [.inl (.int 0)] M)
  else am_ret [] 13 [] (k 16 [.inr (9, 0), .inl (.int x1), .inl (.int x2), .inl (.int x3), .inl (.int x4)]) (F0 [.inl (.int x2), .inl (.int 1), .inl (.int 999999)] M) := (rfl)
theorem eX9_rack_6 {n : Nat} {x1 : Int32} {x2 : Int32} {x3 : Int32} {x4 : Int32} {y0 : Int32} {M : am_M} {res : am_O × am_M} (h : (if y0 = 0 then
   am_ret [] 24 [] (rX9_rack n 27 [.inr (9, 0), .inl (.int x1), .inl (.int x2), .inl (.int x3), .inl (.int x4)]) (fX9_demandArgument [.inl (.int 0)] M)
  else am_ret [] 13 [] (rX9_rack n 16 [.inr (9, 0), .inl (.int x1), .inl (.int x2), .inl (.int x3), .inl (.int x4)]) (fX9_isWithin [.inl (.int x2), .inl (.int 1), .inl (.int 999999)] M)) = some res) : rX9_rack (n + 100) 6 [.inr (9, 0), .inl (.int x1), .inl (.int x2), .inl (.int x3), .inl (.int x4)] [.inl (.int y0)] M = some res := uX9_rack ((gX9_rack_6 fX9_isWithin fX9_demandArgument fX8_isEmpty fX9_slotOf fX9_demandState (rX9_rack n) x1 x2 x3 x4 y0 M).trans h)
set_option maxRecDepth 20000 in
theorem gX9_rack_27 (F0 F1 F2 F3 F4 : am_F) (k : Nat → List am_V → List am_V → am_M → am_R) (x1 : Int32) (x2 : Int32) (x3 : Int32) (x4 : Int32) (M : am_M) : gX9_rack F0 F1 F2 F3 F4 k 27 [.inr (9, 0), .inl (.int x1), .inl (.int x2), .inl (.int x3), .inl (.int x4)] [] M =
  am_ret [] 30 [] (k 33 [.inr (9, 0), .inl (.int x1), .inl (.int x2), .inl (.int x3), .inl (.int x4)]) (F0 [.inl (.int x3), .inl (.int 0), .inl (.int 1)] M) := (rfl)
theorem eX9_rack_27 {n : Nat} {x1 : Int32} {x2 : Int32} {x3 : Int32} {x4 : Int32} {M : am_M} {res : am_O × am_M} (h : (am_ret [] 30 [] (rX9_rack n 33 [.inr (9, 0), .inl (.int x1), .inl (.int x2), .inl (.int x3), .inl (.int x4)]) (fX9_isWithin [.inl (.int x3), .inl (.int 0), .inl (.int 1)] M)) = some res) : rX9_rack (n + 100) 27 [.inr (9, 0), .inl (.int x1), .inl (.int x2), .inl (.int x3), .inl (.int x4)] [] M = some res := uX9_rack ((gX9_rack_27 fX9_isWithin fX9_demandArgument fX8_isEmpty fX9_slotOf fX9_demandState (rX9_rack n) x1 x2 x3 x4 M).trans h)
set_option maxRecDepth 20000 in
theorem gX9_rack_16 (F0 F1 F2 F3 F4 : am_F) (k : Nat → List am_V → List am_V → am_M → am_R) (x1 : Int32) (x2 : Int32) (x3 : Int32) (x4 : Int32) (y0 : Int32) (M : am_M) : gX9_rack F0 F1 F2 F3 F4 k 16 [.inr (9, 0), .inl (.int x1), .inl (.int x2), .inl (.int x3), .inl (.int x4)] [.inl (.int y0)] M =
  if y0 = 0 then
   am_ret [] 24 [] (k 27 [.inr (9, 0), .inl (.int x1), .inl (.int x2), .inl (.int x3), .inl (.int x4)]) (F1 [.inl (.int 0)] M)
  else am_ret [] 24 [] (k 27 [.inr (9, 0), .inl (.int x1), .inl (.int x2), .inl (.int x3), .inl (.int x4)]) (F1 [.inl (.int 1)] M) := (rfl)
theorem eX9_rack_16 {n : Nat} {x1 : Int32} {x2 : Int32} {x3 : Int32} {x4 : Int32} {y0 : Int32} {M : am_M} {res : am_O × am_M} (h : (if y0 = 0 then
   am_ret [] 24 [] (rX9_rack n 27 [.inr (9, 0), .inl (.int x1), .inl (.int x2), .inl (.int x3), .inl (.int x4)]) (fX9_demandArgument [.inl (.int 0)] M)
  else am_ret [] 24 [] (rX9_rack n 27 [.inr (9, 0), .inl (.int x1), .inl (.int x2), .inl (.int x3), .inl (.int x4)]) (fX9_demandArgument [.inl (.int 1)] M)) = some res) : rX9_rack (n + 100) 16 [.inr (9, 0), .inl (.int x1), .inl (.int x2), .inl (.int x3), .inl (.int x4)] [.inl (.int y0)] M = some res := uX9_rack ((gX9_rack_16 fX9_isWithin fX9_demandArgument fX8_isEmpty fX9_slotOf fX9_demandState (rX9_rack n) x1 x2 x3 x4 y0 M).trans h)
set_option maxRecDepth 20000 in
theorem gX9_rack_33 (F0 F1 F2 F3 F4 : am_F) (k : Nat → List am_V → List am_V → am_M → am_R) (x1 : Int32) (x2 : Int32) (x3 : Int32) (x4 : Int32) (y0 : Int32) (M : am_M) : gX9_rack F0 F1 F2 F3 F4 k 33 [.inr (9, 0), .inl (.int x1), .inl (.int x2), .inl (.int x3), .inl (.int x4)] [.inl (.int y0)] M =
  if y0 = 0 then
   am_ret [] 52 [] (k 55 [.inr (9, 0), .inl (.int x1), .inl (.int x2), .inl (.int x3), .inl (.int x4)]) (F1 [.inl (.int 0)] M)
  else am_ret [] 41 [] (k 44 [.inr (9, 0), .inl (.int x1), .inl (.int x2), .inl (.int x3), .inl (.int x4)]) (F0 [.inl (.int x4), .inl (.int 0), .inl (.int 100000)] M) := (rfl)
theorem eX9_rack_33 {n : Nat} {x1 : Int32} {x2 : Int32} {x3 : Int32} {x4 : Int32} {y0 : Int32} {M : am_M} {res : am_O × am_M} (h : (if y0 = 0 then
   am_ret [] 52 [] (rX9_rack n 55 [.inr (9, 0), .inl (.int x1), .inl (.int x2), .inl (.int x3), .inl (.int x4)]) (fX9_demandArgument [.inl (.int 0)] M)
  else am_ret [] 41 [] (rX9_rack n 44 [.inr (9, 0), .inl (.int x1), .inl (.int x2), .inl (.int x3), .inl (.int x4)]) (fX9_isWithin [.inl (.int x4), .inl (.int 0), .inl (.int 100000)] M)) = some res) : rX9_rack (n + 100) 33 [.inr (9, 0), .inl (.int x1), .inl (.int x2), .inl (.int x3), .inl (.int x4)] [.inl (.int y0)] M = some res := uX9_rack ((gX9_rack_33 fX9_isWithin fX9_demandArgument fX8_isEmpty fX9_slotOf fX9_demandState (rX9_rack n) x1 x2 x3 x4 y0 M).trans h)
set_option maxRecDepth 20000 in
theorem gX9_rack_55 (F0 F1 F2 F3 F4 : am_F) (k : Nat → List am_V → List am_V → am_M → am_R) (x1 : Int32) (x2 : Int32) (x3 : Int32) (x4 : Int32) (M : am_M) : gX9_rack F0 F1 F2 F3 F4 k 55 [.inr (9, 0), .inl (.int x1), .inl (.int x2), .inl (.int x3), .inl (.int x4)] [] M =
  if am_in x1 6 then
   am_ret [] 61 [] (k 64 [.inr (9, 0), .inl (.int x1), .inl (.int x2), .inl (.int x3), .inl (.int x4)]) (F2 [.inr (8, (Int32.toNatClampNeg x1))] M)
  else none := (rfl)
theorem eX9_rack_55 {n : Nat} {x1 : Int32} {x2 : Int32} {x3 : Int32} {x4 : Int32} {M : am_M} {res : am_O × am_M} (h : (if am_in x1 6 then
   am_ret [] 61 [] (rX9_rack n 64 [.inr (9, 0), .inl (.int x1), .inl (.int x2), .inl (.int x3), .inl (.int x4)]) (fX8_isEmpty [.inr (8, (Int32.toNatClampNeg x1))] M)
  else none) = some res) : rX9_rack (n + 100) 55 [.inr (9, 0), .inl (.int x1), .inl (.int x2), .inl (.int x3), .inl (.int x4)] [] M = some res := uX9_rack ((gX9_rack_55 fX9_isWithin fX9_demandArgument fX8_isEmpty fX9_slotOf fX9_demandState (rX9_rack n) x1 x2 x3 x4 M).trans h)
set_option maxRecDepth 20000 in
theorem gX9_rack_44 (F0 F1 F2 F3 F4 : am_F) (k : Nat → List am_V → List am_V → am_M → am_R) (x1 : Int32) (x2 : Int32) (x3 : Int32) (x4 : Int32) (y0 : Int32) (M : am_M) : gX9_rack F0 F1 F2 F3 F4 k 44 [.inr (9, 0), .inl (.int x1), .inl (.int x2), .inl (.int x3), .inl (.int x4)] [.inl (.int y0)] M =
  if y0 = 0 then
   am_ret [] 52 [] (k 55 [.inr (9, 0), .inl (.int x1), .inl (.int x2), .inl (.int x3), .inl (.int x4)]) (F1 [.inl (.int 0)] M)
  else am_ret [] 52 [] (k 55 [.inr (9, 0), .inl (.int x1), .inl (.int x2), .inl (.int x3), .inl (.int x4)]) (F1 [.inl (.int 1)] M) := (rfl)
theorem eX9_rack_44 {n : Nat} {x1 : Int32} {x2 : Int32} {x3 : Int32} {x4 : Int32} {y0 : Int32} {M : am_M} {res : am_O × am_M} (h : (if y0 = 0 then
   am_ret [] 52 [] (rX9_rack n 55 [.inr (9, 0), .inl (.int x1), .inl (.int x2), .inl (.int x3), .inl (.int x4)]) (fX9_demandArgument [.inl (.int 0)] M)
  else am_ret [] 52 [] (rX9_rack n 55 [.inr (9, 0), .inl (.int x1), .inl (.int x2), .inl (.int x3), .inl (.int x4)]) (fX9_demandArgument [.inl (.int 1)] M)) = some res) : rX9_rack (n + 100) 44 [.inr (9, 0), .inl (.int x1), .inl (.int x2), .inl (.int x3), .inl (.int x4)] [.inl (.int y0)] M = some res := uX9_rack ((gX9_rack_44 fX9_isWithin fX9_demandArgument fX8_isEmpty fX9_slotOf fX9_demandState (rX9_rack n) x1 x2 x3 x4 y0 M).trans h)
set_option maxRecDepth 20000 in
theorem gX9_rack_64 (F0 F1 F2 F3 F4 : am_F) (k : Nat → List am_V → List am_V → am_M → am_R) (x1 : Int32) (x2 : Int32) (x3 : Int32) (x4 : Int32) (y0 : Int32) (M : am_M) : gX9_rack F0 F1 F2 F3 F4 k 64 [.inr (9, 0), .inl (.int x1), .inl (.int x2), .inl (.int x3), .inl (.int x4)] [.inl (.int y0)] M =
  if y0 = 0 then
   am_ret [] 81 [] (k 84 [.inr (9, 0), .inl (.int x1), .inl (.int x2), .inl (.int x3), .inl (.int x4)]) (F4 [.inl (.int 0)] M)
  else am_ret [] 69 [] (k 72 [.inr (9, 0), .inl (.int x1), .inl (.int x2), .inl (.int x3), .inl (.int x4)]) (F3 [.inr (9, 0), .inl (.int x2)] M) := (rfl)
theorem eX9_rack_64 {n : Nat} {x1 : Int32} {x2 : Int32} {x3 : Int32} {x4 : Int32} {y0 : Int32} {M : am_M} {res : am_O × am_M} (h : (if y0 = 0 then
   am_ret [] 81 [] (rX9_rack n 84 [.inr (9, 0), .inl (.int x1), .inl (.int x2), .inl (.int x3), .inl (.int x4)]) (fX9_demandState [.inl (.int 0)] M)
  else am_ret [] 69 [] (rX9_rack n 72 [.inr (9, 0), .inl (.int x1), .inl (.int x2), .inl (.int x3), .inl (.int x4)]) (fX9_slotOf [.inr (9, 0), .inl (.int x2)] M)) = some res) : rX9_rack (n + 100) 64 [.inr (9, 0), .inl (.int x1), .inl (.int x2), .inl (.int x3), .inl (.int x4)] [.inl (.int y0)] M = some res := uX9_rack ((gX9_rack_64 fX9_isWithin fX9_demandArgument fX8_isEmpty fX9_slotOf fX9_demandState (rX9_rack n) x1 x2 x3 x4 y0 M).trans h)
set_option maxRecDepth 20000 in
theorem gX9_rack_84 (F0 F1 F2 F3 F4 : am_F) (k : Nat → List am_V → List am_V → am_M → am_R) (x1 : Int32) (x2 : Int32) (x3 : Int32) (x4 : Int32) (M : am_M) : gX9_rack F0 F1 F2 F3 F4 k 84 [.inr (9, 0), .inl (.int x1), .inl (.int x2), .inl (.int x3), .inl (.int x4)] [] M =
  if am_in x1 6 then
   if x3 = 1 then
    some (.inl none, (am_put (am_put (am_put M 8 (Int32.toNatClampNeg x1) 0 x2) 8 (Int32.toNatClampNeg x1) 1 1) 8 (Int32.toNatClampNeg x1) 2 x4))
   else some (.inl none, (am_put (am_put (am_put M 8 (Int32.toNatClampNeg x1) 0 x2) 8 (Int32.toNatClampNeg x1) 1 0) 8 (Int32.toNatClampNeg x1) 2 x4))
  else none := (rfl)
theorem eX9_rack_84 {n : Nat} {x1 : Int32} {x2 : Int32} {x3 : Int32} {x4 : Int32} {M : am_M} {res : am_O × am_M} (h : (if am_in x1 6 then
   if x3 = 1 then
    some (.inl none, (am_put (am_put (am_put M 8 (Int32.toNatClampNeg x1) 0 x2) 8 (Int32.toNatClampNeg x1) 1 1) 8 (Int32.toNatClampNeg x1) 2 x4))
   else some (.inl none, (am_put (am_put (am_put M 8 (Int32.toNatClampNeg x1) 0 x2) 8 (Int32.toNatClampNeg x1) 1 0) 8 (Int32.toNatClampNeg x1) 2 x4))
  else none) = some res) : rX9_rack (n + 100) 84 [.inr (9, 0), .inl (.int x1), .inl (.int x2), .inl (.int x3), .inl (.int x4)] [] M = some res := uX9_rack ((gX9_rack_84 fX9_isWithin fX9_demandArgument fX8_isEmpty fX9_slotOf fX9_demandState (rX9_rack n) x1 x2 x3 x4 M).trans h)
set_option maxRecDepth 20000 in
theorem gX9_rack_72 (F0 F1 F2 F3 F4 : am_F) (k : Nat → List am_V → List am_V → am_M → am_R) (x1 : Int32) (x2 : Int32) (x3 : Int32) (x4 : Int32) (y0 : Int32) (M : am_M) : gX9_rack F0 F1 F2 F3 F4 k 72 [.inr (9, 0), .inl (.int x1), .inl (.int x2), .inl (.int x3), .inl (.int x4)] [.inl (.int y0)] M =
  if y0 = (-1) then
   am_ret [] 81 [] (k 84 [.inr (9, 0), .inl (.int x1), .inl (.int x2), .inl (.int x3), .inl (.int x4)]) (F4 [.inl (.int 1)] M)
  else am_ret [] 81 [] (k 84 [.inr (9, 0), .inl (.int x1), .inl (.int x2), .inl (.int x3), .inl (.int x4)]) (F4 [.inl (.int 0)] M) := (rfl)
theorem eX9_rack_72 {n : Nat} {x1 : Int32} {x2 : Int32} {x3 : Int32} {x4 : Int32} {y0 : Int32} {M : am_M} {res : am_O × am_M} (h : (if y0 = (-1) then
   am_ret [] 81 [] (rX9_rack n 84 [.inr (9, 0), .inl (.int x1), .inl (.int x2), .inl (.int x3), .inl (.int x4)]) (fX9_demandState [.inl (.int 1)] M)
  else am_ret [] 81 [] (rX9_rack n 84 [.inr (9, 0), .inl (.int x1), .inl (.int x2), .inl (.int x3), .inl (.int x4)]) (fX9_demandState [.inl (.int 0)] M)) = some res) : rX9_rack (n + 100) 72 [.inr (9, 0), .inl (.int x1), .inl (.int x2), .inl (.int x3), .inl (.int x4)] [.inl (.int y0)] M = some res := uX9_rack ((gX9_rack_72 fX9_isWithin fX9_demandArgument fX8_isEmpty fX9_slotOf fX9_demandState (rX9_rack n) x1 x2 x3 x4 y0 M).trans h)
def rX9_isAwaited (n pc : Nat) (ls st : List am_V) (M : am_M) : am_R := am_run [fX4_isOpen] [] 2 am_X0 pX9_isAwaited n pc ls st M
def gX9_isAwaited (F0 : am_F) (k : Nat → List am_V → List am_V → am_M → am_R) (pc : Nat) (ls st : List am_V) (M : am_M) : am_R := am_go [F0] [] 2 am_X0 pX9_isAwaited [2, 19] k 100 pc ls st M
theorem uX9_isAwaited {n pc : Nat} {ls st : List am_V} {M : am_M} {res : am_O × am_M} (h : gX9_isAwaited fX4_isOpen (rX9_isAwaited n) pc ls st M = some res) : rX9_isAwaited (n + 100) pc ls st M = some res := am_go_ok h
theorem eX9_isAwaited (x1 : Int32) (M : am_M) : fX9_isAwaited [.inr (9, 0), .inl (.int x1)] M = rX9_isAwaited 100000 0 [.inr (9, 0), .inl (.int x1), am_D] [] M := am_meth_eq rfl rfl
set_option maxRecDepth 20000 in
theorem gX9_isAwaited_0 (F0 : am_F) (k : Nat → List am_V → List am_V → am_M → am_R) (x1 : Int32) (M : am_M) : gX9_isAwaited F0 k 0 [.inr (9, 0), .inl (.int x1), am_D] [] M =
  k 2 [.inr (9, 0), .inl (.int x1), .inl (.int 0)] [] M := (rfl)
theorem eX9_isAwaited_0 {n : Nat} {x1 : Int32} {M : am_M} {res : am_O × am_M} (h : (rX9_isAwaited n 2 [.inr (9, 0), .inl (.int x1), .inl (.int 0)] [] M) = some res) : rX9_isAwaited (n + 100) 0 [.inr (9, 0), .inl (.int x1), am_D] [] M = some res := uX9_isAwaited ((gX9_isAwaited_0 fX4_isOpen (rX9_isAwaited n) x1 M).trans h)
set_option maxRecDepth 20000 in
theorem gX9_isAwaited_2 (F0 : am_F) (k : Nat → List am_V → List am_V → am_M → am_R) (x1 : Int32) (x2 : Int32) (M : am_M) : gX9_isAwaited F0 k 2 [.inr (9, 0), .inl (.int x1), .inl (.int x2)] [] M =
  if (M 9 0 7) ≤ x2 then
   some (.inl (some (.inl (.int 0))), M)
  else if am_in x2 40 then
   am_ret [] 16 [] (k 19 [.inr (9, 0), .inl (.int x1), .inl (.int x2)]) (F0 [.inr (4, (Int32.toNatClampNeg x2))] M)
  else none := (rfl)
theorem eX9_isAwaited_2 {n : Nat} {x1 : Int32} {x2 : Int32} {M : am_M} {res : am_O × am_M} (h : (if (M 9 0 7) ≤ x2 then
   some (.inl (some (.inl (.int 0))), M)
  else if am_in x2 40 then
   am_ret [] 16 [] (rX9_isAwaited n 19 [.inr (9, 0), .inl (.int x1), .inl (.int x2)]) (fX4_isOpen [.inr (4, (Int32.toNatClampNeg x2))] M)
  else none) = some res) : rX9_isAwaited (n + 100) 2 [.inr (9, 0), .inl (.int x1), .inl (.int x2)] [] M = some res := uX9_isAwaited ((gX9_isAwaited_2 fX4_isOpen (rX9_isAwaited n) x1 x2 M).trans h)
set_option maxRecDepth 20000 in
theorem gX9_isAwaited_19 (F0 : am_F) (k : Nat → List am_V → List am_V → am_M → am_R) (x1 : Int32) (x2 : Int32) (y0 : Int32) (M : am_M) : gX9_isAwaited F0 k 19 [.inr (9, 0), .inl (.int x1), .inl (.int x2)] [.inl (.int y0)] M =
  if y0 = 0 then
   k 2 [.inr (9, 0), .inl (.int x1), .inl (.int (x2 + 1))] [] M
  else if am_in x2 40 then
   if (M 4 (Int32.toNatClampNeg x2) 0) = x1 then
    some (.inl (some (.inl (.int 1))), M)
   else k 2 [.inr (9, 0), .inl (.int x1), .inl (.int (x2 + 1))] [] M
  else none := (rfl)
theorem eX9_isAwaited_19 {n : Nat} {x1 : Int32} {x2 : Int32} {y0 : Int32} {M : am_M} {res : am_O × am_M} (h : (if y0 = 0 then
   rX9_isAwaited n 2 [.inr (9, 0), .inl (.int x1), .inl (.int (x2 + 1))] [] M
  else if am_in x2 40 then
   if (M 4 (Int32.toNatClampNeg x2) 0) = x1 then
    some (.inl (some (.inl (.int 1))), M)
   else rX9_isAwaited n 2 [.inr (9, 0), .inl (.int x1), .inl (.int (x2 + 1))] [] M
  else none) = some res) : rX9_isAwaited (n + 100) 19 [.inr (9, 0), .inl (.int x1), .inl (.int x2)] [.inl (.int y0)] M = some res := uX9_isAwaited ((gX9_isAwaited_19 fX4_isOpen (rX9_isAwaited n) x1 x2 y0 M).trans h)
def rX9_removeRack (n pc : Nat) (ls st : List am_V) (M : am_M) : am_R := am_run [fX9_isWithin, fX9_demandArgument, fX8_isEmpty, fX9_demandElement, fX9_isAwaited, fX9_demandState] [] 1 am_X0 pX9_removeRack n pc ls st M
def gX9_removeRack (F0 F1 F2 F3 F4 F5 : am_F) (k : Nat → List am_V → List am_V → am_M → am_R) (pc : Nat) (ls st : List am_V) (M : am_M) : am_R := am_go [F0, F1, F2, F3, F4, F5] [] 1 am_X0 pX9_removeRack [6, 9, 18, 29, 42, 53] k 100 pc ls st M
theorem uX9_removeRack {n pc : Nat} {ls st : List am_V} {M : am_M} {res : am_O × am_M} (h : gX9_removeRack fX9_isWithin fX9_demandArgument fX8_isEmpty fX9_demandElement fX9_isAwaited fX9_demandState (rX9_removeRack n) pc ls st M = some res) : rX9_removeRack (n + 100) pc ls st M = some res := am_go_ok h
theorem eX9_removeRack (x1 : Int32) (M : am_M) : fX9_removeRack [.inr (9, 0), .inl (.int x1)] M = rX9_removeRack 100000 0 [.inr (9, 0), .inl (.int x1)] [] M := am_meth_eq rfl rfl
set_option maxRecDepth 20000 in
theorem gX9_removeRack_0 (F0 F1 F2 F3 F4 F5 : am_F) (k : Nat → List am_V → List am_V → am_M → am_R) (x1 : Int32) (M : am_M) : gX9_removeRack F0 F1 F2 F3 F4 F5 k 0 [.inr (9, 0), .inl (.int x1)] [] M =
  am_ret [] 3 [] (k 6 [.inr (9, 0), .inl (.int x1)]) (F0 [.inl (.int x1), .inl (.int 0), .inl (.int 5)] M) := (rfl)
theorem eX9_removeRack_0 {n : Nat} {x1 : Int32} {M : am_M} {res : am_O × am_M} (h : (am_ret [] 3 [] (rX9_removeRack n 6 [.inr (9, 0), .inl (.int x1)]) (fX9_isWithin [.inl (.int x1), .inl (.int 0), .inl (.int 5)] M)) = some res) : rX9_removeRack (n + 100) 0 [.inr (9, 0), .inl (.int x1)] [] M = some res := uX9_removeRack ((gX9_removeRack_0 fX9_isWithin fX9_demandArgument fX8_isEmpty fX9_demandElement fX9_isAwaited fX9_demandState (rX9_removeRack n) x1 M).trans h)
set_option maxRecDepth 20000 in
theorem gX9_removeRack_6 (F0 F1 F2 F3 F4 F5 : am_F) (k : Nat → List am_V → List am_V → am_M → am_R) (x1 : Int32) (y0 : Int32) (M : am_M) : gX9_removeRack F0 F1 F2 F3 F4 F5 k 6 [.inr (9, 0), .inl (.int x1)] [.inl (.int y0)] M =
  am_ret [] 6 [] (k 9 [.inr (9, 0), .inl (.int x1)]) (F1 [.inl (.int y0)] M) := (rfl)
theorem eX9_removeRack_6 {n : Nat} {x1 : Int32} {y0 : Int32} {M : am_M} {res : am_O × am_M} (h : (am_ret [] 6 [] (rX9_removeRack n 9 [.inr (9, 0), .inl (.int x1)]) (fX9_demandArgument [.inl (.int y0)] M)) = some res) : rX9_removeRack (n + 100) 6 [.inr (9, 0), .inl (.int x1)] [.inl (.int y0)] M = some res := uX9_removeRack ((gX9_removeRack_6 fX9_isWithin fX9_demandArgument fX8_isEmpty fX9_demandElement fX9_isAwaited fX9_demandState (rX9_removeRack n) x1 y0 M).trans h)
set_option maxRecDepth 20000 in
theorem gX9_removeRack_9 (F0 F1 F2 F3 F4 F5 : am_F) (k : Nat → List am_V → List am_V → am_M → am_R) (x1 : Int32) (M : am_M) : gX9_removeRack F0 F1 F2 F3 F4 F5 k 9 [.inr (9, 0), .inl (.int x1)] [] M =
  if am_in x1 6 then
   am_ret [] 15 [] (k 18 [.inr (9, 0), .inl (.int x1)]) (F2 [.inr (8, (Int32.toNatClampNeg x1))] M)
  else none := (rfl)
theorem eX9_removeRack_9 {n : Nat} {x1 : Int32} {M : am_M} {res : am_O × am_M} (h : (if am_in x1 6 then
   am_ret [] 15 [] (rX9_removeRack n 18 [.inr (9, 0), .inl (.int x1)]) (fX8_isEmpty [.inr (8, (Int32.toNatClampNeg x1))] M)
  else none) = some res) : rX9_removeRack (n + 100) 9 [.inr (9, 0), .inl (.int x1)] [] M = some res := uX9_removeRack ((gX9_removeRack_9 fX9_isWithin fX9_demandArgument fX8_isEmpty fX9_demandElement fX9_isAwaited fX9_demandState (rX9_removeRack n) x1 M).trans h)
set_option maxRecDepth 20000 in
theorem gX9_removeRack_18 (F0 F1 F2 F3 F4 F5 : am_F) (k : Nat → List am_V → List am_V → am_M → am_R) (x1 : Int32) (y0 : Int32) (M : am_M) : gX9_removeRack F0 F1 F2 F3 F4 F5 k 18 [.inr (9, 0), .inl (.int x1)] [.inl (.int y0)] M =
  if y0 = 0 then
   am_ret [] 26 [] (k 29 [.inr (9, 0), .inl (.int x1)]) (F3 [.inl (.int 1)] M)
  else am_ret [] 26 [] (k 29 [.inr (9, 0), .inl (.int x1)]) (F3 [.inl (.int 0)] M) := (rfl)
theorem eX9_removeRack_18 {n : Nat} {x1 : Int32} {y0 : Int32} {M : am_M} {res : am_O × am_M} (h : (if y0 = 0 then
   am_ret [] 26 [] (rX9_removeRack n 29 [.inr (9, 0), .inl (.int x1)]) (fX9_demandElement [.inl (.int 1)] M)
  else am_ret [] 26 [] (rX9_removeRack n 29 [.inr (9, 0), .inl (.int x1)]) (fX9_demandElement [.inl (.int 0)] M)) = some res) : rX9_removeRack (n + 100) 18 [.inr (9, 0), .inl (.int x1)] [.inl (.int y0)] M = some res := uX9_removeRack ((gX9_removeRack_18 fX9_isWithin fX9_demandArgument fX8_isEmpty fX9_demandElement fX9_isAwaited fX9_demandState (rX9_removeRack n) x1 y0 M).trans h)
set_option maxRecDepth 20000 in
theorem gX9_removeRack_29 (F0 F1 F2 F3 F4 F5 : am_F) (k : Nat → List am_V → List am_V → am_M → am_R) (x1 : Int32) (M : am_M) : gX9_removeRack F0 F1 F2 F3 F4 F5 k 29 [.inr (9, 0), .inl (.int x1)] [] M =
  if am_in x1 6 then
   am_ret [] 39 [] (k 42 [.inr (9, 0), .inl (.int x1)]) (F4 [.inr (9, 0), .inl (.int (M 8 (Int32.toNatClampNeg x1) 0))] M)
  else none := (rfl)
theorem eX9_removeRack_29 {n : Nat} {x1 : Int32} {M : am_M} {res : am_O × am_M} (h : (if am_in x1 6 then
   am_ret [] 39 [] (rX9_removeRack n 42 [.inr (9, 0), .inl (.int x1)]) (fX9_isAwaited [.inr (9, 0), .inl (.int (M 8 (Int32.toNatClampNeg x1) 0))] M)
  else none) = some res) : rX9_removeRack (n + 100) 29 [.inr (9, 0), .inl (.int x1)] [] M = some res := uX9_removeRack ((gX9_removeRack_29 fX9_isWithin fX9_demandArgument fX8_isEmpty fX9_demandElement fX9_isAwaited fX9_demandState (rX9_removeRack n) x1 M).trans h)
set_option maxRecDepth 20000 in
theorem gX9_removeRack_42 (F0 F1 F2 F3 F4 F5 : am_F) (k : Nat → List am_V → List am_V → am_M → am_R) (x1 : Int32) (y0 : Int32) (M : am_M) : gX9_removeRack F0 F1 F2 F3 F4 F5 k 42 [.inr (9, 0), .inl (.int x1)] [.inl (.int y0)] M =
  if y0 = 0 then
   am_ret [] 50 [] (k 53 [.inr (9, 0), .inl (.int x1)]) (F5 [.inl (.int 1)] M)
  else am_ret [] 50 [] (k 53 [.inr (9, 0), .inl (.int x1)]) (F5 [.inl (.int 0)] M) := (rfl)
theorem eX9_removeRack_42 {n : Nat} {x1 : Int32} {y0 : Int32} {M : am_M} {res : am_O × am_M} (h : (if y0 = 0 then
   am_ret [] 50 [] (rX9_removeRack n 53 [.inr (9, 0), .inl (.int x1)]) (fX9_demandState [.inl (.int 1)] M)
  else am_ret [] 50 [] (rX9_removeRack n 53 [.inr (9, 0), .inl (.int x1)]) (fX9_demandState [.inl (.int 0)] M)) = some res) : rX9_removeRack (n + 100) 42 [.inr (9, 0), .inl (.int x1)] [.inl (.int y0)] M = some res := uX9_removeRack ((gX9_removeRack_42 fX9_isWithin fX9_demandArgument fX8_isEmpty fX9_demandElement fX9_isAwaited fX9_demandState (rX9_removeRack n) x1 y0 M).trans h)
set_option maxRecDepth 20000 in
theorem gX9_removeRack_53 (F0 F1 F2 F3 F4 F5 : am_F) (k : Nat → List am_V → List am_V → am_M → am_R) (x1 : Int32) (M : am_M) : gX9_removeRack F0 F1 F2 F3 F4 F5 k 53 [.inr (9, 0), .inl (.int x1)] [] M =
  if am_in x1 6 then
   if am_in x1 6 then
    some (.inl (some (.inl (.int ((am_put M 8 (Int32.toNatClampNeg x1) 0 (-1)) 8 (Int32.toNatClampNeg x1) 2)))), (am_put M 8 (Int32.toNatClampNeg x1) 0 (-1)))
   else none
  else none := (rfl)
theorem eX9_removeRack_53 {n : Nat} {x1 : Int32} {M : am_M} {res : am_O × am_M} (h : (if am_in x1 6 then
   if am_in x1 6 then
    some (.inl (some (.inl (.int ((am_put M 8 (Int32.toNatClampNeg x1) 0 (-1)) 8 (Int32.toNatClampNeg x1) 2)))), (am_put M 8 (Int32.toNatClampNeg x1) 0 (-1)))
   else none
  else none) = some res) : rX9_removeRack (n + 100) 53 [.inr (9, 0), .inl (.int x1)] [] M = some res := uX9_removeRack ((gX9_removeRack_53 fX9_isWithin fX9_demandArgument fX8_isEmpty fX9_demandElement fX9_isAwaited fX9_demandState (rX9_removeRack n) x1 M).trans h)
def rX9_reagent (n pc : Nat) (ls st : List am_V) (M : am_M) : am_R := am_run [fX9_isWithin, fX9_demandArgument, fX9_demandState, fX5_fill] [] 0 am_X0 pX9_reagent n pc ls st M
def gX9_reagent (F0 F1 F2 : am_F) (k : Nat → List am_V → List am_V → am_M → am_R) (pc : Nat) (ls st : List am_V) (M : am_M) : am_R := am_go [F0, F1, F2, fX5_fill] [] 0 am_X0 pX9_reagent [7, 16, 27, 34, 50, 70] k 100 pc ls st M
theorem uX9_reagent {n pc : Nat} {ls st : List am_V} {M : am_M} {res : am_O × am_M} (h : gX9_reagent fX9_isWithin fX9_demandArgument fX9_demandState (rX9_reagent n) pc ls st M = some res) : rX9_reagent (n + 100) pc ls st M = some res := am_go_ok h
theorem eX9_reagent (x1 : Int32) (x2 : Int32) (x3 : Int32) (x4 : Int32) (M : am_M) : fX9_reagent [.inr (9, 0), .inl (.int x1), .inl (.int x2), .inl (.int x3), .inl (.int x4)] M = rX9_reagent 100000 0 [.inr (9, 0), .inl (.int x1), .inl (.int x2), .inl (.int x3), .inl (.int x4)] [] M := am_meth_eq rfl rfl
set_option maxRecDepth 20000 in
theorem gX9_reagent_0 (F0 F1 F2 : am_F) (k : Nat → List am_V → List am_V → am_M → am_R) (x1 : Int32) (x2 : Int32) (x3 : Int32) (x4 : Int32) (M : am_M) : gX9_reagent F0 F1 F2 k 0 [.inr (9, 0), .inl (.int x1), .inl (.int x2), .inl (.int x3), .inl (.int x4)] [] M =
  am_ret [] 4 [] (k 7 [.inr (9, 0), .inl (.int x1), .inl (.int x2), .inl (.int x3), .inl (.int x4)]) (F0 [.inl (.int x1), .inl (.int 0), .inl (.int 7)] M) := (rfl)
theorem eX9_reagent_0 {n : Nat} {x1 : Int32} {x2 : Int32} {x3 : Int32} {x4 : Int32} {M : am_M} {res : am_O × am_M} (h : (am_ret [] 4 [] (rX9_reagent n 7 [.inr (9, 0), .inl (.int x1), .inl (.int x2), .inl (.int x3), .inl (.int x4)]) (fX9_isWithin [.inl (.int x1), .inl (.int 0), .inl (.int 7)] M)) = some res) : rX9_reagent (n + 100) 0 [.inr (9, 0), .inl (.int x1), .inl (.int x2), .inl (.int x3), .inl (.int x4)] [] M = some res := uX9_reagent ((gX9_reagent_0 fX9_isWithin fX9_demandArgument fX9_demandState (rX9_reagent n) x1 x2 x3 x4 M).trans h)
set_option maxRecDepth 20000 in
theorem gX9_reagent_7 (F0 F1 F2 : am_F) (k : Nat → List am_V → List am_V → am_M → am_R) (x1 : Int32) (x2 : Int32) (x3 : Int32) (x4 : Int32) (y0 : Int32) (M : am_M) : gX9_reagent F0 F1 F2 k 7 [.inr (9, 0), .inl (.int x1), .inl (.int x2), .inl (.int x3), .inl (.int x4)] [.inl (.int y0)] M =
  if y0 = 0 then
   am_ret [] 24 [] (k 27 [.inr (9, 0), .inl (.int x1), .inl (.int x2), .inl (.int x3), .inl (.int x4)]) (F1 [.inl (.int 0)] M)
  else am_ret [] 13 [] (k 16 [.inr (9, 0), .inl (.int x1), .inl (.int x2), .inl (.int x3), .inl (.int x4)]) (F0 [.inl (.int x2), .inl (.int 0), .inl (.int 5)] M) := (rfl)
theorem eX9_reagent_7 {n : Nat} {x1 : Int32} {x2 : Int32} {x3 : Int32} {x4 : Int32} {y0 : Int32} {M : am_M} {res : am_O × am_M} (h : (if y0 = 0 then
   am_ret [] 24 [] (rX9_reagent n 27 [.inr (9, 0), .inl (.int x1), .inl (.int x2), .inl (.int x3), .inl (.int x4)]) (fX9_demandArgument [.inl (.int 0)] M)
  else am_ret [] 13 [] (rX9_reagent n 16 [.inr (9, 0), .inl (.int x1), .inl (.int x2), .inl (.int x3), .inl (.int x4)]) (fX9_isWithin [.inl (.int x2), .inl (.int 0), .inl (.int 5)] M)) = some res) : rX9_reagent (n + 100) 7 [.inr (9, 0), .inl (.int x1), .inl (.int x2), .inl (.int x3), .inl (.int x4)] [.inl (.int y0)] M = some res := uX9_reagent ((gX9_reagent_7 fX9_isWithin fX9_demandArgument fX9_demandState (rX9_reagent n) x1 x2 x3 x4 y0 M).trans h)
set_option maxRecDepth 20000 in
theorem gX9_reagent_27 (F0 F1 F2 : am_F) (k : Nat → List am_V → List am_V → am_M → am_R) (x1 : Int32) (x2 : Int32) (x3 : Int32) (x4 : Int32) (M : am_M) : gX9_reagent F0 F1 F2 k 27 [.inr (9, 0), .inl (.int x1), .inl (.int x2), .inl (.int x3), .inl (.int x4)] [] M =
  am_ret [] 31 [] (k 34 [.inr (9, 0), .inl (.int x1), .inl (.int x2), .inl (.int x3), .inl (.int x4)]) (F0 [.inl (.int x3), .inl (.int 0), .inl (.int 100000)] M) := (rfl)
theorem eX9_reagent_27 {n : Nat} {x1 : Int32} {x2 : Int32} {x3 : Int32} {x4 : Int32} {M : am_M} {res : am_O × am_M} (h : (am_ret [] 31 [] (rX9_reagent n 34 [.inr (9, 0), .inl (.int x1), .inl (.int x2), .inl (.int x3), .inl (.int x4)]) (fX9_isWithin [.inl (.int x3), .inl (.int 0), .inl (.int 100000)] M)) = some res) : rX9_reagent (n + 100) 27 [.inr (9, 0), .inl (.int x1), .inl (.int x2), .inl (.int x3), .inl (.int x4)] [] M = some res := uX9_reagent ((gX9_reagent_27 fX9_isWithin fX9_demandArgument fX9_demandState (rX9_reagent n) x1 x2 x3 x4 M).trans h)
set_option maxRecDepth 20000 in
theorem gX9_reagent_16 (F0 F1 F2 : am_F) (k : Nat → List am_V → List am_V → am_M → am_R) (x1 : Int32) (x2 : Int32) (x3 : Int32) (x4 : Int32) (y0 : Int32) (M : am_M) : gX9_reagent F0 F1 F2 k 16 [.inr (9, 0), .inl (.int x1), .inl (.int x2), .inl (.int x3), .inl (.int x4)] [.inl (.int y0)] M =
  if y0 = 0 then
   am_ret [] 24 [] (k 27 [.inr (9, 0), .inl (.int x1), .inl (.int x2), .inl (.int x3), .inl (.int x4)]) (F1 [.inl (.int 0)] M)
  else am_ret [] 24 [] (k 27 [.inr (9, 0), .inl (.int x1), .inl (.int x2), .inl (.int x3), .inl (.int x4)]) (F1 [.inl (.int 1)] M) := (rfl)
theorem eX9_reagent_16 {n : Nat} {x1 : Int32} {x2 : Int32} {x3 : Int32} {x4 : Int32} {y0 : Int32} {M : am_M} {res : am_O × am_M} (h : (if y0 = 0 then
   am_ret [] 24 [] (rX9_reagent n 27 [.inr (9, 0), .inl (.int x1), .inl (.int x2), .inl (.int x3), .inl (.int x4)]) (fX9_demandArgument [.inl (.int 0)] M)
  else am_ret [] 24 [] (rX9_reagent n 27 [.inr (9, 0), .inl (.int x1), .inl (.int x2), .inl (.int x3), .inl (.int x4)]) (fX9_demandArgument [.inl (.int 1)] M)) = some res) : rX9_reagent (n + 100) 16 [.inr (9, 0), .inl (.int x1), .inl (.int x2), .inl (.int x3), .inl (.int x4)] [.inl (.int y0)] M = some res := uX9_reagent ((gX9_reagent_16 fX9_isWithin fX9_demandArgument fX9_demandState (rX9_reagent n) x1 x2 x3 x4 y0 M).trans h)
set_option maxRecDepth 20000 in
theorem gX9_reagent_34 (F0 F1 F2 : am_F) (k : Nat → List am_V → List am_V → am_M → am_R) (x1 : Int32) (x2 : Int32) (x3 : Int32) (x4 : Int32) (y0 : Int32) (M : am_M) : gX9_reagent F0 F1 F2 k 34 [.inr (9, 0), .inl (.int x1), .inl (.int x2), .inl (.int x3), .inl (.int x4)] [.inl (.int y0)] M =
  if y0 = 0 then
   am_ret [] 47 [] (k 50 [.inr (9, 0), .inl (.int x1), .inl (.int x2), .inl (.int x3), .inl (.int x4)]) (F1 [.inl (.int 0)] M)
  else if x4 < 0 then
   am_ret [] 47 [] (k 50 [.inr (9, 0), .inl (.int x1), .inl (.int x2), .inl (.int x3), .inl (.int x4)]) (F1 [.inl (.int 0)] M)
  else am_ret [] 47 [] (k 50 [.inr (9, 0), .inl (.int x1), .inl (.int x2), .inl (.int x3), .inl (.int x4)]) (F1 [.inl (.int 1)] M) := (rfl)
theorem eX9_reagent_34 {n : Nat} {x1 : Int32} {x2 : Int32} {x3 : Int32} {x4 : Int32} {y0 : Int32} {M : am_M} {res : am_O × am_M} (h : (if y0 = 0 then
   am_ret [] 47 [] (rX9_reagent n 50 [.inr (9, 0), .inl (.int x1), .inl (.int x2), .inl (.int x3), .inl (.int x4)]) (fX9_demandArgument [.inl (.int 0)] M)
  else if x4 < 0 then
   am_ret [] 47 [] (rX9_reagent n 50 [.inr (9, 0), .inl (.int x1), .inl (.int x2), .inl (.int x3), .inl (.int x4)]) (fX9_demandArgument [.inl (.int 0)] M)
  else am_ret [] 47 [] (rX9_reagent n 50 [.inr (9, 0), .inl (.int x1), .inl (.int x2), .inl (.int x3), .inl (.int x4)]) (fX9_demandArgument [.inl (.int 1)] M)) = some res) : rX9_reagent (n + 100) 34 [.inr (9, 0), .inl (.int x1), .inl (.int x2), .inl (.int x3), .inl (.int x4)] [.inl (.int y0)] M = some res := uX9_reagent ((gX9_reagent_34 fX9_isWithin fX9_demandArgument fX9_demandState (rX9_reagent n) x1 x2 x3 x4 y0 M).trans h)
set_option maxRecDepth 20000 in
theorem gX9_reagent_50 (F0 F1 F2 : am_F) (k : Nat → List am_V → List am_V → am_M → am_R) (x1 : Int32) (x2 : Int32) (x3 : Int32) (x4 : Int32) (M : am_M) : gX9_reagent F0 F1 F2 k 50 [.inr (9, 0), .inl (.int x1), .inl (.int x2), .inl (.int x3), .inl (.int x4)] [] M =
  if am_in x1 8 then
   if (M 5 (Int32.toNatClampNeg x1) 2) = 0 then
    am_ret [] 67 [] (k 70 [.inr (9, 0), .inl (.int x1), .inl (.int x2), .inl (.int x3), .inl (.int x4)]) (F2 [.inl (.int 1)] M)
   else am_ret [] 67 [] (k 70 [.inr (9, 0), .inl (.int x1), .inl (.int x2), .inl (.int x3), .inl (.int x4)]) (F2 [.inl (.int 0)] M)
  else none := (rfl)
theorem eX9_reagent_50 {n : Nat} {x1 : Int32} {x2 : Int32} {x3 : Int32} {x4 : Int32} {M : am_M} {res : am_O × am_M} (h : (if am_in x1 8 then
   if (M 5 (Int32.toNatClampNeg x1) 2) = 0 then
    am_ret [] 67 [] (rX9_reagent n 70 [.inr (9, 0), .inl (.int x1), .inl (.int x2), .inl (.int x3), .inl (.int x4)]) (fX9_demandState [.inl (.int 1)] M)
   else am_ret [] 67 [] (rX9_reagent n 70 [.inr (9, 0), .inl (.int x1), .inl (.int x2), .inl (.int x3), .inl (.int x4)]) (fX9_demandState [.inl (.int 0)] M)
  else none) = some res) : rX9_reagent (n + 100) 50 [.inr (9, 0), .inl (.int x1), .inl (.int x2), .inl (.int x3), .inl (.int x4)] [] M = some res := uX9_reagent ((gX9_reagent_50 fX9_isWithin fX9_demandArgument fX9_demandState (rX9_reagent n) x1 x2 x3 x4 M).trans h)
set_option maxRecDepth 20000 in
theorem gX9_reagent_70 (F0 F1 F2 : am_F) (k : Nat → List am_V → List am_V → am_M → am_R) (x1 : Int32) (x2 : Int32) (x3 : Int32) (x4 : Int32) (M : am_M) : gX9_reagent F0 F1 F2 k 70 [.inr (9, 0), .inl (.int x1), .inl (.int x2), .inl (.int x3), .inl (.int x4)] [] M =
  if am_in x1 8 then
   some (.inl none, (am_put (am_put (am_put M 5 (Int32.toNatClampNeg x1) 0 x2) 5 (Int32.toNatClampNeg x1) 1 x3) 5 (Int32.toNatClampNeg x1) 3 x4))
  else none := (rfl)
theorem eX9_reagent_70 {n : Nat} {x1 : Int32} {x2 : Int32} {x3 : Int32} {x4 : Int32} {M : am_M} {res : am_O × am_M} (h : (if am_in x1 8 then
   some (.inl none, (am_put (am_put (am_put M 5 (Int32.toNatClampNeg x1) 0 x2) 5 (Int32.toNatClampNeg x1) 1 x3) 5 (Int32.toNatClampNeg x1) 3 x4))
  else none) = some res) : rX9_reagent (n + 100) 70 [.inr (9, 0), .inl (.int x1), .inl (.int x2), .inl (.int x3), .inl (.int x4)] [] M = some res := uX9_reagent ((gX9_reagent_70 fX9_isWithin fX9_demandArgument fX9_demandState (rX9_reagent n) x1 x2 x3 x4 M).trans h)
def rX9_forbid (n pc : Nat) (ls st : List am_V) (M : am_M) : am_R := am_run [fX9_isWithin, fX9_demandArgument, fX7_turnSuccession] [] 2 am_X0 pX9_forbid n pc ls st M
def gX9_forbid (F0 F1 F2 : am_F) (k : Nat → List am_V → List am_V → am_M → am_R) (pc : Nat) (ls st : List am_V) (M : am_M) : am_R := am_go [F0, F1, F2] [] 2 am_X0 pX9_forbid [6, 15, 26, 35] k 100 pc ls st M
theorem uX9_forbid {n pc : Nat} {ls st : List am_V} {M : am_M} {res : am_O × am_M} (h : gX9_forbid fX9_isWithin fX9_demandArgument fX7_turnSuccession (rX9_forbid n) pc ls st M = some res) : rX9_forbid (n + 100) pc ls st M = some res := am_go_ok h
theorem eX9_forbid (x1 : Int32) (x2 : Int32) (M : am_M) : fX9_forbid [.inr (9, 0), .inl (.int x1), .inl (.int x2)] M = rX9_forbid 100000 0 [.inr (9, 0), .inl (.int x1), .inl (.int x2)] [] M := am_meth_eq rfl rfl
set_option maxRecDepth 20000 in
theorem gX9_forbid_0 (F0 F1 F2 : am_F) (k : Nat → List am_V → List am_V → am_M → am_R) (x1 : Int32) (x2 : Int32) (M : am_M) : gX9_forbid F0 F1 F2 k 0 [.inr (9, 0), .inl (.int x1), .inl (.int x2)] [] M =
  am_ret [] 3 [] (k 6 [.inr (9, 0), .inl (.int x1), .inl (.int x2)]) (F0 [.inl (.int x1), .inl (.int 0), .inl (.int 5)] M) := (rfl)
theorem eX9_forbid_0 {n : Nat} {x1 : Int32} {x2 : Int32} {M : am_M} {res : am_O × am_M} (h : (am_ret [] 3 [] (rX9_forbid n 6 [.inr (9, 0), .inl (.int x1), .inl (.int x2)]) (fX9_isWithin [.inl (.int x1), .inl (.int 0), .inl (.int 5)] M)) = some res) : rX9_forbid (n + 100) 0 [.inr (9, 0), .inl (.int x1), .inl (.int x2)] [] M = some res := uX9_forbid ((gX9_forbid_0 fX9_isWithin fX9_demandArgument fX7_turnSuccession (rX9_forbid n) x1 x2 M).trans h)
set_option maxRecDepth 20000 in
theorem gX9_forbid_6 (F0 F1 F2 : am_F) (k : Nat → List am_V → List am_V → am_M → am_R) (x1 : Int32) (x2 : Int32) (y0 : Int32) (M : am_M) : gX9_forbid F0 F1 F2 k 6 [.inr (9, 0), .inl (.int x1), .inl (.int x2)] [.inl (.int y0)] M =
  if y0 = 0 then
   am_ret [] 23 [] (k 26 [.inr (9, 0), .inl (.int x1), .inl (.int x2)]) (F1 [.inl (.int 0)] M)
  else am_ret [] 12 [] (k 15 [.inr (9, 0), .inl (.int x1), .inl (.int x2)]) (F0 [.inl (.int x2), .inl (.int 0), .inl (.int 5)] M) := (rfl)
theorem eX9_forbid_6 {n : Nat} {x1 : Int32} {x2 : Int32} {y0 : Int32} {M : am_M} {res : am_O × am_M} (h : (if y0 = 0 then
   am_ret [] 23 [] (rX9_forbid n 26 [.inr (9, 0), .inl (.int x1), .inl (.int x2)]) (fX9_demandArgument [.inl (.int 0)] M)
  else am_ret [] 12 [] (rX9_forbid n 15 [.inr (9, 0), .inl (.int x1), .inl (.int x2)]) (fX9_isWithin [.inl (.int x2), .inl (.int 0), .inl (.int 5)] M)) = some res) : rX9_forbid (n + 100) 6 [.inr (9, 0), .inl (.int x1), .inl (.int x2)] [.inl (.int y0)] M = some res := uX9_forbid ((gX9_forbid_6 fX9_isWithin fX9_demandArgument fX7_turnSuccession (rX9_forbid n) x1 x2 y0 M).trans h)
set_option maxRecDepth 20000 in
theorem gX9_forbid_26 (F0 F1 F2 : am_F) (k : Nat → List am_V → List am_V → am_M → am_R) (x1 : Int32) (x2 : Int32) (M : am_M) : gX9_forbid F0 F1 F2 k 26 [.inr (9, 0), .inl (.int x1), .inl (.int x2)] [] M =
  am_ret [] 32 [] (k 35 [.inr (9, 0), .inl (.int x1), .inl (.int x2)]) (F2 [.inr (7, 0), .inl (.int x1), .inl (.int x2)] M) := (rfl)
theorem eX9_forbid_26 {n : Nat} {x1 : Int32} {x2 : Int32} {M : am_M} {res : am_O × am_M} (h : (am_ret [] 32 [] (rX9_forbid n 35 [.inr (9, 0), .inl (.int x1), .inl (.int x2)]) (fX7_turnSuccession [.inr (7, 0), .inl (.int x1), .inl (.int x2)] M)) = some res) : rX9_forbid (n + 100) 26 [.inr (9, 0), .inl (.int x1), .inl (.int x2)] [] M = some res := uX9_forbid ((gX9_forbid_26 fX9_isWithin fX9_demandArgument fX7_turnSuccession (rX9_forbid n) x1 x2 M).trans h)
set_option maxRecDepth 20000 in
theorem gX9_forbid_15 (F0 F1 F2 : am_F) (k : Nat → List am_V → List am_V → am_M → am_R) (x1 : Int32) (x2 : Int32) (y0 : Int32) (M : am_M) : gX9_forbid F0 F1 F2 k 15 [.inr (9, 0), .inl (.int x1), .inl (.int x2)] [.inl (.int y0)] M =
  if y0 = 0 then
   am_ret [] 23 [] (k 26 [.inr (9, 0), .inl (.int x1), .inl (.int x2)]) (F1 [.inl (.int 0)] M)
  else am_ret [] 23 [] (k 26 [.inr (9, 0), .inl (.int x1), .inl (.int x2)]) (F1 [.inl (.int 1)] M) := (rfl)
theorem eX9_forbid_15 {n : Nat} {x1 : Int32} {x2 : Int32} {y0 : Int32} {M : am_M} {res : am_O × am_M} (h : (if y0 = 0 then
   am_ret [] 23 [] (rX9_forbid n 26 [.inr (9, 0), .inl (.int x1), .inl (.int x2)]) (fX9_demandArgument [.inl (.int 0)] M)
  else am_ret [] 23 [] (rX9_forbid n 26 [.inr (9, 0), .inl (.int x1), .inl (.int x2)]) (fX9_demandArgument [.inl (.int 1)] M)) = some res) : rX9_forbid (n + 100) 15 [.inr (9, 0), .inl (.int x1), .inl (.int x2)] [.inl (.int y0)] M = some res := uX9_forbid ((gX9_forbid_15 fX9_isWithin fX9_demandArgument fX7_turnSuccession (rX9_forbid n) x1 x2 y0 M).trans h)
set_option maxRecDepth 20000 in
theorem gX9_forbid_35 (F0 F1 F2 : am_F) (k : Nat → List am_V → List am_V → am_M → am_R) (x1 : Int32) (x2 : Int32) (y0 : Int32) (M : am_M) : gX9_forbid F0 F1 F2 k 35 [.inr (9, 0), .inl (.int x1), .inl (.int x2)] [.inl (.int y0)] M =
  Option.map (fun o => (o, M)) (am_fin 2 .ireturn [.inr (9, 0), .inl (.int x1), .inl (.int x2)] [.inl (.int y0)]) := (rfl)
theorem eX9_forbid_35 {n : Nat} {x1 : Int32} {x2 : Int32} {y0 : Int32} {M : am_M} {res : am_O × am_M} (h : (Option.map (fun o => (o, M)) (am_fin 2 .ireturn [.inr (9, 0), .inl (.int x1), .inl (.int x2)] [.inl (.int y0)])) = some res) : rX9_forbid (n + 100) 35 [.inr (9, 0), .inl (.int x1), .inl (.int x2)] [.inl (.int y0)] M = some res := uX9_forbid ((gX9_forbid_35 fX9_isWithin fX9_demandArgument fX7_turnSuccession (rX9_forbid n) x1 x2 y0 M).trans h)
def rX9_order (n pc : Nat) (ls st : List am_V) (M : am_M) : am_R := am_run [fX9_isWithin, fX9_demandArgument, fX9_demandState, fX4_place] [] 1 am_X0 pX9_order n pc ls st M
def gX9_order (F0 F1 F2 F3 : am_F) (k : Nat → List am_V → List am_V → am_M → am_R) (pc : Nat) (ls st : List am_V) (M : am_M) : am_R := am_go [F0, F1, F2, F3] [] 1 am_X0 pX9_order [7, 16, 27, 56, 75] k 100 pc ls st M
theorem uX9_order {n pc : Nat} {ls st : List am_V} {M : am_M} {res : am_O × am_M} (h : gX9_order fX9_isWithin fX9_demandArgument fX9_demandState fX4_place (rX9_order n) pc ls st M = some res) : rX9_order (n + 100) pc ls st M = some res := am_go_ok h
theorem eX9_order (x1 : Int32) (x2 : Int32) (x3 : Int32) (M : am_M) : fX9_order [.inr (9, 0), .inl (.int x1), .inl (.int x2), .inl (.int x3)] M = rX9_order 100000 0 [.inr (9, 0), .inl (.int x1), .inl (.int x2), .inl (.int x3), am_D] [] M := am_meth_eq rfl rfl
set_option maxRecDepth 20000 in
theorem gX9_order_0 (F0 F1 F2 F3 : am_F) (k : Nat → List am_V → List am_V → am_M → am_R) (x1 : Int32) (x2 : Int32) (x3 : Int32) (M : am_M) : gX9_order F0 F1 F2 F3 k 0 [.inr (9, 0), .inl (.int x1), .inl (.int x2), .inl (.int x3), am_D] [] M =
  am_ret [] 4 [] (k 7 [.inr (9, 0), .inl (.int x1), .inl (.int x2), .inl (.int x3), am_D]) (F0 [.inl (.int x1), .inl (.int 1), .inl (.int 999999)] M) := (rfl)
theorem eX9_order_0 {n : Nat} {x1 : Int32} {x2 : Int32} {x3 : Int32} {M : am_M} {res : am_O × am_M} (h : (am_ret [] 4 [] (rX9_order n 7 [.inr (9, 0), .inl (.int x1), .inl (.int x2), .inl (.int x3), am_D]) (fX9_isWithin [.inl (.int x1), .inl (.int 1), .inl (.int 999999)] M)) = some res) : rX9_order (n + 100) 0 [.inr (9, 0), .inl (.int x1), .inl (.int x2), .inl (.int x3), am_D] [] M = some res := uX9_order ((gX9_order_0 fX9_isWithin fX9_demandArgument fX9_demandState fX4_place (rX9_order n) x1 x2 x3 M).trans h)
set_option maxRecDepth 20000 in
theorem gX9_order_7 (F0 F1 F2 F3 : am_F) (k : Nat → List am_V → List am_V → am_M → am_R) (x1 : Int32) (x2 : Int32) (x3 : Int32) (y0 : Int32) (M : am_M) : gX9_order F0 F1 F2 F3 k 7 [.inr (9, 0), .inl (.int x1), .inl (.int x2), .inl (.int x3), am_D] [.inl (.int y0)] M =
  if y0 = 0 then
   am_ret [] 24 [] (k 27 [.inr (9, 0), .inl (.int x1), .inl (.int x2), .inl (.int x3), am_D]) (F1 [.inl (.int 0)] M)
  else am_ret [] 13 [] (k 16 [.inr (9, 0), .inl (.int x1), .inl (.int x2), .inl (.int x3), am_D]) (F0 [.inl (.int x2), .inl (.int 0), .inl (.int 3)] M) := (rfl)
theorem eX9_order_7 {n : Nat} {x1 : Int32} {x2 : Int32} {x3 : Int32} {y0 : Int32} {M : am_M} {res : am_O × am_M} (h : (if y0 = 0 then
   am_ret [] 24 [] (rX9_order n 27 [.inr (9, 0), .inl (.int x1), .inl (.int x2), .inl (.int x3), am_D]) (fX9_demandArgument [.inl (.int 0)] M)
  else am_ret [] 13 [] (rX9_order n 16 [.inr (9, 0), .inl (.int x1), .inl (.int x2), .inl (.int x3), am_D]) (fX9_isWithin [.inl (.int x2), .inl (.int 0), .inl (.int 3)] M)) = some res) : rX9_order (n + 100) 7 [.inr (9, 0), .inl (.int x1), .inl (.int x2), .inl (.int x3), am_D] [.inl (.int y0)] M = some res := uX9_order ((gX9_order_7 fX9_isWithin fX9_demandArgument fX9_demandState fX4_place (rX9_order n) x1 x2 x3 y0 M).trans h)
set_option maxRecDepth 20000 in
theorem gX9_order_27 (F0 F1 F2 F3 : am_F) (k : Nat → List am_V → List am_V → am_M → am_R) (x1 : Int32) (x2 : Int32) (x3 : Int32) (M : am_M) : gX9_order F0 F1 F2 F3 k 27 [.inr (9, 0), .inl (.int x1), .inl (.int x2), .inl (.int x3), am_D] [] M =
  if am_in x2 4 then
   if (am_b (M 6 (Int32.toNatClampNeg x2) 3)) = 0 then
    am_ret [] 53 [] (k 56 [.inr (9, 0), .inl (.int x1), .inl (.int x2), .inl (.int x3), am_D]) (F2 [.inl (.int 0)] M)
   else if 40 ≤ (M 9 0 7) then
    am_ret [] 53 [] (k 56 [.inr (9, 0), .inl (.int x1), .inl (.int x2), .inl (.int x3), am_D]) (F2 [.inl (.int 0)] M)
   else am_ret [] 53 [] (k 56 [.inr (9, 0), .inl (.int x1), .inl (.int x2), .inl (.int x3), am_D]) (F2 [.inl (.int 1)] M)
  else none := (rfl)
theorem eX9_order_27 {n : Nat} {x1 : Int32} {x2 : Int32} {x3 : Int32} {M : am_M} {res : am_O × am_M} (h : (if am_in x2 4 then
   if (am_b (M 6 (Int32.toNatClampNeg x2) 3)) = 0 then
    am_ret [] 53 [] (rX9_order n 56 [.inr (9, 0), .inl (.int x1), .inl (.int x2), .inl (.int x3), am_D]) (fX9_demandState [.inl (.int 0)] M)
   else if 40 ≤ (M 9 0 7) then
    am_ret [] 53 [] (rX9_order n 56 [.inr (9, 0), .inl (.int x1), .inl (.int x2), .inl (.int x3), am_D]) (fX9_demandState [.inl (.int 0)] M)
   else am_ret [] 53 [] (rX9_order n 56 [.inr (9, 0), .inl (.int x1), .inl (.int x2), .inl (.int x3), am_D]) (fX9_demandState [.inl (.int 1)] M)
  else none) = some res) : rX9_order (n + 100) 27 [.inr (9, 0), .inl (.int x1), .inl (.int x2), .inl (.int x3), am_D] [] M = some res := uX9_order ((gX9_order_27 fX9_isWithin fX9_demandArgument fX9_demandState fX4_place (rX9_order n) x1 x2 x3 M).trans h)
set_option maxRecDepth 20000 in
theorem gX9_order_16 (F0 F1 F2 F3 : am_F) (k : Nat → List am_V → List am_V → am_M → am_R) (x1 : Int32) (x2 : Int32) (x3 : Int32) (y0 : Int32) (M : am_M) : gX9_order F0 F1 F2 F3 k 16 [.inr (9, 0), .inl (.int x1), .inl (.int x2), .inl (.int x3), am_D] [.inl (.int y0)] M =
  if y0 = 0 then
   am_ret [] 24 [] (k 27 [.inr (9, 0), .inl (.int x1), .inl (.int x2), .inl (.int x3), am_D]) (F1 [.inl (.int 0)] M)
  else am_ret [] 24 [] (k 27 [.inr (9, 0), .inl (.int x1), .inl (.int x2), .inl (.int x3), am_D]) (F1 [.inl (.int 1)] M) := (rfl)
theorem eX9_order_16 {n : Nat} {x1 : Int32} {x2 : Int32} {x3 : Int32} {y0 : Int32} {M : am_M} {res : am_O × am_M} (h : (if y0 = 0 then
   am_ret [] 24 [] (rX9_order n 27 [.inr (9, 0), .inl (.int x1), .inl (.int x2), .inl (.int x3), am_D]) (fX9_demandArgument [.inl (.int 0)] M)
  else am_ret [] 24 [] (rX9_order n 27 [.inr (9, 0), .inl (.int x1), .inl (.int x2), .inl (.int x3), am_D]) (fX9_demandArgument [.inl (.int 1)] M)) = some res) : rX9_order (n + 100) 16 [.inr (9, 0), .inl (.int x1), .inl (.int x2), .inl (.int x3), am_D] [.inl (.int y0)] M = some res := uX9_order ((gX9_order_16 fX9_isWithin fX9_demandArgument fX9_demandState fX4_place (rX9_order n) x1 x2 x3 y0 M).trans h)
set_option maxRecDepth 20000 in
theorem gX9_order_56 (F0 F1 F2 F3 : am_F) (k : Nat → List am_V → List am_V → am_M → am_R) (x1 : Int32) (x2 : Int32) (x3 : Int32) (M : am_M) : gX9_order F0 F1 F2 F3 k 56 [.inr (9, 0), .inl (.int x1), .inl (.int x2), .inl (.int x3), am_D] [] M =
  if am_in (M 9 0 7) 40 then
   am_ret [] 72 [] (k 75 [.inr (9, 0), .inl (.int x1), .inl (.int x2), .inl (.int x3), .inl (.int (M 9 0 7))]) (F3 [.inr (4, (Int32.toNatClampNeg (M 9 0 7))), .inl (.int x1), .inl (.int x2), .inl (.int x3)] M)
  else none := (rfl)
theorem eX9_order_56 {n : Nat} {x1 : Int32} {x2 : Int32} {x3 : Int32} {M : am_M} {res : am_O × am_M} (h : (if am_in (M 9 0 7) 40 then
   am_ret [] 72 [] (rX9_order n 75 [.inr (9, 0), .inl (.int x1), .inl (.int x2), .inl (.int x3), .inl (.int (M 9 0 7))]) (fX4_place [.inr (4, (Int32.toNatClampNeg (M 9 0 7))), .inl (.int x1), .inl (.int x2), .inl (.int x3)] M)
  else none) = some res) : rX9_order (n + 100) 56 [.inr (9, 0), .inl (.int x1), .inl (.int x2), .inl (.int x3), am_D] [] M = some res := uX9_order ((gX9_order_56 fX9_isWithin fX9_demandArgument fX9_demandState fX4_place (rX9_order n) x1 x2 x3 M).trans h)
set_option maxRecDepth 20000 in
theorem gX9_order_75 (F0 F1 F2 F3 : am_F) (k : Nat → List am_V → List am_V → am_M → am_R) (x1 : Int32) (x2 : Int32) (x3 : Int32) (x4 : Int32) (M : am_M) : gX9_order F0 F1 F2 F3 k 75 [.inr (9, 0), .inl (.int x1), .inl (.int x2), .inl (.int x3), .inl (.int x4)] [] M =
  some (.inl (some (.inl (.int x4))), (am_put M 9 0 7 (x4 + 1))) := (rfl)
theorem eX9_order_75 {n : Nat} {x1 : Int32} {x2 : Int32} {x3 : Int32} {x4 : Int32} {M : am_M} {res : am_O × am_M} (h : (some (.inl (some (.inl (.int x4))), (am_put M 9 0 7 (x4 + 1)))) = some res) : rX9_order (n + 100) 75 [.inr (9, 0), .inl (.int x1), .inl (.int x2), .inl (.int x3), .inl (.int x4)] [] M = some res := uX9_order ((gX9_order_75 fX9_isWithin fX9_demandArgument fX9_demandState fX4_place (rX9_order n) x1 x2 x3 x4 M).trans h)
def rX9_clock (n pc : Nat) (ls st : List am_V) (M : am_M) : am_R := am_run [fX9_demandArgument] [] 0 am_X0 pX9_clock n pc ls st M
def gX9_clock (F0 : am_F) (k : Nat → List am_V → List am_V → am_M → am_R) (pc : Nat) (ls st : List am_V) (M : am_M) : am_R := am_go [F0] [] 0 am_X0 pX9_clock [16] k 100 pc ls st M
theorem uX9_clock {n pc : Nat} {ls st : List am_V} {M : am_M} {res : am_O × am_M} (h : gX9_clock fX9_demandArgument (rX9_clock n) pc ls st M = some res) : rX9_clock (n + 100) pc ls st M = some res := am_go_ok h
theorem eX9_clock (x1 : Int32) (M : am_M) : fX9_clock [.inr (9, 0), .inl (.int x1)] M = rX9_clock 100000 0 [.inr (9, 0), .inl (.int x1)] [] M := am_meth_eq rfl rfl
set_option maxRecDepth 20000 in
theorem gX9_clock_0 (F0 : am_F) (k : Nat → List am_V → List am_V → am_M → am_R) (x1 : Int32) (M : am_M) : gX9_clock F0 k 0 [.inr (9, 0), .inl (.int x1)] [] M =
  if x1 < (M 9 0 8) then
   am_ret [] 13 [] (k 16 [.inr (9, 0), .inl (.int x1)]) (F0 [.inl (.int 0)] M)
  else am_ret [] 13 [] (k 16 [.inr (9, 0), .inl (.int x1)]) (F0 [.inl (.int 1)] M) := (rfl)
theorem eX9_clock_0 {n : Nat} {x1 : Int32} {M : am_M} {res : am_O × am_M} (h : (if x1 < (M 9 0 8) then
   am_ret [] 13 [] (rX9_clock n 16 [.inr (9, 0), .inl (.int x1)]) (fX9_demandArgument [.inl (.int 0)] M)
  else am_ret [] 13 [] (rX9_clock n 16 [.inr (9, 0), .inl (.int x1)]) (fX9_demandArgument [.inl (.int 1)] M)) = some res) : rX9_clock (n + 100) 0 [.inr (9, 0), .inl (.int x1)] [] M = some res := uX9_clock ((gX9_clock_0 fX9_demandArgument (rX9_clock n) x1 M).trans h)
set_option maxRecDepth 20000 in
theorem gX9_clock_16 (F0 : am_F) (k : Nat → List am_V → List am_V → am_M → am_R) (x1 : Int32) (M : am_M) : gX9_clock F0 k 16 [.inr (9, 0), .inl (.int x1)] [] M =
  some (.inl none, (am_put M 9 0 8 x1)) := (rfl)
theorem eX9_clock_16 {n : Nat} {x1 : Int32} {M : am_M} {res : am_O × am_M} (h : (some (.inl none, (am_put M 9 0 8 x1))) = some res) : rX9_clock (n + 100) 16 [.inr (9, 0), .inl (.int x1)] [] M = some res := uX9_clock ((gX9_clock_16 fX9_demandArgument (rX9_clock n) x1 M).trans h)
def rX9_light (n pc : Nat) (ls st : List am_V) (M : am_M) : am_R := am_run [fX9_isWithin, fX9_demandArgument] [] 0 am_X0 pX9_light n pc ls st M
def gX9_light (F0 F1 : am_F) (k : Nat → List am_V → List am_V → am_M → am_R) (pc : Nat) (ls st : List am_V) (M : am_M) : am_R := am_go [F0, F1] [] 0 am_X0 pX9_light [7, 10] k 100 pc ls st M
theorem uX9_light {n pc : Nat} {ls st : List am_V} {M : am_M} {res : am_O × am_M} (h : gX9_light fX9_isWithin fX9_demandArgument (rX9_light n) pc ls st M = some res) : rX9_light (n + 100) pc ls st M = some res := am_go_ok h
theorem eX9_light (x1 : Int32) (M : am_M) : fX9_light [.inr (9, 0), .inl (.int x1)] M = rX9_light 100000 0 [.inr (9, 0), .inl (.int x1)] [] M := am_meth_eq rfl rfl
set_option maxRecDepth 20000 in
theorem gX9_light_0 (F0 F1 : am_F) (k : Nat → List am_V → List am_V → am_M → am_R) (x1 : Int32) (M : am_M) : gX9_light F0 F1 k 0 [.inr (9, 0), .inl (.int x1)] [] M =
  am_ret [] 4 [] (k 7 [.inr (9, 0), .inl (.int x1)]) (F0 [.inl (.int x1), .inl (.int 1), .inl (.int 65535)] M) := (rfl)
theorem eX9_light_0 {n : Nat} {x1 : Int32} {M : am_M} {res : am_O × am_M} (h : (am_ret [] 4 [] (rX9_light n 7 [.inr (9, 0), .inl (.int x1)]) (fX9_isWithin [.inl (.int x1), .inl (.int 1), .inl (.int 65535)] M)) = some res) : rX9_light (n + 100) 0 [.inr (9, 0), .inl (.int x1)] [] M = some res := uX9_light ((gX9_light_0 fX9_isWithin fX9_demandArgument (rX9_light n) x1 M).trans h)
set_option maxRecDepth 20000 in
theorem gX9_light_7 (F0 F1 : am_F) (k : Nat → List am_V → List am_V → am_M → am_R) (x1 : Int32) (y0 : Int32) (M : am_M) : gX9_light F0 F1 k 7 [.inr (9, 0), .inl (.int x1)] [.inl (.int y0)] M =
  am_ret [] 7 [] (k 10 [.inr (9, 0), .inl (.int x1)]) (F1 [.inl (.int y0)] M) := (rfl)
theorem eX9_light_7 {n : Nat} {x1 : Int32} {y0 : Int32} {M : am_M} {res : am_O × am_M} (h : (am_ret [] 7 [] (rX9_light n 10 [.inr (9, 0), .inl (.int x1)]) (fX9_demandArgument [.inl (.int y0)] M)) = some res) : rX9_light (n + 100) 7 [.inr (9, 0), .inl (.int x1)] [.inl (.int y0)] M = some res := uX9_light ((gX9_light_7 fX9_isWithin fX9_demandArgument (rX9_light n) x1 y0 M).trans h)
set_option maxRecDepth 20000 in
theorem gX9_light_10 (F0 F1 : am_F) (k : Nat → List am_V → List am_V → am_M → am_R) (x1 : Int32) (M : am_M) : gX9_light F0 F1 k 10 [.inr (9, 0), .inl (.int x1)] [] M =
  some (.inl none, (am_put M 9 0 9 x1)) := (rfl)
theorem eX9_light_10 {n : Nat} {x1 : Int32} {M : am_M} {res : am_O × am_M} (h : (some (.inl none, (am_put M 9 0 9 x1))) = some res) : rX9_light (n + 100) 10 [.inr (9, 0), .inl (.int x1)] [] M = some res := uX9_light ((gX9_light_10 fX9_isWithin fX9_demandArgument (rX9_light n) x1 M).trans h)
def rX9_spoil (n pc : Nat) (ls st : List am_V) (M : am_M) : am_R := am_run [fX9_isWithin, fX9_demandArgument] [] 0 am_X0 pX9_spoil n pc ls st M
def gX9_spoil (F0 F1 : am_F) (k : Nat → List am_V → List am_V → am_M → am_R) (pc : Nat) (ls st : List am_V) (M : am_M) : am_R := am_go [F0, F1] [] 0 am_X0 pX9_spoil [6, 9] k 100 pc ls st M
theorem uX9_spoil {n pc : Nat} {ls st : List am_V} {M : am_M} {res : am_O × am_M} (h : gX9_spoil fX9_isWithin fX9_demandArgument (rX9_spoil n) pc ls st M = some res) : rX9_spoil (n + 100) pc ls st M = some res := am_go_ok h
theorem eX9_spoil (x1 : Int32) (M : am_M) : fX9_spoil [.inr (9, 0), .inl (.int x1)] M = rX9_spoil 100000 0 [.inr (9, 0), .inl (.int x1)] [] M := am_meth_eq rfl rfl
set_option maxRecDepth 20000 in
theorem gX9_spoil_0 (F0 F1 : am_F) (k : Nat → List am_V → List am_V → am_M → am_R) (x1 : Int32) (M : am_M) : gX9_spoil F0 F1 k 0 [.inr (9, 0), .inl (.int x1)] [] M =
  am_ret [] 3 [] (k 6 [.inr (9, 0), .inl (.int x1)]) (F0 [.inl (.int x1), .inl (.int 0), .inl (.int 1)] M) := (rfl)
theorem eX9_spoil_0 {n : Nat} {x1 : Int32} {M : am_M} {res : am_O × am_M} (h : (am_ret [] 3 [] (rX9_spoil n 6 [.inr (9, 0), .inl (.int x1)]) (fX9_isWithin [.inl (.int x1), .inl (.int 0), .inl (.int 1)] M)) = some res) : rX9_spoil (n + 100) 0 [.inr (9, 0), .inl (.int x1)] [] M = some res := uX9_spoil ((gX9_spoil_0 fX9_isWithin fX9_demandArgument (rX9_spoil n) x1 M).trans h)
set_option maxRecDepth 20000 in
theorem gX9_spoil_6 (F0 F1 : am_F) (k : Nat → List am_V → List am_V → am_M → am_R) (x1 : Int32) (y0 : Int32) (M : am_M) : gX9_spoil F0 F1 k 6 [.inr (9, 0), .inl (.int x1)] [.inl (.int y0)] M =
  am_ret [] 6 [] (k 9 [.inr (9, 0), .inl (.int x1)]) (F1 [.inl (.int y0)] M) := (rfl)
theorem eX9_spoil_6 {n : Nat} {x1 : Int32} {y0 : Int32} {M : am_M} {res : am_O × am_M} (h : (am_ret [] 6 [] (rX9_spoil n 9 [.inr (9, 0), .inl (.int x1)]) (fX9_demandArgument [.inl (.int y0)] M)) = some res) : rX9_spoil (n + 100) 6 [.inr (9, 0), .inl (.int x1)] [.inl (.int y0)] M = some res := uX9_spoil ((gX9_spoil_6 fX9_isWithin fX9_demandArgument (rX9_spoil n) x1 y0 M).trans h)
set_option maxRecDepth 20000 in
theorem gX9_spoil_9 (F0 F1 : am_F) (k : Nat → List am_V → List am_V → am_M → am_R) (x1 : Int32) (M : am_M) : gX9_spoil F0 F1 k 9 [.inr (9, 0), .inl (.int x1)] [] M =
  if x1 = 0 then
   some (.inl none, (am_put M 9 0 10 1))
  else some (.inl none, (am_put M 9 0 11 1)) := (rfl)
theorem eX9_spoil_9 {n : Nat} {x1 : Int32} {M : am_M} {res : am_O × am_M} (h : (if x1 = 0 then
   some (.inl none, (am_put M 9 0 10 1))
  else some (.inl none, (am_put M 9 0 11 1))) = some res) : rX9_spoil (n + 100) 9 [.inr (9, 0), .inl (.int x1)] [] M = some res := uX9_spoil ((gX9_spoil_9 fX9_isWithin fX9_demandArgument (rX9_spoil n) x1 M).trans h)
def rX9_turnDisc (n pc : Nat) (ls st : List am_V) (M : am_M) : am_R := am_run [fX1_turn, fX7_turn] [] 0 am_X0 pX9_turnDisc n pc ls st M
def gX9_turnDisc (F0 F1 : am_F) (k : Nat → List am_V → List am_V → am_M → am_R) (pc : Nat) (ls st : List am_V) (M : am_M) : am_R := am_go [F0, F1] [] 0 am_X0 pX9_turnDisc [2, 17, 30] k 100 pc ls st M
theorem uX9_turnDisc {n pc : Nat} {ls st : List am_V} {M : am_M} {res : am_O × am_M} (h : gX9_turnDisc fX1_turn fX7_turn (rX9_turnDisc n) pc ls st M = some res) : rX9_turnDisc (n + 100) pc ls st M = some res := am_go_ok h
theorem eX9_turnDisc (M : am_M) : fX9_turnDisc [.inr (9, 0)] M = rX9_turnDisc 100000 0 [.inr (9, 0), am_D] [] M := am_meth_eq rfl rfl
set_option maxRecDepth 20000 in
theorem gX9_turnDisc_0 (F0 F1 : am_F) (k : Nat → List am_V → List am_V → am_M → am_R) (M : am_M) : gX9_turnDisc F0 F1 k 0 [.inr (9, 0), am_D] [] M =
  k 2 [.inr (9, 0), .inl (.int 0)] [] M := (rfl)
theorem eX9_turnDisc_0 {n : Nat} {M : am_M} {res : am_O × am_M} (h : (rX9_turnDisc n 2 [.inr (9, 0), .inl (.int 0)] [] M) = some res) : rX9_turnDisc (n + 100) 0 [.inr (9, 0), am_D] [] M = some res := uX9_turnDisc ((gX9_turnDisc_0 fX1_turn fX7_turn (rX9_turnDisc n) M).trans h)
set_option maxRecDepth 20000 in
theorem gX9_turnDisc_2 (F0 F1 : am_F) (k : Nat → List am_V → List am_V → am_M → am_R) (x1 : Int32) (M : am_M) : gX9_turnDisc F0 F1 k 2 [.inr (9, 0), .inl (.int x1)] [] M =
  if 10 ≤ x1 then
   am_ret [] 27 [] (k 30 [.inr (9, 0), .inl (.int x1)]) (F1 [.inr (7, 0)] M)
  else if am_in x1 10 then
   am_ret [] 14 [] (k 17 [.inr (9, 0), .inl (.int x1)]) (F0 [.inr (1, (Int32.toNatClampNeg x1))] M)
  else none := (rfl)
theorem eX9_turnDisc_2 {n : Nat} {x1 : Int32} {M : am_M} {res : am_O × am_M} (h : (if 10 ≤ x1 then
   am_ret [] 27 [] (rX9_turnDisc n 30 [.inr (9, 0), .inl (.int x1)]) (fX7_turn [.inr (7, 0)] M)
  else if am_in x1 10 then
   am_ret [] 14 [] (rX9_turnDisc n 17 [.inr (9, 0), .inl (.int x1)]) (fX1_turn [.inr (1, (Int32.toNatClampNeg x1))] M)
  else none) = some res) : rX9_turnDisc (n + 100) 2 [.inr (9, 0), .inl (.int x1)] [] M = some res := uX9_turnDisc ((gX9_turnDisc_2 fX1_turn fX7_turn (rX9_turnDisc n) x1 M).trans h)
set_option maxRecDepth 20000 in
theorem gX9_turnDisc_30 (F0 F1 : am_F) (k : Nat → List am_V → List am_V → am_M → am_R) (x1 : Int32) (M : am_M) : gX9_turnDisc F0 F1 k 30 [.inr (9, 0), .inl (.int x1)] [] M =
  some (.inl none, M) := (rfl)
theorem eX9_turnDisc_30 {n : Nat} {x1 : Int32} {M : am_M} {res : am_O × am_M} (h : (some (.inl none, M)) = some res) : rX9_turnDisc (n + 100) 30 [.inr (9, 0), .inl (.int x1)] [] M = some res := uX9_turnDisc ((gX9_turnDisc_30 fX1_turn fX7_turn (rX9_turnDisc n) x1 M).trans h)
set_option maxRecDepth 20000 in
theorem gX9_turnDisc_17 (F0 F1 : am_F) (k : Nat → List am_V → List am_V → am_M → am_R) (x1 : Int32) (M : am_M) : gX9_turnDisc F0 F1 k 17 [.inr (9, 0), .inl (.int x1)] [] M =
  k 2 [.inr (9, 0), .inl (.int (x1 + 1))] [] M := (rfl)
theorem eX9_turnDisc_17 {n : Nat} {x1 : Int32} {M : am_M} {res : am_O × am_M} (h : (rX9_turnDisc n 2 [.inr (9, 0), .inl (.int (x1 + 1))] [] M) = some res) : rX9_turnDisc (n + 100) 17 [.inr (9, 0), .inl (.int x1)] [] M = some res := uX9_turnDisc ((gX9_turnDisc_17 fX1_turn fX7_turn (rX9_turnDisc n) x1 M).trans h)
def rX9_breakOff (n pc : Nat) (ls st : List am_V) (M : am_M) : am_R := am_run [fX9_isWithin, fX7_cancel, fX4_breakOff, fX1_sendToWash] [] 0 am_X0 pX9_breakOff n pc ls st M
def gX9_breakOff (F0 F1 F2 : am_F) (k : Nat → List am_V → List am_V → am_M → am_R) (pc : Nat) (ls st : List am_V) (M : am_M) : am_R := am_go [F0, F1, F2, fX1_sendToWash] [] 0 am_X0 pX9_breakOff [13, 32, 76, 90, 106] k 100 pc ls st M
theorem uX9_breakOff {n pc : Nat} {ls st : List am_V} {M : am_M} {res : am_O × am_M} (h : gX9_breakOff fX9_isWithin fX7_cancel fX4_breakOff (rX9_breakOff n) pc ls st M = some res) : rX9_breakOff (n + 100) pc ls st M = some res := am_go_ok h
theorem eX9_breakOff (x1 : Int32) (x2 : Int32) (M : am_M) : fX9_breakOff [.inr (9, 0), .inl (.int x1), .inl (.int x2)] M = rX9_breakOff 100000 0 [.inr (9, 0), .inl (.int x1), .inl (.int x2), am_D, am_D] [] M := am_meth_eq rfl rfl
set_option maxRecDepth 20000 in
theorem gX9_breakOff_0 (F0 F1 F2 : am_F) (k : Nat → List am_V → List am_V → am_M → am_R) (x1 : Int32) (x2 : Int32) (M : am_M) : gX9_breakOff F0 F1 F2 k 0 [.inr (9, 0), .inl (.int x1), .inl (.int x2), am_D, am_D] [] M =
  if am_in x1 10 then
   k 13 [.inr (9, 0), .inl (.int x1), .inl (.int x2), .inr (1, (Int32.toNatClampNeg x1)), .inl (.int (M 1 (Int32.toNatClampNeg x1) 4))] [] M
  else none := (rfl)
theorem eX9_breakOff_0 {n : Nat} {x1 : Int32} {x2 : Int32} {M : am_M} {res : am_O × am_M} (h : (if am_in x1 10 then
   rX9_breakOff n 13 [.inr (9, 0), .inl (.int x1), .inl (.int x2), .inr (1, (Int32.toNatClampNeg x1)), .inl (.int (M 1 (Int32.toNatClampNeg x1) 4))] [] M
  else none) = some res) : rX9_breakOff (n + 100) 0 [.inr (9, 0), .inl (.int x1), .inl (.int x2), am_D, am_D] [] M = some res := uX9_breakOff ((gX9_breakOff_0 fX9_isWithin fX7_cancel fX4_breakOff (rX9_breakOff n) x1 x2 M).trans h)
set_option maxRecDepth 20000 in
theorem gX9_breakOff_13 (F0 F1 F2 : am_F) (k : Nat → List am_V → List am_V → am_M → am_R) (x1 : Int32) (x2 : Int32) (x3 : Nat) (x4 : Int32) (M : am_M) : gX9_breakOff F0 F1 F2 k 13 [.inr (9, 0), .inl (.int x1), .inl (.int x2), .inr (1, x3), .inl (.int x4)] [] M =
  if 2 ≤ x4 then
   am_ret [] 73 [] (k 76 [.inr (9, 0), .inl (.int x1), .inl (.int x2), .inr (1, x3), .inl (.int x4)]) (F1 [.inr (7, 0), .inl (.int x1)] M)
  else if am_in x4 2 then
   am_ret [] 29 [] (k 32 [.inr (9, 0), .inl (.int x1), .inl (.int x2), .inr (1, x3), .inl (.int x4)]) (F0 [.inl (.int (M 14 x3 (Int32.toNatClampNeg x4))), .inl (.int 0), .inl (.int 7)] M)
  else none := (rfl)
theorem eX9_breakOff_13 {n : Nat} {x1 : Int32} {x2 : Int32} {x3 : Nat} {x4 : Int32} {M : am_M} {res : am_O × am_M} (h : (if 2 ≤ x4 then
   am_ret [] 73 [] (rX9_breakOff n 76 [.inr (9, 0), .inl (.int x1), .inl (.int x2), .inr (1, x3), .inl (.int x4)]) (fX7_cancel [.inr (7, 0), .inl (.int x1)] M)
  else if am_in x4 2 then
   am_ret [] 29 [] (rX9_breakOff n 32 [.inr (9, 0), .inl (.int x1), .inl (.int x2), .inr (1, x3), .inl (.int x4)]) (fX9_isWithin [.inl (.int (M 14 x3 (Int32.toNatClampNeg x4))), .inl (.int 0), .inl (.int 7)] M)
  else none) = some res) : rX9_breakOff (n + 100) 13 [.inr (9, 0), .inl (.int x1), .inl (.int x2), .inr (1, x3), .inl (.int x4)] [] M = some res := uX9_breakOff ((gX9_breakOff_13 fX9_isWithin fX7_cancel fX4_breakOff (rX9_breakOff n) x1 x2 x3 x4 M).trans h)
set_option maxRecDepth 20000 in
theorem gX9_breakOff_76 (F0 F1 F2 : am_F) (k : Nat → List am_V → List am_V → am_M → am_R) (x1 : Int32) (x2 : Int32) (x3 : Nat) (x4 : Int32) (M : am_M) : gX9_breakOff F0 F1 F2 k 76 [.inr (9, 0), .inl (.int x1), .inl (.int x2), .inr (1, x3), .inl (.int x4)] [] M =
  am_ret [] 87 [] (k 90 [.inr (9, 0), .inl (.int x1), .inl (.int x2), .inr (1, x3), .inl (.int x4)]) (F0 [.inl (.int (M 1 x3 5)), .inl (.int 0), .inl (.int ((M 9 0 7) - 1))] M) := (rfl)
theorem eX9_breakOff_76 {n : Nat} {x1 : Int32} {x2 : Int32} {x3 : Nat} {x4 : Int32} {M : am_M} {res : am_O × am_M} (h : (am_ret [] 87 [] (rX9_breakOff n 90 [.inr (9, 0), .inl (.int x1), .inl (.int x2), .inr (1, x3), .inl (.int x4)]) (fX9_isWithin [.inl (.int (M 1 x3 5)), .inl (.int 0), .inl (.int ((M 9 0 7) - 1))] M)) = some res) : rX9_breakOff (n + 100) 76 [.inr (9, 0), .inl (.int x1), .inl (.int x2), .inr (1, x3), .inl (.int x4)] [] M = some res := uX9_breakOff ((gX9_breakOff_76 fX9_isWithin fX7_cancel fX4_breakOff (rX9_breakOff n) x1 x2 x3 x4 M).trans h)
set_option maxRecDepth 20000 in
theorem gX9_breakOff_32 (F0 F1 F2 : am_F) (k : Nat → List am_V → List am_V → am_M → am_R) (x1 : Int32) (x2 : Int32) (x3 : Nat) (x4 : Int32) (y0 : Int32) (M : am_M) : gX9_breakOff F0 F1 F2 k 32 [.inr (9, 0), .inl (.int x1), .inl (.int x2), .inr (1, x3), .inl (.int x4)] [.inl (.int y0)] M =
  if y0 = 0 then
   k 13 [.inr (9, 0), .inl (.int x1), .inl (.int x2), .inr (1, x3), .inl (.int (x4 + 1))] [] M
  else if am_in x4 2 then
   if am_in (M 14 x3 (Int32.toNatClampNeg x4)) 8 then
    if am_in x4 2 then
     k 13 [.inr (9, 0), .inl (.int x1), .inl (.int x2), .inr (1, x3), .inl (.int (x4 + 1))] [] (am_put M 5 (Int32.toNatClampNeg (M 14 x3 (Int32.toNatClampNeg x4))) 2 ((M 5 (Int32.toNatClampNeg (M 14 x3 (Int32.toNatClampNeg x4))) 2) - (M 15 x3 (Int32.toNatClampNeg x4))))
    else none
   else none
  else none := (rfl)
theorem eX9_breakOff_32 {n : Nat} {x1 : Int32} {x2 : Int32} {x3 : Nat} {x4 : Int32} {y0 : Int32} {M : am_M} {res : am_O × am_M} (h : (if y0 = 0 then
   rX9_breakOff n 13 [.inr (9, 0), .inl (.int x1), .inl (.int x2), .inr (1, x3), .inl (.int (x4 + 1))] [] M
  else if am_in x4 2 then
   if am_in (M 14 x3 (Int32.toNatClampNeg x4)) 8 then
    if am_in x4 2 then
     rX9_breakOff n 13 [.inr (9, 0), .inl (.int x1), .inl (.int x2), .inr (1, x3), .inl (.int (x4 + 1))] [] (am_put M 5 (Int32.toNatClampNeg (M 14 x3 (Int32.toNatClampNeg x4))) 2 ((M 5 (Int32.toNatClampNeg (M 14 x3 (Int32.toNatClampNeg x4))) 2) - (M 15 x3 (Int32.toNatClampNeg x4))))
    else none
   else none
  else none) = some res) : rX9_breakOff (n + 100) 32 [.inr (9, 0), .inl (.int x1), .inl (.int x2), .inr (1, x3), .inl (.int x4)] [.inl (.int y0)] M = some res := uX9_breakOff ((gX9_breakOff_32 fX9_isWithin fX7_cancel fX4_breakOff (rX9_breakOff n) x1 x2 x3 x4 y0 M).trans h)
set_option maxRecDepth 20000 in
theorem gX9_breakOff_90 (F0 F1 F2 : am_F) (k : Nat → List am_V → List am_V → am_M → am_R) (x1 : Int32) (x2 : Int32) (x3 : Nat) (x4 : Int32) (y0 : Int32) (M : am_M) : gX9_breakOff F0 F1 F2 k 90 [.inr (9, 0), .inl (.int x1), .inl (.int x2), .inr (1, x3), .inl (.int x4)] [.inl (.int y0)] M =
  if y0 = 0 then
   k 106 [.inr (9, 0), .inl (.int x1), .inl (.int x2), .inr (1, x3), .inl (.int x4)] [] M
  else if am_in (M 1 x3 5) 40 then
   am_ret [] 103 [] (k 106 [.inr (9, 0), .inl (.int x1), .inl (.int x2), .inr (1, x3), .inl (.int x4)]) (F2 [.inr (4, (Int32.toNatClampNeg (M 1 x3 5))), .inl (.int x2)] M)
  else none := (rfl)
theorem eX9_breakOff_90 {n : Nat} {x1 : Int32} {x2 : Int32} {x3 : Nat} {x4 : Int32} {y0 : Int32} {M : am_M} {res : am_O × am_M} (h : (if y0 = 0 then
   rX9_breakOff n 106 [.inr (9, 0), .inl (.int x1), .inl (.int x2), .inr (1, x3), .inl (.int x4)] [] M
  else if am_in (M 1 x3 5) 40 then
   am_ret [] 103 [] (rX9_breakOff n 106 [.inr (9, 0), .inl (.int x1), .inl (.int x2), .inr (1, x3), .inl (.int x4)]) (fX4_breakOff [.inr (4, (Int32.toNatClampNeg (M 1 x3 5))), .inl (.int x2)] M)
  else none) = some res) : rX9_breakOff (n + 100) 90 [.inr (9, 0), .inl (.int x1), .inl (.int x2), .inr (1, x3), .inl (.int x4)] [.inl (.int y0)] M = some res := uX9_breakOff ((gX9_breakOff_90 fX9_isWithin fX7_cancel fX4_breakOff (rX9_breakOff n) x1 x2 x3 x4 y0 M).trans h)
set_option maxRecDepth 20000 in
theorem gX9_breakOff_106 (F0 F1 F2 : am_F) (k : Nat → List am_V → List am_V → am_M → am_R) (x1 : Int32) (x2 : Int32) (x3 : Nat) (x4 : Int32) (M : am_M) : gX9_breakOff F0 F1 F2 k 106 [.inr (9, 0), .inl (.int x1), .inl (.int x2), .inr (1, x3), .inl (.int x4)] [] M =
  some (.inl none, (am_put (am_put (am_put M 1 x3 5 (-1)) 1 x3 9 0) 1 x3 8 3)) := (rfl)
theorem eX9_breakOff_106 {n : Nat} {x1 : Int32} {x2 : Int32} {x3 : Nat} {x4 : Int32} {M : am_M} {res : am_O × am_M} (h : (some (.inl none, (am_put (am_put (am_put M 1 x3 5 (-1)) 1 x3 9 0) 1 x3 8 3))) = some res) : rX9_breakOff (n + 100) 106 [.inr (9, 0), .inl (.int x1), .inl (.int x2), .inr (1, x3), .inl (.int x4)] [] M = some res := uX9_breakOff ((gX9_breakOff_106 fX9_isWithin fX7_cancel fX4_breakOff (rX9_breakOff n) x1 x2 x3 x4 M).trans h)
def rX9_giveNextDose (n pc : Nat) (ls st : List am_V) (M : am_M) : am_R := am_run [fX9_isWithin] [] 0 am_X0 pX9_giveNextDose n pc ls st M
def gX9_giveNextDose (F0 : am_F) (k : Nat → List am_V → List am_V → am_M → am_R) (pc : Nat) (ls st : List am_V) (M : am_M) : am_R := am_go [F0] [] 0 am_X0 pX9_giveNextDose [22] k 100 pc ls st M
theorem uX9_giveNextDose {n pc : Nat} {ls st : List am_V} {M : am_M} {res : am_O × am_M} (h : gX9_giveNextDose fX9_isWithin (rX9_giveNextDose n) pc ls st M = some res) : rX9_giveNextDose (n + 100) pc ls st M = some res := am_go_ok h
theorem eX9_giveNextDose (x1 : Nat) (M : am_M) : fX9_giveNextDose [.inr (9, 0), .inr (1, x1)] M = rX9_giveNextDose 100000 0 [.inr (9, 0), .inr (1, x1), am_D, am_D, am_D] [] M := am_meth_eq rfl rfl
set_option maxRecDepth 20000 in
theorem gX9_giveNextDose_0 (F0 : am_F) (k : Nat → List am_V → List am_V → am_M → am_R) (x1 : Nat) (M : am_M) : gX9_giveNextDose F0 k 0 [.inr (9, 0), .inr (1, x1), am_D, am_D, am_D] [] M =
  if 2 ≤ (M 1 x1 4) then
   some (.inl none, M)
  else if am_in (M 1 x1 4) 2 then
   am_ret [] 19 [] (k 22 [.inr (9, 0), .inr (1, x1), .inl (.int (M 1 x1 4)), am_D, am_D]) (F0 [.inl (.int (M 14 x1 (Int32.toNatClampNeg (M 1 x1 4)))), .inl (.int 0), .inl (.int 7)] M)
  else none := (rfl)
theorem eX9_giveNextDose_0 {n : Nat} {x1 : Nat} {M : am_M} {res : am_O × am_M} (h : (if 2 ≤ (M 1 x1 4) then
   some (.inl none, M)
  else if am_in (M 1 x1 4) 2 then
   am_ret [] 19 [] (rX9_giveNextDose n 22 [.inr (9, 0), .inr (1, x1), .inl (.int (M 1 x1 4)), am_D, am_D]) (fX9_isWithin [.inl (.int (M 14 x1 (Int32.toNatClampNeg (M 1 x1 4)))), .inl (.int 0), .inl (.int 7)] M)
  else none) = some res) : rX9_giveNextDose (n + 100) 0 [.inr (9, 0), .inr (1, x1), am_D, am_D, am_D] [] M = some res := uX9_giveNextDose ((gX9_giveNextDose_0 fX9_isWithin (rX9_giveNextDose n) x1 M).trans h)
set_option maxRecDepth 20000 in
theorem gX9_giveNextDose_22 (F0 : am_F) (k : Nat → List am_V → List am_V → am_M → am_R) (x1 : Nat) (x2 : Int32) (y0 : Int32) (M : am_M) : gX9_giveNextDose F0 k 22 [.inr (9, 0), .inr (1, x1), .inl (.int x2), am_D, am_D] [.inl (.int y0)] M =
  if y0 = 0 then
   some (.inl none, M)
  else if am_in x2 2 then
   if am_in x2 2 then
    if am_in (M 14 x1 (Int32.toNatClampNeg x2)) 8 then
     some (.inl none, (am_put (am_put (am_put (am_put M 5 (Int32.toNatClampNeg (M 14 x1 (Int32.toNatClampNeg x2))) 2 ((M 5 (Int32.toNatClampNeg (M 14 x1 (Int32.toNatClampNeg x2))) 2) - (M 15 x1 (Int32.toNatClampNeg x2)))) 5 (Int32.toNatClampNeg (M 14 x1 (Int32.toNatClampNeg x2))) 1 (((am_put M 5 (Int32.toNatClampNeg (M 14 x1 (Int32.toNatClampNeg x2))) 2 ((M 5 (Int32.toNatClampNeg (M 14 x1 (Int32.toNatClampNeg x2))) 2) - (M 15 x1 (Int32.toNatClampNeg x2)))) 5 (Int32.toNatClampNeg (M 14 x1 (Int32.toNatClampNeg x2))) 1) - (M 15 x1 (Int32.toNatClampNeg x2)))) 1 x1 9 ((M 1 x1 9) + (M 15 x1 (Int32.toNatClampNeg x2)))) 1 x1 4 (x2 + 1)))
    else none
   else none
  else none := (rfl)
theorem eX9_giveNextDose_22 {n : Nat} {x1 : Nat} {x2 : Int32} {y0 : Int32} {M : am_M} {res : am_O × am_M} (h : (if y0 = 0 then
   some (.inl none, M)
  else if am_in x2 2 then
   if am_in x2 2 then
    if am_in (M 14 x1 (Int32.toNatClampNeg x2)) 8 then
     some (.inl none, (am_put (am_put (am_put (am_put M 5 (Int32.toNatClampNeg (M 14 x1 (Int32.toNatClampNeg x2))) 2 ((M 5 (Int32.toNatClampNeg (M 14 x1 (Int32.toNatClampNeg x2))) 2) - (M 15 x1 (Int32.toNatClampNeg x2)))) 5 (Int32.toNatClampNeg (M 14 x1 (Int32.toNatClampNeg x2))) 1 (((am_put M 5 (Int32.toNatClampNeg (M 14 x1 (Int32.toNatClampNeg x2))) 2 ((M 5 (Int32.toNatClampNeg (M 14 x1 (Int32.toNatClampNeg x2))) 2) - (M 15 x1 (Int32.toNatClampNeg x2)))) 5 (Int32.toNatClampNeg (M 14 x1 (Int32.toNatClampNeg x2))) 1) - (M 15 x1 (Int32.toNatClampNeg x2)))) 1 x1 9 ((M 1 x1 9) + (M 15 x1 (Int32.toNatClampNeg x2)))) 1 x1 4 (x2 + 1)))
    else none
   else none
  else none) = some res) : rX9_giveNextDose (n + 100) 22 [.inr (9, 0), .inr (1, x1), .inl (.int x2), am_D, am_D] [.inl (.int y0)] M = some res := uX9_giveNextDose ((gX9_giveNextDose_22 fX9_isWithin (rX9_giveNextDose n) x1 x2 y0 M).trans h)
def rX9_giveReagent (n pc : Nat) (ls st : List am_V) (M : am_M) : am_R := am_run [fX7_userNow, fX9_isWithin, fX9_breakOff, fX9_giveNextDose] [] 0 am_X0 pX9_giveReagent n pc ls st M
def gX9_giveReagent (F0 F1 F2 : am_F) (k : Nat → List am_V → List am_V → am_M → am_R) (pc : Nat) (ls st : List am_V) (M : am_M) : am_R := am_go [fX7_userNow, F0, F1, F2] [] 0 am_X0 pX9_giveReagent [15, 37, 50] k 100 pc ls st M
theorem uX9_giveReagent {n pc : Nat} {ls st : List am_V} {M : am_M} {res : am_O × am_M} (h : gX9_giveReagent fX9_isWithin fX9_breakOff fX9_giveNextDose (rX9_giveReagent n) pc ls st M = some res) : rX9_giveReagent (n + 100) pc ls st M = some res := am_go_ok h
theorem eX9_giveReagent (M : am_M) : fX9_giveReagent [.inr (9, 0)] M = rX9_giveReagent 100000 0 [.inr (9, 0), am_D] [] M := am_meth_eq rfl rfl
set_option maxRecDepth 20000 in
theorem gX9_giveReagent_0 (F0 F1 F2 : am_F) (k : Nat → List am_V → List am_V → am_M → am_R) (M : am_M) : gX9_giveReagent F0 F1 F2 k 0 [.inr (9, 0), am_D] [] M =
  am_ret [] 12 [] (k 15 [.inr (9, 0), .inl (.int (M 20 0 0))]) (F0 [.inl (.int (M 20 0 0)), .inl (.int 0), .inl (.int 9)] M) := (rfl)
theorem eX9_giveReagent_0 {n : Nat} {M : am_M} {res : am_O × am_M} (h : (am_ret [] 12 [] (rX9_giveReagent n 15 [.inr (9, 0), .inl (.int (M 20 0 0))]) (fX9_isWithin [.inl (.int (M 20 0 0)), .inl (.int 0), .inl (.int 9)] M)) = some res) : rX9_giveReagent (n + 100) 0 [.inr (9, 0), am_D] [] M = some res := uX9_giveReagent ((gX9_giveReagent_0 fX9_isWithin fX9_breakOff fX9_giveNextDose (rX9_giveReagent n) M).trans h)
set_option maxRecDepth 20000 in
theorem gX9_giveReagent_15 (F0 F1 F2 : am_F) (k : Nat → List am_V → List am_V → am_M → am_R) (x1 : Int32) (y0 : Int32) (M : am_M) : gX9_giveReagent F0 F1 F2 k 15 [.inr (9, 0), .inl (.int x1)] [.inl (.int y0)] M =
  if y0 = 0 then
   some (.inl none, M)
  else if (am_b (M 9 0 11)) = 0 then
   if am_in x1 10 then
    am_ret [] 47 [] (k 50 [.inr (9, 0), .inl (.int x1)]) (F2 [.inr (9, 0), .inr (1, (Int32.toNatClampNeg x1))] M)
   else none
  else am_ret [] 34 [] (k 37 [.inr (9, 0), .inl (.int x1)]) (F1 [.inr (9, 0), .inl (.int x1), .inl (.int 4)] (am_put M 9 0 11 0)) := (rfl)
theorem eX9_giveReagent_15 {n : Nat} {x1 : Int32} {y0 : Int32} {M : am_M} {res : am_O × am_M} (h : (if y0 = 0 then
   some (.inl none, M)
  else if (am_b (M 9 0 11)) = 0 then
   if am_in x1 10 then
    am_ret [] 47 [] (rX9_giveReagent n 50 [.inr (9, 0), .inl (.int x1)]) (fX9_giveNextDose [.inr (9, 0), .inr (1, (Int32.toNatClampNeg x1))] M)
   else none
  else am_ret [] 34 [] (rX9_giveReagent n 37 [.inr (9, 0), .inl (.int x1)]) (fX9_breakOff [.inr (9, 0), .inl (.int x1), .inl (.int 4)] (am_put M 9 0 11 0))) = some res) : rX9_giveReagent (n + 100) 15 [.inr (9, 0), .inl (.int x1)] [.inl (.int y0)] M = some res := uX9_giveReagent ((gX9_giveReagent_15 fX9_isWithin fX9_breakOff fX9_giveNextDose (rX9_giveReagent n) x1 y0 M).trans h)
set_option maxRecDepth 20000 in
theorem gX9_giveReagent_50 (F0 F1 F2 : am_F) (k : Nat → List am_V → List am_V → am_M → am_R) (x1 : Int32) (M : am_M) : gX9_giveReagent F0 F1 F2 k 50 [.inr (9, 0), .inl (.int x1)] [] M =
  some (.inl none, M) := (rfl)
theorem eX9_giveReagent_50 {n : Nat} {x1 : Int32} {M : am_M} {res : am_O × am_M} (h : (some (.inl none, M)) = some res) : rX9_giveReagent (n + 100) 50 [.inr (9, 0), .inl (.int x1)] [] M = some res := uX9_giveReagent ((gX9_giveReagent_50 fX9_isWithin fX9_breakOff fX9_giveNextDose (rX9_giveReagent n) x1 M).trans h)
set_option maxRecDepth 20000 in
theorem gX9_giveReagent_37 (F0 F1 F2 : am_F) (k : Nat → List am_V → List am_V → am_M → am_R) (x1 : Int32) (M : am_M) : gX9_giveReagent F0 F1 F2 k 37 [.inr (9, 0), .inl (.int x1)] [] M =
  k 50 [.inr (9, 0), .inl (.int x1)] [] M := (rfl)
theorem eX9_giveReagent_37 {n : Nat} {x1 : Int32} {M : am_M} {res : am_O × am_M} (h : (rX9_giveReagent n 50 [.inr (9, 0), .inl (.int x1)] [] M) = some res) : rX9_giveReagent (n + 100) 37 [.inr (9, 0), .inl (.int x1)] [] M = some res := uX9_giveReagent ((gX9_giveReagent_37 fX9_isWithin fX9_breakOff fX9_giveNextDose (rX9_giveReagent n) x1 M).trans h)
def rX9_absorbanceOf (n pc : Nat) (ls st : List am_V) (M : am_M) : am_R := am_run [] [] 1 am_X0 pX9_absorbanceOf n pc ls st M
def gX9_absorbanceOf (k : Nat → List am_V → List am_V → am_M → am_R) (pc : Nat) (ls st : List am_V) (M : am_M) : am_R := am_go [] [] 1 am_X0 pX9_absorbanceOf [4, 38] k 100 pc ls st M
theorem uX9_absorbanceOf {n pc : Nat} {ls st : List am_V} {M : am_M} {res : am_O × am_M} (h : gX9_absorbanceOf (rX9_absorbanceOf n) pc ls st M = some res) : rX9_absorbanceOf (n + 100) pc ls st M = some res := am_go_ok h
theorem eX9_absorbanceOf (x0 : Int32) (M : am_M) : fX9_absorbanceOf [.inl (.int x0)] M = rX9_absorbanceOf 100000 0 [.inl (.int x0), am_D, am_D, am_D, am_D, am_D] [] M := am_meth_eq rfl rfl
set_option maxRecDepth 20000 in
theorem gX9_absorbanceOf_0 (k : Nat → List am_V → List am_V → am_M → am_R) (x0 : Int32) (M : am_M) : gX9_absorbanceOf k 0 [.inl (.int x0), am_D, am_D, am_D, am_D, am_D] [] M =
  k 4 [.inl (.int x0), .inl (.int 0), .inl (.int 1), am_D, am_D, am_D] [] M := (rfl)
theorem eX9_absorbanceOf_0 {n : Nat} {x0 : Int32} {M : am_M} {res : am_O × am_M} (h : (rX9_absorbanceOf n 4 [.inl (.int x0), .inl (.int 0), .inl (.int 1), am_D, am_D, am_D] [] M) = some res) : rX9_absorbanceOf (n + 100) 0 [.inl (.int x0), am_D, am_D, am_D, am_D, am_D] [] M = some res := uX9_absorbanceOf ((gX9_absorbanceOf_0 (rX9_absorbanceOf n) x0 M).trans h)
set_option maxRecDepth 20000 in
theorem gX9_absorbanceOf_4 (k : Nat → List am_V → List am_V → am_M → am_R) (x0 : Int32) (x1 : Int32) (x2 : Int32) (M : am_M) : gX9_absorbanceOf k 4 [.inl (.int x0), .inl (.int x1), .inl (.int x2), am_D, am_D, am_D] [] M =
  if 16 ≤ x2 then
   k 38 [.inl (.int x0), .inl (.int x1), .inl (.long ((Int32.toInt64 x0) <<< (((15 - x1) : Int32).toInt64 &&& 63))), am_D, .inl (.int 0), .inl (.int 0)] [] M
  else if (x0 >>> (x2 &&& 31)) = 0 then
   k 4 [.inl (.int x0), .inl (.int x1), .inl (.int (x2 + 1)), am_D, am_D, am_D] [] M
  else k 4 [.inl (.int x0), .inl (.int x2), .inl (.int (x2 + 1)), am_D, am_D, am_D] [] M := (rfl)
theorem eX9_absorbanceOf_4 {n : Nat} {x0 : Int32} {x1 : Int32} {x2 : Int32} {M : am_M} {res : am_O × am_M} (h : (if 16 ≤ x2 then
   rX9_absorbanceOf n 38 [.inl (.int x0), .inl (.int x1), .inl (.long ((Int32.toInt64 x0) <<< (((15 - x1) : Int32).toInt64 &&& 63))), am_D, .inl (.int 0), .inl (.int 0)] [] M
  else if (x0 >>> (x2 &&& 31)) = 0 then
   rX9_absorbanceOf n 4 [.inl (.int x0), .inl (.int x1), .inl (.int (x2 + 1)), am_D, am_D, am_D] [] M
  else rX9_absorbanceOf n 4 [.inl (.int x0), .inl (.int x2), .inl (.int (x2 + 1)), am_D, am_D, am_D] [] M) = some res) : rX9_absorbanceOf (n + 100) 4 [.inl (.int x0), .inl (.int x1), .inl (.int x2), am_D, am_D, am_D] [] M = some res := uX9_absorbanceOf ((gX9_absorbanceOf_4 (rX9_absorbanceOf n) x0 x1 x2 M).trans h)
set_option maxRecDepth 20000 in
theorem gX9_absorbanceOf_38 (k : Nat → List am_V → List am_V → am_M → am_R) (x0 : Int32) (x1 : Int32) (x2 : Int64) (x4 : Int32) (x5 : Int32) (M : am_M) : gX9_absorbanceOf k 38 [.inl (.int x0), .inl (.int x1), .inl (.long x2), am_D, .inl (.int x4), .inl (.int x5)] [] M =
  if 10 ≤ x5 then
   some (.inl (some (.inl (.int (16384 - ((1024 * x1) + x4))))), M)
  else if (lg_cmp ((x2 * x2) / 32768) 65536) < 0 then
   k 38 [.inl (.int x0), .inl (.int x1), .inl (.long ((x2 * x2) / 32768)), am_D, .inl (.int (x4 * 2)), .inl (.int (x5 + 1))] [] M
  else k 38 [.inl (.int x0), .inl (.int x1), .inl (.long (((x2 * x2) / 32768) / 2)), am_D, .inl (.int ((x4 * 2) + 1)), .inl (.int (x5 + 1))] [] M := (rfl)
theorem eX9_absorbanceOf_38 {n : Nat} {x0 : Int32} {x1 : Int32} {x2 : Int64} {x4 : Int32} {x5 : Int32} {M : am_M} {res : am_O × am_M} (h : (if 10 ≤ x5 then
   some (.inl (some (.inl (.int (16384 - ((1024 * x1) + x4))))), M)
  else if (lg_cmp ((x2 * x2) / 32768) 65536) < 0 then
   rX9_absorbanceOf n 38 [.inl (.int x0), .inl (.int x1), .inl (.long ((x2 * x2) / 32768)), am_D, .inl (.int (x4 * 2)), .inl (.int (x5 + 1))] [] M
  else rX9_absorbanceOf n 38 [.inl (.int x0), .inl (.int x1), .inl (.long (((x2 * x2) / 32768) / 2)), am_D, .inl (.int ((x4 * 2) + 1)), .inl (.int (x5 + 1))] [] M) = some res) : rX9_absorbanceOf (n + 100) 38 [.inl (.int x0), .inl (.int x1), .inl (.long x2), am_D, .inl (.int x4), .inl (.int x5)] [] M = some res := uX9_absorbanceOf ((gX9_absorbanceOf_38 (rX9_absorbanceOf n) x0 x1 x2 x4 x5 M).trans h)
