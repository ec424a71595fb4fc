/-! ===== the runs, piece by piece ===== -/
def rX9_isWithin (n pc : Nat) (ls st : List am_V) (M : am_M) : am_R := am_run [] [] 2 am_X0 pX9_isWithin n pc ls st M
def gX9_isWithin (k : Nat → List am_V → List am_V → am_M → am_R) (pc : Nat) (ls st : List am_V) (M : am_M) : am_R := am_go [] [] 2 am_X0 pX9_isWithin [] k 100 pc ls st M
theorem uX9_isWithin {n pc : Nat} {ls st : List am_V} {M : am_M} {res : am_O × am_M} (h : gX9_isWithin (rX9_isWithin n) pc ls st M = some res) : rX9_isWithin (n + 100) pc ls st M = some res := am_go_ok h
theorem eX9_isWithin (x0 : Int32) (x1 : Int32) (x2 : Int32) (M : am_M) : fX9_isWithin [.inl (.int x0), .inl (.int x1), .inl (.int x2)] M = rX9_isWithin 100000 0 [.inl (.int x0), .inl (.int x1), .inl (.int x2)] [] M := am_meth_eq rfl rfl
set_option maxRecDepth 20000 in
theorem gX9_isWithin_0 (k : Nat → List am_V → List am_V → am_M → am_R) (x0 : Int32) (x1 : Int32) (x2 : Int32) (M : am_M) : gX9_isWithin k 0 [.inl (.int x0), .inl (.int x1), .inl (.int x2)] [] M =
  if x0 < x1 then
   some (.inl (some (.inl (.int 0))), M)
  else if x2 < x0 then
   some (.inl (some (.inl (.int 0))), M)
  else some (.inl (some (.inl (.int 1))), M) := (rfl)
theorem eX9_isWithin_0 {n : Nat} {x0 : Int32} {x1 : Int32} {x2 : Int32} {M : am_M} {res : am_O × am_M} (h : (if x0 < x1 then
   some (.inl (some (.inl (.int 0))), M)
  else if x2 < x0 then
   some (.inl (some (.inl (.int 0))), M)
  else some (.inl (some (.inl (.int 1))), M)) = some res) : rX9_isWithin (n + 100) 0 [.inl (.int x0), .inl (.int x1), .inl (.int x2)] [] M = some res := uX9_isWithin ((gX9_isWithin_0 (rX9_isWithin n) x0 x1 x2 M).trans h)
def rX0_accepts (n pc : Nat) (ls st : List am_V) (M : am_M) : am_R := am_run [fX9_isWithin] [] 2 am_X0 pX0_accepts n pc ls st M
def gX0_accepts (F0 : am_F) (k : Nat → List am_V → List am_V → am_M → am_R) (pc : Nat) (ls st : List am_V) (M : am_M) : am_R := am_go [F0] [] 2 am_X0 pX0_accepts [8] k 100 pc ls st M
theorem uX0_accepts {n pc : Nat} {ls st : List am_V} {M : am_M} {res : am_O × am_M} (h : gX0_accepts fX9_isWithin (rX0_accepts n) pc ls st M = some res) : rX0_accepts (n + 100) pc ls st M = some res := am_go_ok h
theorem eX0_accepts (x0 : Int32) (M : am_M) : fX0_accepts [.inl (.int x0)] M = rX0_accepts 100000 0 [.inl (.int x0)] [] M := am_meth_eq rfl rfl
set_option maxRecDepth 20000 in
theorem gX0_accepts_0 (F0 : am_F) (k : Nat → List am_V → List am_V → am_M → am_R) (x0 : Int32) (M : am_M) : gX0_accepts F0 k 0 [.inl (.int x0)] [] M =
  am_ret [] 5 [] (k 8 [.inl (.int x0)]) (F0 [.inl (.int x0), .inl (.int (-1000000)), .inl (.int 1000000)] M) := (rfl)
theorem eX0_accepts_0 {n : Nat} {x0 : Int32} {M : am_M} {res : am_O × am_M} (h : (am_ret [] 5 [] (rX0_accepts n 8 [.inl (.int x0)]) (fX9_isWithin [.inl (.int x0), .inl (.int (-1000000)), .inl (.int 1000000)] M)) = some res) : rX0_accepts (n + 100) 0 [.inl (.int x0)] [] M = some res := uX0_accepts ((gX0_accepts_0 fX9_isWithin (rX0_accepts n) x0 M).trans h)
set_option maxRecDepth 20000 in
theorem gX0_accepts_8 (F0 : am_F) (k : Nat → List am_V → List am_V → am_M → am_R) (x0 : Int32) (y0 : Int32) (M : am_M) : gX0_accepts F0 k 8 [.inl (.int x0)] [.inl (.int y0)] M =
  Option.map (fun o => (o, M)) (am_fin 2 .ireturn [.inl (.int x0)] [.inl (.int y0)]) := (rfl)
theorem eX0_accepts_8 {n : Nat} {x0 : Int32} {y0 : Int32} {M : am_M} {res : am_O × am_M} (h : (Option.map (fun o => (o, M)) (am_fin 2 .ireturn [.inl (.int x0)] [.inl (.int y0)])) = some res) : rX0_accepts (n + 100) 8 [.inl (.int x0)] [.inl (.int y0)] M = some res := uX0_accepts ((gX0_accepts_8 fX9_isWithin (rX0_accepts n) x0 y0 M).trans h)
def rX0_takes (n pc : Nat) (ls st : List am_V) (M : am_M) : am_R := am_run [] [] 2 am_X0 pX0_takes n pc ls st M
def gX0_takes (k : Nat → List am_V → List am_V → am_M → am_R) (pc : Nat) (ls st : List am_V) (M : am_M) : am_R := am_go [] [] 2 am_X0 pX0_takes [] k 100 pc ls st M
theorem uX0_takes {n pc : Nat} {ls st : List am_V} {M : am_M} {res : am_O × am_M} (h : gX0_takes (rX0_takes n) pc ls st M = some res) : rX0_takes (n + 100) pc ls st M = some res := am_go_ok h
theorem eX0_takes (x0 : Nat) (x1 : Int32) (M : am_M) : fX0_takes [.inr (0, x0), .inl (.int x1)] M = rX0_takes 100000 0 [.inr (0, x0), .inl (.int x1)] [] M := am_meth_eq rfl rfl
set_option maxRecDepth 20000 in
theorem gX0_takes_0 (k : Nat → List am_V → List am_V → am_M → am_R) (x0 : Nat) (x1 : Int32) (M : am_M) : gX0_takes k 0 [.inr (0, x0), .inl (.int x1)] [] M =
  if 5 ≤ (M 0 x0 2) then
   some (.inl (some (.inl (.int 0))), M)
  else if (M 0 x0 2) < 1 then
   some (.inl (some (.inl (.int 1))), M)
  else if am_in ((M 0 x0 2) - 1) 5 then
   if x1 = (M 11 x0 (Int32.toNatClampNeg ((M 0 x0 2) - 1))) then
    some (.inl (some (.inl (.int 0))), M)
   else some (.inl (some (.inl (.int 1))), M)
  else none := (rfl)
theorem eX0_takes_0 {n : Nat} {x0 : Nat} {x1 : Int32} {M : am_M} {res : am_O × am_M} (h : (if 5 ≤ (M 0 x0 2) then
   some (.inl (some (.inl (.int 0))), M)
  else if (M 0 x0 2) < 1 then
   some (.inl (some (.inl (.int 1))), M)
  else if am_in ((M 0 x0 2) - 1) 5 then
   if x1 = (M 11 x0 (Int32.toNatClampNeg ((M 0 x0 2) - 1))) then
    some (.inl (some (.inl (.int 0))), M)
   else some (.inl (some (.inl (.int 1))), M)
  else none) = some res) : rX0_takes (n + 100) 0 [.inr (0, x0), .inl (.int x1)] [] M = some res := uX0_takes ((gX0_takes_0 (rX0_takes n) x0 x1 M).trans h)
def rX0_add (n pc : Nat) (ls st : List am_V) (M : am_M) : am_R := am_run [] [] 0 am_X0 pX0_add n pc ls st M
def gX0_add (k : Nat → List am_V → List am_V → am_M → am_R) (pc : Nat) (ls st : List am_V) (M : am_M) : am_R := am_go [] [] 0 am_X0 pX0_add [] k 100 pc ls st M
theorem uX0_add {n pc : Nat} {ls st : List am_V} {M : am_M} {res : am_O × am_M} (h : gX0_add (rX0_add n) pc ls st M = some res) : rX0_add (n + 100) pc ls st M = some res := am_go_ok h
theorem eX0_add (x0 : Nat) (x1 : Int32) (x2 : Int32) (M : am_M) : fX0_add [.inr (0, x0), .inl (.int x1), .inl (.int x2)] M = rX0_add 100000 0 [.inr (0, x0), .inl (.int x1), .inl (.int x2)] [] M := am_meth_eq rfl rfl
set_option maxRecDepth 20000 in
theorem gX0_add_0 (k : Nat → List am_V → List am_V → am_M → am_R) (x0 : Nat) (x1 : Int32) (x2 : Int32) (M : am_M) : gX0_add k 0 [.inr (0, x0), .inl (.int x1), .inl (.int x2)] [] M =
  if (M 0 x0 2) < 1 then
   if 5 ≤ (M 0 x0 2) then
    some (.inl none, M)
   else if am_in (M 0 x0 2) 5 then
    if am_in (M 0 x0 2) 5 then
     some (.inl none, (am_put (am_put (am_put M 11 x0 (Int32.toNatClampNeg (M 0 x0 2)) x1) 12 x0 (Int32.toNatClampNeg (M 0 x0 2)) x2) 0 x0 2 ((M 0 x0 2) + 1)))
    else none
   else none
  else if am_in ((M 0 x0 2) - 1) 5 then
   if (M 11 x0 (Int32.toNatClampNeg ((M 0 x0 2) - 1))) ≤ x1 then
    if 5 ≤ (M 0 x0 2) then
     some (.inl none, M)
    else if am_in (M 0 x0 2) 5 then
     if am_in (M 0 x0 2) 5 then
      some (.inl none, (am_put (am_put (am_put M 11 x0 (Int32.toNatClampNeg (M 0 x0 2)) x1) 12 x0 (Int32.toNatClampNeg (M 0 x0 2)) x2) 0 x0 2 ((M 0 x0 2) + 1)))
     else none
    else none
   else if 5 ≤ ((am_put M 0 x0 2 0) 0 x0 2) then
    some (.inl none, (am_put M 0 x0 2 0))
   else if am_in ((am_put M 0 x0 2 0) 0 x0 2) 5 then
    if am_in ((am_put M 0 x0 2 0) 0 x0 2) 5 then
     some (.inl none, (am_put (am_put (am_put (am_put M 0 x0 2 0) 11 x0 (Int32.toNatClampNeg ((am_put M 0 x0 2 0) 0 x0 2)) x1) 12 x0 (Int32.toNatClampNeg ((am_put M 0 x0 2 0) 0 x0 2)) x2) 0 x0 2 (((am_put M 0 x0 2 0) 0 x0 2) + 1)))
    else none
   else none
  else none := (rfl)
theorem eX0_add_0 {n : Nat} {x0 : Nat} {x1 : Int32} {x2 : Int32} {M : am_M} {res : am_O × am_M} (h : (if (M 0 x0 2) < 1 then
   if 5 ≤ (M 0 x0 2) then
    some (.inl none, M)
   else if am_in (M 0 x0 2) 5 then
    if am_in (M 0 x0 2) 5 then
     some (.inl none, (am_put (am_put (am_put M 11 x0 (Int32.toNatClampNeg (M 0 x0 2)) x1) 12 x0 (Int32.toNatClampNeg (M 0 x0 2)) x2) 0 x0 2 ((M 0 x0 2) + 1)))
    else none
   else none
  else if am_in ((M 0 x0 2) - 1) 5 then
   if (M 11 x0 (Int32.toNatClampNeg ((M 0 x0 2) - 1))) ≤ x1 then
    if 5 ≤ (M 0 x0 2) then
     some (.inl none, M)
    else if am_in (M 0 x0 2) 5 then
     if am_in (M 0 x0 2) 5 then
      some (.inl none, (am_put (am_put (am_put M 11 x0 (Int32.toNatClampNeg (M 0 x0 2)) x1) 12 x0 (Int32.toNatClampNeg (M 0 x0 2)) x2) 0 x0 2 ((M 0 x0 2) + 1)))
     else none
    else none
   else if 5 ≤ ((am_put M 0 x0 2 0) 0 x0 2) then
    some (.inl none, (am_put M 0 x0 2 0))
   else if am_in ((am_put M 0 x0 2 0) 0 x0 2) 5 then
    if am_in ((am_put M 0 x0 2 0) 0 x0 2) 5 then
     some (.inl none, (am_put (am_put (am_put (am_put M 0 x0 2 0) 11 x0 (Int32.toNatClampNeg ((am_put M 0 x0 2 0) 0 x0 2)) x1) 12 x0 (Int32.toNatClampNeg ((am_put M 0 x0 2 0) 0 x0 2)) x2) 0 x0 2 (((am_put M 0 x0 2 0) 0 x0 2) + 1)))
    else none
   else none
  else none) = some res) : rX0_add (n + 100) 0 [.inr (0, x0), .inl (.int x1), .inl (.int x2)] [] M = some res := uX0_add ((gX0_add_0 (rX0_add n) x0 x1 x2 M).trans h)
def rX0_isMonotone (n pc : Nat) (ls st : List am_V) (M : am_M) : am_R := am_run [] [] 2 am_X0 pX0_isMonotone n pc ls st M
def gX0_isMonotone (k : Nat → List am_V → List am_V → am_M → am_R) (pc : Nat) (ls st : List am_V) (M : am_M) : am_R := am_go [] [] 2 am_X0 pX0_isMonotone [2] k 100 pc ls st M
theorem uX0_isMonotone {n pc : Nat} {ls st : List am_V} {M : am_M} {res : am_O × am_M} (h : gX0_isMonotone (rX0_isMonotone n) pc ls st M = some res) : rX0_isMonotone (n + 100) pc ls st M = some res := am_go_ok h
theorem eX0_isMonotone (x0 : Nat) (x1 : Int32) (M : am_M) : fX0_isMonotone [.inr (0, x0), .inl (.int x1)] M = rX0_isMonotone 100000 0 [.inr (0, x0), .inl (.int x1), am_D] [] M := am_meth_eq rfl rfl
set_option maxRecDepth 20000 in
theorem gX0_isMonotone_0 (k : Nat → List am_V → List am_V → am_M → am_R) (x0 : Nat) (x1 : Int32) (M : am_M) : gX0_isMonotone k 0 [.inr (0, x0), .inl (.int x1), am_D] [] M =
  k 2 [.inr (0, x0), .inl (.int x1), .inl (.int 1)] [] M := (rfl)
theorem eX0_isMonotone_0 {n : Nat} {x0 : Nat} {x1 : Int32} {M : am_M} {res : am_O × am_M} (h : (rX0_isMonotone n 2 [.inr (0, x0), .inl (.int x1), .inl (.int 1)] [] M) = some res) : rX0_isMonotone (n + 100) 0 [.inr (0, x0), .inl (.int x1), am_D] [] M = some res := uX0_isMonotone ((gX0_isMonotone_0 (rX0_isMonotone n) x0 x1 M).trans h)
set_option maxRecDepth 20000 in
theorem gX0_isMonotone_2 (k : Nat → List am_V → List am_V → am_M → am_R) (x0 : Nat) (x1 : Int32) (x2 : Int32) (M : am_M) : gX0_isMonotone k 2 [.inr (0, x0), .inl (.int x1), .inl (.int x2)] [] M =
  if (M 0 x0 2) ≤ x2 then
   some (.inl (some (.inl (.int 1))), M)
  else if am_in x2 5 then
   if am_in (x2 - 1) 5 then
    if 0 < (x1 * ((M 12 x0 (Int32.toNatClampNeg x2)) - (M 12 x0 (Int32.toNatClampNeg (x2 - 1))))) then
     k 2 [.inr (0, x0), .inl (.int x1), .inl (.int (x2 + 1))] [] M
    else some (.inl (some (.inl (.int 0))), M)
   else none
  else none := (rfl)
theorem eX0_isMonotone_2 {n : Nat} {x0 : Nat} {x1 : Int32} {x2 : Int32} {M : am_M} {res : am_O × am_M} (h : (if (M 0 x0 2) ≤ x2 then
   some (.inl (some (.inl (.int 1))), M)
  else if am_in x2 5 then
   if am_in (x2 - 1) 5 then
    if 0 < (x1 * ((M 12 x0 (Int32.toNatClampNeg x2)) - (M 12 x0 (Int32.toNatClampNeg (x2 - 1))))) then
     rX0_isMonotone n 2 [.inr (0, x0), .inl (.int x1), .inl (.int (x2 + 1))] [] M
    else some (.inl (some (.inl (.int 0))), M)
   else none
  else none) = some res) : rX0_isMonotone (n + 100) 2 [.inr (0, x0), .inl (.int x1), .inl (.int x2)] [] M = some res := uX0_isMonotone ((gX0_isMonotone_2 (rX0_isMonotone n) x0 x1 x2 M).trans h)
def rX0_isComplete (n pc : Nat) (ls st : List am_V) (M : am_M) : am_R := am_run [fX0_isMonotone] [] 2 am_X0 pX0_isComplete n pc ls st M
def gX0_isComplete (F0 : am_F) (k : Nat → List am_V → List am_V → am_M → am_R) (pc : Nat) (ls st : List am_V) (M : am_M) : am_R := am_go [F0] [] 2 am_X0 pX0_isComplete [13, 21] k 100 pc ls st M
theorem uX0_isComplete {n pc : Nat} {ls st : List am_V} {M : am_M} {res : am_O × am_M} (h : gX0_isComplete fX0_isMonotone (rX0_isComplete n) pc ls st M = some res) : rX0_isComplete (n + 100) pc ls st M = some res := am_go_ok h
theorem eX0_isComplete (x0 : Nat) (M : am_M) : fX0_isComplete [.inr (0, x0)] M = rX0_isComplete 100000 0 [.inr (0, x0)] [] M := am_meth_eq rfl rfl
set_option maxRecDepth 20000 in
theorem gX0_isComplete_0 (F0 : am_F) (k : Nat → List am_V → List am_V → am_M → am_R) (x0 : Nat) (M : am_M) : gX0_isComplete F0 k 0 [.inr (0, x0)] [] M =
  if (M 0 x0 2) < 2 then
   some (.inl (some (.inl (.int 0))), M)
  else am_ret [] 10 [] (k 13 [.inr (0, x0)]) (F0 [.inr (0, x0), .inl (.int 1)] M) := (rfl)
theorem eX0_isComplete_0 {n : Nat} {x0 : Nat} {M : am_M} {res : am_O × am_M} (h : (if (M 0 x0 2) < 2 then
   some (.inl (some (.inl (.int 0))), M)
  else am_ret [] 10 [] (rX0_isComplete n 13 [.inr (0, x0)]) (fX0_isMonotone [.inr (0, x0), .inl (.int 1)] M)) = some res) : rX0_isComplete (n + 100) 0 [.inr (0, x0)] [] M = some res := uX0_isComplete ((gX0_isComplete_0 fX0_isMonotone (rX0_isComplete n) x0 M).trans h)
set_option maxRecDepth 20000 in
theorem gX0_isComplete_13 (F0 : am_F) (k : Nat → List am_V → List am_V → am_M → am_R) (x0 : Nat) (y0 : Int32) (M : am_M) : gX0_isComplete F0 k 13 [.inr (0, x0)] [.inl (.int y0)] M =
  if y0 = 0 then
   am_ret [] 18 [] (k 21 [.inr (0, x0)]) (F0 [.inr (0, x0), .inl (.int (-1))] M)
  else some (.inl (some (.inl (.int 1))), M) := (rfl)
theorem eX0_isComplete_13 {n : Nat} {x0 : Nat} {y0 : Int32} {M : am_M} {res : am_O × am_M} (h : (if y0 = 0 then
   am_ret [] 18 [] (rX0_isComplete n 21 [.inr (0, x0)]) (fX0_isMonotone [.inr (0, x0), .inl (.int (-1))] M)
  else some (.inl (some (.inl (.int 1))), M)) = some res) : rX0_isComplete (n + 100) 13 [.inr (0, x0)] [.inl (.int y0)] M = some res := uX0_isComplete ((gX0_isComplete_13 fX0_isMonotone (rX0_isComplete n) x0 y0 M).trans h)
set_option maxRecDepth 20000 in
theorem gX0_isComplete_21 (F0 : am_F) (k : Nat → List am_V → List am_V → am_M → am_R) (x0 : Nat) (y0 : Int32) (M : am_M) : gX0_isComplete F0 k 21 [.inr (0, x0)] [.inl (.int y0)] M =
  if y0 = 0 then
   some (.inl (some (.inl (.int 0))), M)
  else some (.inl (some (.inl (.int 1))), M) := (rfl)
theorem eX0_isComplete_21 {n : Nat} {x0 : Nat} {y0 : Int32} {M : am_M} {res : am_O × am_M} (h : (if y0 = 0 then
   some (.inl (some (.inl (.int 0))), M)
  else some (.inl (some (.inl (.int 1))), M)) = some res) : rX0_isComplete (n + 100) 21 [.inr (0, x0)] [.inl (.int y0)] M = some res := uX0_isComplete ((gX0_isComplete_21 fX0_isMonotone (rX0_isComplete n) x0 y0 M).trans h)
def rJ9_floorDiv_f86c9 (n pc : Nat) (ls st : List am_V) (M : am_M) : am_R := am_run [] [] 3 am_X0 pJ9_floorDiv_f86c9 n pc ls st M
def gJ9_floorDiv_f86c9 (k : Nat → List am_V → List am_V → am_M → am_R) (pc : Nat) (ls st : List am_V) (M : am_M) : am_R := am_go [] [] 3 am_X0 pJ9_floorDiv_f86c9 [] k 100 pc ls st M
theorem uJ9_floorDiv_f86c9 {n pc : Nat} {ls st : List am_V} {M : am_M} {res : am_O × am_M} (h : gJ9_floorDiv_f86c9 (rJ9_floorDiv_f86c9 n) pc ls st M = some res) : rJ9_floorDiv_f86c9 (n + 100) pc ls st M = some res := am_go_ok h
theorem eJ9_floorDiv_f86c9 (x0 : Int64) (x1 : Int64) (M : am_M) : fJ9_floorDiv_f86c9 [.inl (.long x0), .inl (.long x1)] M = rJ9_floorDiv_f86c9 100000 0 [.inl (.long x0), am_D, .inl (.long x1), am_D, am_D, am_D] [] M := am_meth_eq rfl rfl
set_option maxRecDepth 20000 in
theorem gJ9_floorDiv_f86c9_0 (k : Nat → List am_V → List am_V → am_M → am_R) (x0 : Int64) (x2 : Int64) (M : am_M) : gJ9_floorDiv_f86c9 k 0 [.inl (.long x0), am_D, .inl (.long x2), am_D, am_D, am_D] [] M =
  if x2 = 0 then
   none
  else if 0 ≤ (lg_cmp (x0 ^^^ x2) 0) then
   some (.inl (some (.inl (.long (x0 / x2)))), M)
  else if (lg_cmp ((x0 / x2) * x2) x0) = 0 then
   some (.inl (some (.inl (.long (x0 / x2)))), M)
  else some (.inl (some (.inl (.long ((x0 / x2) - 1)))), M) := (rfl)
theorem eJ9_floorDiv_f86c9_0 {n : Nat} {x0 : Int64} {x2 : Int64} {M : am_M} {res : am_O × am_M} (h : (if x2 = 0 then
   none
  else if 0 ≤ (lg_cmp (x0 ^^^ x2) 0) then
   some (.inl (some (.inl (.long (x0 / x2)))), M)
  else if (lg_cmp ((x0 / x2) * x2) x0) = 0 then
   some (.inl (some (.inl (.long (x0 / x2)))), M)
  else some (.inl (some (.inl (.long ((x0 / x2) - 1)))), M)) = some res) : rJ9_floorDiv_f86c9 (n + 100) 0 [.inl (.long x0), am_D, .inl (.long x2), am_D, am_D, am_D] [] M = some res := uJ9_floorDiv_f86c9 ((gJ9_floorDiv_f86c9_0 (rJ9_floorDiv_f86c9 n) x0 x2 M).trans h)
def rX9_rounded (n pc : Nat) (ls st : List am_V) (M : am_M) : am_R := am_run [fJ9_floorDiv_f86c9] [] 3 am_X0 pX9_rounded n pc ls st M
def gX9_rounded (F0 : am_F) (k : Nat → List am_V → List am_V → am_M → am_R) (pc : Nat) (ls st : List am_V) (M : am_M) : am_R := am_go [F0] [] 3 am_X0 pX9_rounded [21] k 100 pc ls st M
theorem uX9_rounded {n pc : Nat} {ls st : List am_V} {M : am_M} {res : am_O × am_M} (h : gX9_rounded fJ9_floorDiv_f86c9 (rX9_rounded n) pc ls st M = some res) : rX9_rounded (n + 100) pc ls st M = some res := am_go_ok h
theorem eX9_rounded (x0 : Int64) (x1 : Int64) (M : am_M) : fX9_rounded [.inl (.long x0), .inl (.long x1)] M = rX9_rounded 100000 0 [.inl (.long x0), am_D, .inl (.long x1), am_D] [] M := am_meth_eq rfl rfl
set_option maxRecDepth 20000 in
theorem gX9_rounded_0 (F0 : am_F) (k : Nat → List am_V → List am_V → am_M → am_R) (x0 : Int64) (x2 : Int64) (M : am_M) : gX9_rounded F0 k 0 [.inl (.long x0), am_D, .inl (.long x2), am_D] [] M =
  if (lg_cmp x2 0) ≤ 0 then
   some (.inl (some (.inl (.long 0))), M)
  else am_ret [] 18 [] (k 21 [.inl (.long x0), am_D, .inl (.long x2), am_D]) (F0 [.inl (.long ((2 * x0) + x2)), .inl (.long (2 * x2))] M) := (rfl)
theorem eX9_rounded_0 {n : Nat} {x0 : Int64} {x2 : Int64} {M : am_M} {res : am_O × am_M} (h : (if (lg_cmp x2 0) ≤ 0 then
   some (.inl (some (.inl (.long 0))), M)
  else am_ret [] 18 [] (rX9_rounded n 21 [.inl (.long x0), am_D, .inl (.long x2), am_D]) (fJ9_floorDiv_f86c9 [.inl (.long ((2 * x0) + x2)), .inl (.long (2 * x2))] M)) = some res) : rX9_rounded (n + 100) 0 [.inl (.long x0), am_D, .inl (.long x2), am_D] [] M = some res := uX9_rounded ((gX9_rounded_0 fJ9_floorDiv_f86c9 (rX9_rounded n) x0 x2 M).trans h)
set_option maxRecDepth 20000 in
theorem gX9_rounded_21 (F0 : am_F) (k : Nat → List am_V → List am_V → am_M → am_R) (x0 : Int64) (x2 : Int64) (y0 : Int64) (M : am_M) : gX9_rounded F0 k 21 [.inl (.long x0), am_D, .inl (.long x2), am_D] [.inl (.long y0)] M =
  some (.inl (some (.inl (.long y0))), M) := (rfl)
theorem eX9_rounded_21 {n : Nat} {x0 : Int64} {x2 : Int64} {y0 : Int64} {M : am_M} {res : am_O × am_M} (h : (some (.inl (some (.inl (.long y0))), M)) = some res) : rX9_rounded (n + 100) 21 [.inl (.long x0), am_D, .inl (.long x2), am_D] [.inl (.long y0)] M = some res := uX9_rounded ((gX9_rounded_21 fJ9_floorDiv_f86c9 (rX9_rounded n) x0 x2 y0 M).trans h)
def rX0_valueAt (n pc : Nat) (ls st : List am_V) (M : am_M) : am_R := am_run [fX9_rounded] [] 3 am_X0 pX0_valueAt n pc ls st M
def gX0_valueAt (F0 : am_F) (k : Nat → List am_V → List am_V → am_M → am_R) (pc : Nat) (ls st : List am_V) (M : am_M) : am_R := am_go [F0] [] 3 am_X0 pX0_valueAt [12, 101] k 100 pc ls st M
theorem uX0_valueAt {n pc : Nat} {ls st : List am_V} {M : am_M} {res : am_O × am_M} (h : gX0_valueAt fX9_rounded (rX0_valueAt n) pc ls st M = some res) : rX0_valueAt (n + 100) pc ls st M = some res := am_go_ok h
theorem eX0_valueAt (x0 : Nat) (x1 : Int64) (M : am_M) : fX0_valueAt [.inr (0, x0), .inl (.long x1)] M = rX0_valueAt 100000 0 [.inr (0, x0), .inl (.long x1), am_D, am_D, am_D, am_D, am_D] [] M := am_meth_eq rfl rfl
set_option maxRecDepth 20000 in
theorem gX0_valueAt_0 (F0 : am_F) (k : Nat → List am_V → List am_V → am_M → am_R) (x0 : Nat) (x1 : Int64) (M : am_M) : gX0_valueAt F0 k 0 [.inr (0, x0), .inl (.long x1), am_D, am_D, am_D, am_D, am_D] [] M =
  if 2 ≤ (M 0 x0 2) then
   k 12 [.inr (0, x0), .inl (.long x1), am_D, .inl (.int 1), am_D, am_D, am_D] [] M
  else some (.inl (some (.inl (.long 0))), M) := (rfl)
theorem eX0_valueAt_0 {n : Nat} {x0 : Nat} {x1 : Int64} {M : am_M} {res : am_O × am_M} (h : (if 2 ≤ (M 0 x0 2) then
   rX0_valueAt n 12 [.inr (0, x0), .inl (.long x1), am_D, .inl (.int 1), am_D, am_D, am_D] [] M
  else some (.inl (some (.inl (.long 0))), M)) = some res) : rX0_valueAt (n + 100) 0 [.inr (0, x0), .inl (.long x1), am_D, am_D, am_D, am_D, am_D] [] M = some res := uX0_valueAt ((gX0_valueAt_0 fX9_rounded (rX0_valueAt n) x0 x1 M).trans h)
set_option maxRecDepth 20000 in
theorem gX0_valueAt_12 (F0 : am_F) (k : Nat → List am_V → List am_V → am_M → am_R) (x0 : Nat) (x1 : Int64) (x3 : Int32) (M : am_M) : gX0_valueAt F0 k 12 [.inr (0, x0), .inl (.long x1), am_D, .inl (.int x3), am_D, am_D, am_D] [] M =
  if ((M 0 x0 2) - 1) ≤ x3 then
   if am_in (x3 - 1) 5 then
    if am_in x3 5 then
     if am_in (x3 - 1) 5 then
      if am_in (x3 - 1) 5 then
       if am_in x3 5 then
        if am_in (x3 - 1) 5 then
         am_ret [] 98 [.inl (.long (Int32.toInt64 (M 12 x0 (Int32.toNatClampNeg (x3 - 1)))))] (k 101 [.inr (0, x0), .inl (.long x1), am_D, .inl (.int x3), .inl (.int (x3 - 1)), .inl (.long ((x1 - (Int32.toInt64 (M 11 x0 (Int32.toNatClampNeg (x3 - 1))))) * (Int32.toInt64 ((M 12 x0 (Int32.toNatClampNeg x3)) - (M 12 x0 (Int32.toNatClampNeg (x3 - 1))))))), am_D]) (F0 [.inl (.long ((x1 - (Int32.toInt64 (M 11 x0 (Int32.toNatClampNeg (x3 - 1))))) * (Int32.toInt64 ((M 12 x0 (Int32.toNatClampNeg x3)) - (M 12 x0 (Int32.toNatClampNeg (x3 - 1))))))), .inl (.long (Int32.toInt64 ((M 11 x0 (Int32.toNatClampNeg x3)) - (M 11 x0 (Int32.toNatClampNeg (x3 - 1))))))] M)
        else none
       else none
      else none
     else none
    else none
   else none
  else if am_in x3 5 then
   if (lg_cmp x1 (Int32.toInt64 (M 11 x0 (Int32.toNatClampNeg x3)))) ≤ 0 then
    if am_in (x3 - 1) 5 then
     if am_in x3 5 then
      if am_in (x3 - 1) 5 then
       if am_in (x3 - 1) 5 then
        if am_in x3 5 then
         if am_in (x3 - 1) 5 then
          am_ret [] 98 [.inl (.long (Int32.toInt64 (M 12 x0 (Int32.toNatClampNeg (x3 - 1)))))] (k 101 [.inr (0, x0), .inl (.long x1), am_D, .inl (.int x3), .inl (.int (x3 - 1)), .inl (.long ((x1 - (Int32.toInt64 (M 11 x0 (Int32.toNatClampNeg (x3 - 1))))) * (Int32.toInt64 ((M 12 x0 (Int32.toNatClampNeg x3)) - (M 12 x0 (Int32.toNatClampNeg (x3 - 1))))))), am_D]) (F0 [.inl (.long ((x1 - (Int32.toInt64 (M 11 x0 (Int32.toNatClampNeg (x3 - 1))))) * (Int32.toInt64 ((M 12 x0 (Int32.toNatClampNeg x3)) - (M 12 x0 (Int32.toNatClampNeg (x3 - 1))))))), .inl (.long (Int32.toInt64 ((M 11 x0 (Int32.toNatClampNeg x3)) - (M 11 x0 (Int32.toNatClampNeg (x3 - 1))))))] M)
         else none
        else none
       else none
      else none
     else none
    else none
   else k 12 [.inr (0, x0), .inl (.long x1), am_D, .inl (.int (x3 + 1)), am_D, am_D, am_D] [] M
  else none := (rfl)
theorem eX0_valueAt_12 {n : Nat} {x0 : Nat} {x1 : Int64} {x3 : Int32} {M : am_M} {res : am_O × am_M} (h : (if ((M 0 x0 2) - 1) ≤ x3 then
   if am_in (x3 - 1) 5 then
    if am_in x3 5 then
     if am_in (x3 - 1) 5 then
      if am_in (x3 - 1) 5 then
       if am_in x3 5 then
        if am_in (x3 - 1) 5 then
         am_ret [] 98 [.inl (.long (Int32.toInt64 (M 12 x0 (Int32.toNatClampNeg (x3 - 1)))))] (rX0_valueAt n 101 [.inr (0, x0), .inl (.long x1), am_D, .inl (.int x3), .inl (.int (x3 - 1)), .inl (.long ((x1 - (Int32.toInt64 (M 11 x0 (Int32.toNatClampNeg (x3 - 1))))) * (Int32.toInt64 ((M 12 x0 (Int32.toNatClampNeg x3)) - (M 12 x0 (Int32.toNatClampNeg (x3 - 1))))))), am_D]) (fX9_rounded [.inl (.long ((x1 - (Int32.toInt64 (M 11 x0 (Int32.toNatClampNeg (x3 - 1))))) * (Int32.toInt64 ((M 12 x0 (Int32.toNatClampNeg x3)) - (M 12 x0 (Int32.toNatClampNeg (x3 - 1))))))), .inl (.long (Int32.toInt64 ((M 11 x0 (Int32.toNatClampNeg x3)) - (M 11 x0 (Int32.toNatClampNeg (x3 - 1))))))] M)
        else none
       else none
      else none
     else none
    else none
   else none
  else if am_in x3 5 then
   if (lg_cmp x1 (Int32.toInt64 (M 11 x0 (Int32.toNatClampNeg x3)))) ≤ 0 then
    if am_in (x3 - 1) 5 then
     if am_in x3 5 then
      if am_in (x3 - 1) 5 then
       if am_in (x3 - 1) 5 then
        if am_in x3 5 then
         if am_in (x3 - 1) 5 then
          am_ret [] 98 [.inl (.long (Int32.toInt64 (M 12 x0 (Int32.toNatClampNeg (x3 - 1)))))] (rX0_valueAt n 101 [.inr (0, x0), .inl (.long x1), am_D, .inl (.int x3), .inl (.int (x3 - 1)), .inl (.long ((x1 - (Int32.toInt64 (M 11 x0 (Int32.toNatClampNeg (x3 - 1))))) * (Int32.toInt64 ((M 12 x0 (Int32.toNatClampNeg x3)) - (M 12 x0 (Int32.toNatClampNeg (x3 - 1))))))), am_D]) (fX9_rounded [.inl (.long ((x1 - (Int32.toInt64 (M 11 x0 (Int32.toNatClampNeg (x3 - 1))))) * (Int32.toInt64 ((M 12 x0 (Int32.toNatClampNeg x3)) - (M 12 x0 (Int32.toNatClampNeg (x3 - 1))))))), .inl (.long (Int32.toInt64 ((M 11 x0 (Int32.toNatClampNeg x3)) - (M 11 x0 (Int32.toNatClampNeg (x3 - 1))))))] M)
         else none
        else none
       else none
      else none
     else none
    else none
   else rX0_valueAt n 12 [.inr (0, x0), .inl (.long x1), am_D, .inl (.int (x3 + 1)), am_D, am_D, am_D] [] M
  else none) = some res) : rX0_valueAt (n + 100) 12 [.inr (0, x0), .inl (.long x1), am_D, .inl (.int x3), am_D, am_D, am_D] [] M = some res := uX0_valueAt ((gX0_valueAt_12 fX9_rounded (rX0_valueAt n) x0 x1 x3 M).trans h)
set_option maxRecDepth 20000 in
theorem gX0_valueAt_101 (F0 : am_F) (k : Nat → List am_V → List am_V → am_M → am_R) (x0 : Nat) (x1 : Int64) (x3 : Int32) (x4 : Int32) (x5 : Int64) (y0 : Int64) (y1 : Int64) (M : am_M) : gX0_valueAt F0 k 101 [.inr (0, x0), .inl (.long x1), am_D, .inl (.int x3), .inl (.int x4), .inl (.long x5), am_D] [.inl (.long y0), .inl (.long y1)] M =
  some (.inl (some (.inl (.long (y1 + y0)))), M) := (rfl)
theorem eX0_valueAt_101 {n : Nat} {x0 : Nat} {x1 : Int64} {x3 : Int32} {x4 : Int32} {x5 : Int64} {y0 : Int64} {y1 : Int64} {M : am_M} {res : am_O × am_M} (h : (some (.inl (some (.inl (.long (y1 + y0)))), M)) = some res) : rX0_valueAt (n + 100) 101 [.inr (0, x0), .inl (.long x1), am_D, .inl (.int x3), .inl (.int x4), .inl (.long x5), am_D] [.inl (.long y0), .inl (.long y1)] M = some res := uX0_valueAt ((gX0_valueAt_101 fX9_rounded (rX0_valueAt n) x0 x1 x3 x4 x5 y0 y1 M).trans h)
def rX1_isClean (n pc : Nat) (ls st : List am_V) (M : am_M) : am_R := am_run [] [] 2 am_X0 pX1_isClean n pc ls st M
def gX1_isClean (k : Nat → List am_V → List am_V → am_M → am_R) (pc : Nat) (ls st : List am_V) (M : am_M) : am_R := am_go [] [] 2 am_X0 pX1_isClean [] k 100 pc ls st M
theorem uX1_isClean {n pc : Nat} {ls st : List am_V} {M : am_M} {res : am_O × am_M} (h : gX1_isClean (rX1_isClean n) pc ls st M = some res) : rX1_isClean (n + 100) pc ls st M = some res := am_go_ok h
theorem eX1_isClean (x0 : Nat) (M : am_M) : fX1_isClean [.inr (1, x0)] M = rX1_isClean 100000 0 [.inr (1, x0)] [] M := am_meth_eq rfl rfl
set_option maxRecDepth 20000 in
theorem gX1_isClean_0 (k : Nat → List am_V → List am_V → am_M → am_R) (x0 : Nat) (M : am_M) : gX1_isClean k 0 [.inr (1, x0)] [] M =
  if (M 1 x0 5) = (-1) then
   if (M 1 x0 8) = 0 then
    some (.inl (some (.inl (.int 1))), M)
   else some (.inl (some (.inl (.int 0))), M)
  else some (.inl (some (.inl (.int 0))), M) := (rfl)
theorem eX1_isClean_0 {n : Nat} {x0 : Nat} {M : am_M} {res : am_O × am_M} (h : (if (M 1 x0 5) = (-1) then
   if (M 1 x0 8) = 0 then
    some (.inl (some (.inl (.int 1))), M)
   else some (.inl (some (.inl (.int 0))), M)
  else some (.inl (some (.inl (.int 0))), M)) = some res) : rX1_isClean (n + 100) 0 [.inr (1, x0)] [] M = some res := uX1_isClean ((gX1_isClean_0 (rX1_isClean n) x0 M).trans h)
def rX1_turn (n pc : Nat) (ls st : List am_V) (M : am_M) : am_R := am_run [] [] 0 am_X0 pX1_turn n pc ls st M
def gX1_turn (k : Nat → List am_V → List am_V → am_M → am_R) (pc : Nat) (ls st : List am_V) (M : am_M) : am_R := am_go [] [] 0 am_X0 pX1_turn [] k 100 pc ls st M
theorem uX1_turn {n pc : Nat} {ls st : List am_V} {M : am_M} {res : am_O × am_M} (h : gX1_turn (rX1_turn n) pc ls st M = some res) : rX1_turn (n + 100) pc ls st M = some res := am_go_ok h
theorem eX1_turn (x0 : Nat) (M : am_M) : fX1_turn [.inr (1, x0)] M = rX1_turn 100000 0 [.inr (1, x0)] [] M := am_meth_eq rfl rfl
set_option maxRecDepth 20000 in
theorem gX1_turn_0 (k : Nat → List am_V → List am_V → am_M → am_R) (x0 : Nat) (M : am_M) : gX1_turn k 0 [.inr (1, x0)] [] M =
  if (M 1 x0 5) = (-1) then
   if (M 1 x0 8) ≤ 0 then
    some (.inl none, M)
   else some (.inl none, (am_put M 1 x0 8 ((M 1 x0 8) - 1)))
  else some (.inl none, (am_put M 1 x0 7 ((M 1 x0 7) + 1))) := (rfl)
theorem eX1_turn_0 {n : Nat} {x0 : Nat} {M : am_M} {res : am_O × am_M} (h : (if (M 1 x0 5) = (-1) then
   if (M 1 x0 8) ≤ 0 then
    some (.inl none, M)
   else some (.inl none, (am_put M 1 x0 8 ((M 1 x0 8) - 1)))
  else some (.inl none, (am_put M 1 x0 7 ((M 1 x0 7) + 1)))) = some res) : rX1_turn (n + 100) 0 [.inr (1, x0)] [] M = some res := uX1_turn ((gX1_turn_0 (rX1_turn n) x0 M).trans h)
def rX1_start (n pc : Nat) (ls st : List am_V) (M : am_M) : am_R := am_run [] [] 0 am_X0 pX1_start n pc ls st M
def gX1_start (k : Nat → List am_V → List am_V → am_M → am_R) (pc : Nat) (ls st : List am_V) (M : am_M) : am_R := am_go [] [] 0 am_X0 pX1_start [] k 100 pc ls st M
theorem uX1_start {n pc : Nat} {ls st : List am_V} {M : am_M} {res : am_O × am_M} (h : gX1_start (rX1_start n) pc ls st M = some res) : rX1_start (n + 100) pc ls st M = some res := am_go_ok h
theorem eX1_start (x0 : Nat) (x1 : Int32) (x2 : Int32) (M : am_M) : fX1_start [.inr (1, x0), .inl (.int x1), .inl (.int x2)] M = rX1_start 100000 0 [.inr (1, x0), .inl (.int x1), .inl (.int x2)] [] M := am_meth_eq rfl rfl
set_option maxRecDepth 20000 in
theorem gX1_start_0 (k : Nat → List am_V → List am_V → am_M → am_R) (x0 : Nat) (x1 : Int32) (x2 : Int32) (M : am_M) : gX1_start k 0 [.inr (1, x0), .inl (.int x1), .inl (.int x2)] [] M =
  if am_b x2 = x2 then
   some (.inl none, (am_put (am_put (am_put (am_put (am_put M 1 x0 5 x1) 1 x0 6 x2) 1 x0 7 0) 1 x0 1 0) 1 x0 4 0))
  else none := (rfl)
theorem eX1_start_0 {n : Nat} {x0 : Nat} {x1 : Int32} {x2 : Int32} {M : am_M} {res : am_O × am_M} (h : (if am_b x2 = x2 then
   some (.inl none, (am_put (am_put (am_put (am_put (am_put M 1 x0 5 x1) 1 x0 6 x2) 1 x0 7 0) 1 x0 1 0) 1 x0 4 0))
  else none) = some res) : rX1_start (n + 100) 0 [.inr (1, x0), .inl (.int x1), .inl (.int x2)] [] M = some res := uX1_start ((gX1_start_0 (rX1_start n) x0 x1 x2 M).trans h)
def rX1_addReading (n pc : Nat) (ls st : List am_V) (M : am_M) : am_R := am_run [] [] 0 am_X0 pX1_addReading n pc ls st M
def gX1_addReading (k : Nat → List am_V → List am_V → am_M → am_R) (pc : Nat) (ls st : List am_V) (M : am_M) : am_R := am_go [] [] 0 am_X0 pX1_addReading [] k 100 pc ls st M
theorem uX1_addReading {n pc : Nat} {ls st : List am_V} {M : am_M} {res : am_O × am_M} (h : gX1_addReading (rX1_addReading n) pc ls st M = some res) : rX1_addReading (n + 100) pc ls st M = some res := am_go_ok h
theorem eX1_addReading (x0 : Nat) (x1 : Int32) (M : am_M) : fX1_addReading [.inr (1, x0), .inl (.int x1)] M = rX1_addReading 100000 0 [.inr (1, x0), .inl (.int x1)] [] M := am_meth_eq rfl rfl
set_option maxRecDepth 20000 in
theorem gX1_addReading_0 (k : Nat → List am_V → List am_V → am_M → am_R) (x0 : Nat) (x1 : Int32) (M : am_M) : gX1_addReading k 0 [.inr (1, x0), .inl (.int x1)] [] M =
  if 6 ≤ (M 1 x0 1) then
   some (.inl none, M)
  else if am_in (M 1 x0 1) 6 then
   some (.inl none, (am_put (am_put M 13 x0 (Int32.toNatClampNeg (M 1 x0 1)) x1) 1 x0 1 ((M 1 x0 1) + 1)))
  else none := (rfl)
theorem eX1_addReading_0 {n : Nat} {x0 : Nat} {x1 : Int32} {M : am_M} {res : am_O × am_M} (h : (if 6 ≤ (M 1 x0 1) then
   some (.inl none, M)
  else if am_in (M 1 x0 1) 6 then
   some (.inl none, (am_put (am_put M 13 x0 (Int32.toNatClampNeg (M 1 x0 1)) x1) 1 x0 1 ((M 1 x0 1) + 1)))
  else none) = some res) : rX1_addReading (n + 100) 0 [.inr (1, x0), .inl (.int x1)] [] M = some res := uX1_addReading ((gX1_addReading_0 (rX1_addReading n) x0 x1 M).trans h)
def rX1_sendToWash (n pc : Nat) (ls st : List am_V) (M : am_M) : am_R := am_run [] [] 0 am_X0 pX1_sendToWash n pc ls st M
def gX1_sendToWash (k : Nat → List am_V → List am_V → am_M → am_R) (pc : Nat) (ls st : List am_V) (M : am_M) : am_R := am_go [] [] 0 am_X0 pX1_sendToWash [] k 100 pc ls st M
theorem uX1_sendToWash {n pc : Nat} {ls st : List am_V} {M : am_M} {res : am_O × am_M} (h : gX1_sendToWash (rX1_sendToWash n) pc ls st M = some res) : rX1_sendToWash (n + 100) pc ls st M = some res := am_go_ok h
theorem eX1_sendToWash (x0 : Nat) (M : am_M) : fX1_sendToWash [.inr (1, x0)] M = rX1_sendToWash 100000 0 [.inr (1, x0)] [] M := am_meth_eq rfl rfl
set_option maxRecDepth 20000 in
theorem gX1_sendToWash_0 (k : Nat → List am_V → List am_V → am_M → am_R) (x0 : Nat) (M : am_M) : gX1_sendToWash k 0 [.inr (1, x0)] [] M =
  some (.inl none, (am_put (am_put (am_put M 1 x0 5 (-1)) 1 x0 9 0) 1 x0 8 3)) := (rfl)
theorem eX1_sendToWash_0 {n : Nat} {x0 : Nat} {M : am_M} {res : am_O × am_M} (h : (some (.inl none, (am_put (am_put (am_put M 1 x0 5 (-1)) 1 x0 9 0) 1 x0 8 3))) = some res) : rX1_sendToWash (n + 100) 0 [.inr (1, x0)] [] M = some res := uX1_sendToWash ((gX1_sendToWash_0 (rX1_sendToWash n) x0 M).trans h)
def rX2_append (n pc : Nat) (ls st : List am_V) (M : am_M) : am_R := am_run [] [] 0 am_X0 pX2_append n pc ls st M
def gX2_append (k : Nat → List am_V → List am_V → am_M → am_R) (pc : Nat) (ls st : List am_V) (M : am_M) : am_R := am_go [] [] 0 am_X0 pX2_append [11] k 100 pc ls st M
theorem uX2_append {n pc : Nat} {ls st : List am_V} {M : am_M} {res : am_O × am_M} (h : gX2_append (rX2_append n) pc ls st M = some res) : rX2_append (n + 100) pc ls st M = some res := am_go_ok h
theorem eX2_append (x0 : Nat) (x1 : Int32) (M : am_M) : fX2_append [.inr (2, x0), .inl (.int x1)] M = rX2_append 100000 0 [.inr (2, x0), .inl (.int x1), am_D] [] M := am_meth_eq rfl rfl
set_option maxRecDepth 20000 in
theorem gX2_append_0 (k : Nat → List am_V → List am_V → am_M → am_R) (x0 : Nat) (x1 : Int32) (M : am_M) : gX2_append k 0 [.inr (2, x0), .inl (.int x1), am_D] [] M =
  if (M 2 x0 1) = 10 then
   k 11 [.inr (2, x0), .inl (.int x1), .inl (.int 1)] [] M
  else if am_in (M 2 x0 1) 10 then
   some (.inl none, (am_put (am_put M 16 x0 (Int32.toNatClampNeg (M 2 x0 1)) x1) 2 x0 1 ((M 2 x0 1) + 1)))
  else none := (rfl)
theorem eX2_append_0 {n : Nat} {x0 : Nat} {x1 : Int32} {M : am_M} {res : am_O × am_M} (h : (if (M 2 x0 1) = 10 then
   rX2_append n 11 [.inr (2, x0), .inl (.int x1), .inl (.int 1)] [] M
  else if am_in (M 2 x0 1) 10 then
   some (.inl none, (am_put (am_put M 16 x0 (Int32.toNatClampNeg (M 2 x0 1)) x1) 2 x0 1 ((M 2 x0 1) + 1)))
  else none) = some res) : rX2_append (n + 100) 0 [.inr (2, x0), .inl (.int x1), am_D] [] M = some res := uX2_append ((gX2_append_0 (rX2_append n) x0 x1 M).trans h)
set_option maxRecDepth 20000 in
theorem gX2_append_11 (k : Nat → List am_V → List am_V → am_M → am_R) (x0 : Nat) (x1 : Int32) (x2 : Int32) (M : am_M) : gX2_append k 11 [.inr (2, x0), .inl (.int x1), .inl (.int x2)] [] M =
  if 10 ≤ x2 then
   if am_in ((am_put M 2 x0 1 ((M 2 x0 1) - 1)) 2 x0 1) 10 then
    some (.inl none, (am_put (am_put (am_put M 2 x0 1 ((M 2 x0 1) - 1)) 16 x0 (Int32.toNatClampNeg ((am_put M 2 x0 1 ((M 2 x0 1) - 1)) 2 x0 1)) x1) 2 x0 1 (((am_put M 2 x0 1 ((M 2 x0 1) - 1)) 2 x0 1) + 1)))
   else none
  else if am_in x2 10 then
   if am_in (x2 - 1) 10 then
    k 11 [.inr (2, x0), .inl (.int x1), .inl (.int (x2 + 1))] [] (am_put M 16 x0 (Int32.toNatClampNeg (x2 - 1)) (M 16 x0 (Int32.toNatClampNeg x2)))
   else none
  else none := (rfl)
theorem eX2_append_11 {n : Nat} {x0 : Nat} {x1 : Int32} {x2 : Int32} {M : am_M} {res : am_O × am_M} (h : (if 10 ≤ x2 then
   if am_in ((am_put M 2 x0 1 ((M 2 x0 1) - 1)) 2 x0 1) 10 then
    some (.inl none, (am_put (am_put (am_put M 2 x0 1 ((M 2 x0 1) - 1)) 16 x0 (Int32.toNatClampNeg ((am_put M 2 x0 1 ((M 2 x0 1) - 1)) 2 x0 1)) x1) 2 x0 1 (((am_put M 2 x0 1 ((M 2 x0 1) - 1)) 2 x0 1) + 1)))
   else none
  else if am_in x2 10 then
   if am_in (x2 - 1) 10 then
    rX2_append n 11 [.inr (2, x0), .inl (.int x1), .inl (.int (x2 + 1))] [] (am_put M 16 x0 (Int32.toNatClampNeg (x2 - 1)) (M 16 x0 (Int32.toNatClampNeg x2)))
   else none
  else none) = some res) : rX2_append (n + 100) 11 [.inr (2, x0), .inl (.int x1), .inl (.int x2)] [] M = some res := uX2_append ((gX2_append_11 (rX2_append n) x0 x1 x2 M).trans h)
def rX2_fromLatest (n pc : Nat) (ls st : List am_V) (M : am_M) : am_R := am_run [fX9_isWithin] [] 1 am_X0 pX2_fromLatest n pc ls st M
def gX2_fromLatest (F0 : am_F) (k : Nat → List am_V → List am_V → am_M → am_R) (pc : Nat) (ls st : List am_V) (M : am_M) : am_R := am_go [F0] [] 1 am_X0 pX2_fromLatest [11] k 100 pc ls st M
theorem uX2_fromLatest {n pc : Nat} {ls st : List am_V} {M : am_M} {res : am_O × am_M} (h : gX2_fromLatest fX9_isWithin (rX2_fromLatest n) pc ls st M = some res) : rX2_fromLatest (n + 100) pc ls st M = some res := am_go_ok h
theorem eX2_fromLatest (x0 : Nat) (x1 : Int32) (M : am_M) : fX2_fromLatest [.inr (2, x0), .inl (.int x1)] M = rX2_fromLatest 100000 0 [.inr (2, x0), .inl (.int x1)] [] M := am_meth_eq rfl rfl
set_option maxRecDepth 20000 in
theorem gX2_fromLatest_0 (F0 : am_F) (k : Nat → List am_V → List am_V → am_M → am_R) (x0 : Nat) (x1 : Int32) (M : am_M) : gX2_fromLatest F0 k 0 [.inr (2, x0), .inl (.int x1)] [] M =
  am_ret [] 8 [] (k 11 [.inr (2, x0), .inl (.int x1)]) (F0 [.inl (.int x1), .inl (.int 0), .inl (.int ((M 2 x0 1) - 1))] M) := (rfl)
theorem eX2_fromLatest_0 {n : Nat} {x0 : Nat} {x1 : Int32} {M : am_M} {res : am_O × am_M} (h : (am_ret [] 8 [] (rX2_fromLatest n 11 [.inr (2, x0), .inl (.int x1)]) (fX9_isWithin [.inl (.int x1), .inl (.int 0), .inl (.int ((M 2 x0 1) - 1))] M)) = some res) : rX2_fromLatest (n + 100) 0 [.inr (2, x0), .inl (.int x1)] [] M = some res := uX2_fromLatest ((gX2_fromLatest_0 fX9_isWithin (rX2_fromLatest n) x0 x1 M).trans h)
set_option maxRecDepth 20000 in
theorem gX2_fromLatest_11 (F0 : am_F) (k : Nat → List am_V → List am_V → am_M → am_R) (x0 : Nat) (x1 : Int32) (y0 : Int32) (M : am_M) : gX2_fromLatest F0 k 11 [.inr (2, x0), .inl (.int x1)] [.inl (.int y0)] M =
  if y0 = 0 then
   some (.inl (some (.inl (.int 0))), M)
  else if am_in (((M 2 x0 1) - 1) - x1) 10 then
   some (.inl (some (.inl (.int (M 16 x0 (Int32.toNatClampNeg (((M 2 x0 1) - 1) - x1)))))), M)
  else none := (rfl)
theorem eX2_fromLatest_11 {n : Nat} {x0 : Nat} {x1 : Int32} {y0 : Int32} {M : am_M} {res : am_O × am_M} (h : (if y0 = 0 then
   some (.inl (some (.inl (.int 0))), M)
  else if am_in (((M 2 x0 1) - 1) - x1) 10 then
   some (.inl (some (.inl (.int (M 16 x0 (Int32.toNatClampNeg (((M 2 x0 1) - 1) - x1)))))), M)
  else none) = some res) : rX2_fromLatest (n + 100) 11 [.inr (2, x0), .inl (.int x1)] [.inl (.int y0)] M = some res := uX2_fromLatest ((gX2_fromLatest_11 fX9_isWithin (rX2_fromLatest n) x0 x1 y0 M).trans h)
def rX2_above (n pc : Nat) (ls st : List am_V) (M : am_M) : am_R := am_run [fX2_fromLatest] [] 1 am_X0 pX2_above n pc ls st M
def gX2_above (F0 : am_F) (k : Nat → List am_V → List am_V → am_M → am_R) (pc : Nat) (ls st : List am_V) (M : am_M) : am_R := am_go [F0] [] 1 am_X0 pX2_above [6, 29] k 100 pc ls st M
theorem uX2_above {n pc : Nat} {ls st : List am_V} {M : am_M} {res : am_O × am_M} (h : gX2_above fX2_fromLatest (rX2_above n) pc ls st M = some res) : rX2_above (n + 100) pc ls st M = some res := am_go_ok h
theorem eX2_above (x0 : Nat) (x1 : Int64) (x2 : Int32) (M : am_M) : fX2_above [.inr (2, x0), .inl (.long x1), .inl (.int x2)] M = rX2_above 100000 0 [.inr (2, x0), .inl (.long x1), am_D, .inl (.int x2), am_D, am_D] [] M := am_meth_eq rfl rfl
set_option maxRecDepth 20000 in
theorem gX2_above_0 (F0 : am_F) (k : Nat → List am_V → List am_V → am_M → am_R) (x0 : Nat) (x1 : Int64) (x3 : Int32) (M : am_M) : gX2_above F0 k 0 [.inr (2, x0), .inl (.long x1), am_D, .inl (.int x3), am_D, am_D] [] M =
  k 6 [.inr (2, x0), .inl (.long x1), am_D, .inl (.int x3), .inl (.int 0), .inl (.int 0)] [] M := (rfl)
theorem eX2_above_0 {n : Nat} {x0 : Nat} {x1 : Int64} {x3 : Int32} {M : am_M} {res : am_O × am_M} (h : (rX2_above n 6 [.inr (2, x0), .inl (.long x1), am_D, .inl (.int x3), .inl (.int 0), .inl (.int 0)] [] M) = some res) : rX2_above (n + 100) 0 [.inr (2, x0), .inl (.long x1), am_D, .inl (.int x3), am_D, am_D] [] M = some res := uX2_above ((gX2_above_0 fX2_fromLatest (rX2_above n) x0 x1 x3 M).trans h)
set_option maxRecDepth 20000 in
theorem gX2_above_6 (F0 : am_F) (k : Nat → List am_V → List am_V → am_M → am_R) (x0 : Nat) (x1 : Int64) (x3 : Int32) (x4 : Int32) (x5 : Int32) (M : am_M) : gX2_above F0 k 6 [.inr (2, x0), .inl (.long x1), am_D, .inl (.int x3), .inl (.int x4), .inl (.int x5)] [] M =
  if x3 ≤ x5 then
   some (.inl (some (.inl (.int x4))), M)
  else if (M 2 x0 1) ≤ x5 then
   some (.inl (some (.inl (.int x4))), M)
  else am_ret [] 26 [.inl (.int x4)] (k 29 [.inr (2, x0), .inl (.long x1), am_D, .inl (.int x3), .inl (.int x4), .inl (.int x5)]) (F0 [.inr (2, x0), .inl (.int x5)] M) := (rfl)
theorem eX2_above_6 {n : Nat} {x0 : Nat} {x1 : Int64} {x3 : Int32} {x4 : Int32} {x5 : Int32} {M : am_M} {res : am_O × am_M} (h : (if x3 ≤ x5 then
   some (.inl (some (.inl (.int x4))), M)
  else if (M 2 x0 1) ≤ x5 then
   some (.inl (some (.inl (.int x4))), M)
  else am_ret [] 26 [.inl (.int x4)] (rX2_above n 29 [.inr (2, x0), .inl (.long x1), am_D, .inl (.int x3), .inl (.int x4), .inl (.int x5)]) (fX2_fromLatest [.inr (2, x0), .inl (.int x5)] M)) = some res) : rX2_above (n + 100) 6 [.inr (2, x0), .inl (.long x1), am_D, .inl (.int x3), .inl (.int x4), .inl (.int x5)] [] M = some res := uX2_above ((gX2_above_6 fX2_fromLatest (rX2_above n) x0 x1 x3 x4 x5 M).trans h)
set_option maxRecDepth 20000 in
theorem gX2_above_29 (F0 : am_F) (k : Nat → List am_V → List am_V → am_M → am_R) (x0 : Nat) (x1 : Int64) (x3 : Int32) (x4 : Int32) (x5 : Int32) (y0 : Int32) (y1 : Int32) (M : am_M) : gX2_above F0 k 29 [.inr (2, x0), .inl (.long x1), am_D, .inl (.int x3), .inl (.int x4), .inl (.int x5)] [.inl (.int y0), .inl (.int y1)] M =
  if (lg_cmp (Int32.toInt64 y0) x1) ≤ 0 then
   k 6 [.inr (2, x0), .inl (.long x1), am_D, .inl (.int x3), .inl (.int (y1 + 0)), .inl (.int (x5 + 1))] [] M
  else k 6 [.inr (2, x0), .inl (.long x1), am_D, .inl (.int x3), .inl (.int (y1 + 1)), .inl (.int (x5 + 1))] [] M := (rfl)
theorem eX2_above_29 {n : Nat} {x0 : Nat} {x1 : Int64} {x3 : Int32} {x4 : Int32} {x5 : Int32} {y0 : Int32} {y1 : Int32} {M : am_M} {res : am_O × am_M} (h : (if (lg_cmp (Int32.toInt64 y0) x1) ≤ 0 then
   rX2_above n 6 [.inr (2, x0), .inl (.long x1), am_D, .inl (.int x3), .inl (.int (y1 + 0)), .inl (.int (x5 + 1))] [] M
  else rX2_above n 6 [.inr (2, x0), .inl (.long x1), am_D, .inl (.int x3), .inl (.int (y1 + 1)), .inl (.int (x5 + 1))] [] M) = some res) : rX2_above (n + 100) 29 [.inr (2, x0), .inl (.long x1), am_D, .inl (.int x3), .inl (.int x4), .inl (.int x5)] [.inl (.int y0), .inl (.int y1)] M = some res := uX2_above ((gX2_above_29 fX2_fromLatest (rX2_above n) x0 x1 x3 x4 x5 y0 y1 M).trans h)
def rX2_below (n pc : Nat) (ls st : List am_V) (M : am_M) : am_R := am_run [fX2_fromLatest] [] 1 am_X0 pX2_below n pc ls st M
def gX2_below (F0 : am_F) (k : Nat → List am_V → List am_V → am_M → am_R) (pc : Nat) (ls st : List am_V) (M : am_M) : am_R := am_go [F0] [] 1 am_X0 pX2_below [6, 29] k 100 pc ls st M
theorem uX2_below {n pc : Nat} {ls st : List am_V} {M : am_M} {res : am_O × am_M} (h : gX2_below fX2_fromLatest (rX2_below n) pc ls st M = some res) : rX2_below (n + 100) pc ls st M = some res := am_go_ok h
theorem eX2_below (x0 : Nat) (x1 : Int64) (x2 : Int32) (M : am_M) : fX2_below [.inr (2, x0), .inl (.long x1), .inl (.int x2)] M = rX2_below 100000 0 [.inr (2, x0), .inl (.long x1), am_D, .inl (.int x2), am_D, am_D] [] M := am_meth_eq rfl rfl
set_option maxRecDepth 20000 in
theorem gX2_below_0 (F0 : am_F) (k : Nat → List am_V → List am_V → am_M → am_R) (x0 : Nat) (x1 : Int64) (x3 : Int32) (M : am_M) : gX2_below F0 k 0 [.inr (2, x0), .inl (.long x1), am_D, .inl (.int x3), am_D, am_D] [] M =
  k 6 [.inr (2, x0), .inl (.long x1), am_D, .inl (.int x3), .inl (.int 0), .inl (.int 0)] [] M := (rfl)
theorem eX2_below_0 {n : Nat} {x0 : Nat} {x1 : Int64} {x3 : Int32} {M : am_M} {res : am_O × am_M} (h : (rX2_below n 6 [.inr (2, x0), .inl (.long x1), am_D, .inl (.int x3), .inl (.int 0), .inl (.int 0)] [] M) = some res) : rX2_below (n + 100) 0 [.inr (2, x0), .inl (.long x1), am_D, .inl (.int x3), am_D, am_D] [] M = some res := uX2_below ((gX2_below_0 fX2_fromLatest (rX2_below n) x0 x1 x3 M).trans h)
set_option maxRecDepth 20000 in
theorem gX2_below_6 (F0 : am_F) (k : Nat → List am_V → List am_V → am_M → am_R) (x0 : Nat) (x1 : Int64) (x3 : Int32) (x4 : Int32) (x5 : Int32) (M : am_M) : gX2_below F0 k 6 [.inr (2, x0), .inl (.long x1), am_D, .inl (.int x3), .inl (.int x4), .inl (.int x5)] [] M =
  if x3 ≤ x5 then
   some (.inl (some (.inl (.int x4))), M)
  else if (M 2 x0 1) ≤ x5 then
   some (.inl (some (.inl (.int x4))), M)
  else am_ret [] 26 [.inl (.int x4)] (k 29 [.inr (2, x0), .inl (.long x1), am_D, .inl (.int x3), .inl (.int x4), .inl (.int x5)]) (F0 [.inr (2, x0), .inl (.int x5)] M) := (rfl)
theorem eX2_below_6 {n : Nat} {x0 : Nat} {x1 : Int64} {x3 : Int32} {x4 : Int32} {x5 : Int32} {M : am_M} {res : am_O × am_M} (h : (if x3 ≤ x5 then
   some (.inl (some (.inl (.int x4))), M)
  else if (M 2 x0 1) ≤ x5 then
   some (.inl (some (.inl (.int x4))), M)
  else am_ret [] 26 [.inl (.int x4)] (rX2_below n 29 [.inr (2, x0), .inl (.long x1), am_D, .inl (.int x3), .inl (.int x4), .inl (.int x5)]) (fX2_fromLatest [.inr (2, x0), .inl (.int x5)] M)) = some res) : rX2_below (n + 100) 6 [.inr (2, x0), .inl (.long x1), am_D, .inl (.int x3), .inl (.int x4), .inl (.int x5)] [] M = some res := uX2_below ((gX2_below_6 fX2_fromLatest (rX2_below n) x0 x1 x3 x4 x5 M).trans h)
set_option maxRecDepth 20000 in
theorem gX2_below_29 (F0 : am_F) (k : Nat → List am_V → List am_V → am_M → am_R) (x0 : Nat) (x1 : Int64) (x3 : Int32) (x4 : Int32) (x5 : Int32) (y0 : Int32) (y1 : Int32) (M : am_M) : gX2_below F0 k 29 [.inr (2, x0), .inl (.long x1), am_D, .inl (.int x3), .inl (.int x4), .inl (.int x5)] [.inl (.int y0), .inl (.int y1)] M =
  if 0 ≤ (lg_cmp (Int32.toInt64 y0) x1) then
   k 6 [.inr (2, x0), .inl (.long x1), am_D, .inl (.int x3), .inl (.int (y1 + 0)), .inl (.int (x5 + 1))] [] M
  else k 6 [.inr (2, x0), .inl (.long x1), am_D, .inl (.int x3), .inl (.int (y1 + 1)), .inl (.int (x5 + 1))] [] M := (rfl)
theorem eX2_below_29 {n : Nat} {x0 : Nat} {x1 : Int64} {x3 : Int32} {x4 : Int32} {x5 : Int32} {y0 : Int32} {y1 : Int32} {M : am_M} {res : am_O × am_M} (h : (if 0 ≤ (lg_cmp (Int32.toInt64 y0) x1) then
   rX2_below n 6 [.inr (2, x0), .inl (.long x1), am_D, .inl (.int x3), .inl (.int (y1 + 0)), .inl (.int (x5 + 1))] [] M
  else rX2_below n 6 [.inr (2, x0), .inl (.long x1), am_D, .inl (.int x3), .inl (.int (y1 + 1)), .inl (.int (x5 + 1))] [] M) = some res) : rX2_below (n + 100) 29 [.inr (2, x0), .inl (.long x1), am_D, .inl (.int x3), .inl (.int x4), .inl (.int x5)] [.inl (.int y0), .inl (.int y1)] M = some res := uX2_below ((gX2_below_29 fX2_fromLatest (rX2_below n) x0 x1 x3 x4 x5 y0 y1 M).trans h)
def rX3_append (n pc : Nat) (ls st : List am_V) (M : am_M) : am_R := am_run [] [] 0 am_X0 pX3_append n pc ls st M
def gX3_append (k : Nat → List am_V → List am_V → am_M → am_R) (pc : Nat) (ls st : List am_V) (M : am_M) : am_R := am_go [] [] 0 am_X0 pX3_append [] k 100 pc ls st M
theorem uX3_append {n pc : Nat} {ls st : List am_V} {M : am_M} {res : am_O × am_M} (h : gX3_append (rX3_append n) pc ls st M = some res) : rX3_append (n + 100) pc ls st M = some res := am_go_ok h
theorem eX3_append (x1 : Int32) (M : am_M) : fX3_append [.inr (3, 0), .inl (.int x1)] M = rX3_append 100000 0 [.inr (3, 0), .inl (.int x1)] [] M := am_meth_eq rfl rfl
set_option maxRecDepth 20000 in
theorem gX3_append_0 (k : Nat → List am_V → List am_V → am_M → am_R) (x1 : Int32) (M : am_M) : gX3_append k 0 [.inr (3, 0), .inl (.int x1)] [] M =
  if 40 ≤ (M 3 0 1) then
   some (.inl none, M)
  else if am_in (M 3 0 1) 40 then
   some (.inl none, (am_put (am_put M 17 0 (Int32.toNatClampNeg (M 3 0 1)) x1) 3 0 1 ((M 3 0 1) + 1)))
  else none := (rfl)
theorem eX3_append_0 {n : Nat} {x1 : Int32} {M : am_M} {res : am_O × am_M} (h : (if 40 ≤ (M 3 0 1) then
   some (.inl none, M)
  else if am_in (M 3 0 1) 40 then
   some (.inl none, (am_put (am_put M 17 0 (Int32.toNatClampNeg (M 3 0 1)) x1) 3 0 1 ((M 3 0 1) + 1)))
  else none) = some res) : rX3_append (n + 100) 0 [.inr (3, 0), .inl (.int x1)] [] M = some res := uX3_append ((gX3_append_0 (rX3_append n) x1 M).trans h)
def rX3_dropFirst (n pc : Nat) (ls st : List am_V) (M : am_M) : am_R := am_run [] [] 0 am_X0 pX3_dropFirst n pc ls st M
def gX3_dropFirst (k : Nat → List am_V → List am_V → am_M → am_R) (pc : Nat) (ls st : List am_V) (M : am_M) : am_R := am_go [] [] 0 am_X0 pX3_dropFirst [2] k 100 pc ls st M
theorem uX3_dropFirst {n pc : Nat} {ls st : List am_V} {M : am_M} {res : am_O × am_M} (h : gX3_dropFirst (rX3_dropFirst n) pc ls st M = some res) : rX3_dropFirst (n + 100) pc ls st M = some res := am_go_ok h
theorem eX3_dropFirst (x1 : Int32) (M : am_M) : fX3_dropFirst [.inr (3, 0), .inl (.int x1)] M = rX3_dropFirst 100000 0 [.inr (3, 0), .inl (.int x1), am_D] [] M := am_meth_eq rfl rfl
set_option maxRecDepth 20000 in
theorem gX3_dropFirst_0 (k : Nat → List am_V → List am_V → am_M → am_R) (x1 : Int32) (M : am_M) : gX3_dropFirst k 0 [.inr (3, 0), .inl (.int x1), am_D] [] M =
  k 2 [.inr (3, 0), .inl (.int x1), .inl (.int x1)] [] M := (rfl)
theorem eX3_dropFirst_0 {n : Nat} {x1 : Int32} {M : am_M} {res : am_O × am_M} (h : (rX3_dropFirst n 2 [.inr (3, 0), .inl (.int x1), .inl (.int x1)] [] M) = some res) : rX3_dropFirst (n + 100) 0 [.inr (3, 0), .inl (.int x1), am_D] [] M = some res := uX3_dropFirst ((gX3_dropFirst_0 (rX3_dropFirst n) x1 M).trans h)
set_option maxRecDepth 20000 in
theorem gX3_dropFirst_2 (k : Nat → List am_V → List am_V → am_M → am_R) (x1 : Int32) (x2 : Int32) (M : am_M) : gX3_dropFirst k 2 [.inr (3, 0), .inl (.int x1), .inl (.int x2)] [] M =
  if (M 3 0 1) ≤ x2 then
   some (.inl none, (am_put M 3 0 1 ((M 3 0 1) - x1)))
  else if am_in x2 40 then
   if am_in (x2 - x1) 40 then
    k 2 [.inr (3, 0), .inl (.int x1), .inl (.int (x2 + 1))] [] (am_put M 17 0 (Int32.toNatClampNeg (x2 - x1)) (M 17 0 (Int32.toNatClampNeg x2)))
   else none
  else none := (rfl)
theorem eX3_dropFirst_2 {n : Nat} {x1 : Int32} {x2 : Int32} {M : am_M} {res : am_O × am_M} (h : (if (M 3 0 1) ≤ x2 then
   some (.inl none, (am_put M 3 0 1 ((M 3 0 1) - x1)))
  else if am_in x2 40 then
   if am_in (x2 - x1) 40 then
    rX3_dropFirst n 2 [.inr (3, 0), .inl (.int x1), .inl (.int (x2 + 1))] [] (am_put M 17 0 (Int32.toNatClampNeg (x2 - x1)) (M 17 0 (Int32.toNatClampNeg x2)))
   else none
  else none) = some res) : rX3_dropFirst (n + 100) 2 [.inr (3, 0), .inl (.int x1), .inl (.int x2)] [] M = some res := uX3_dropFirst ((gX3_dropFirst_2 (rX3_dropFirst n) x1 x2 M).trans h)
