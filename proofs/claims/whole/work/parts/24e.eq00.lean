/-! ===== the runs, piece by piece ===== -/
def rX9_isWithin (n pc : Nat) (ls st : List am_V) (M : am_M) : am_R := am_run [] [] 2 am_X0 pX9_isWithin n pc ls st M
def gX9_isWithin (k : Nat → List am_V → List am_V → am_M → am_R) (pc : Nat) (ls st : List am_V) (M : am_M) : am_R := am_go [] [] 2 am_X0 pX9_isWithin [] k 100 pc ls st M
theorem uX9_isWithin {n pc : Nat} {ls st : List am_V} {M : am_M} {res : am_O × am_M} (h : gX9_isWithin (rX9_isWithin n) pc ls st M = some res) : rX9_isWithin (n + 100) pc ls st M = some res := am_go_ok h
theorem eX9_isWithin (x0 : Int32) (x1 : Int32) (x2 : Int32) (M : am_M) : fX9_isWithin [.inl (.int x0), .inl (.int x1), .inl (.int x2)] M = rX9_isWithin 100000 0 [.inl (.int x0), .inl (.int x1), .inl (.int x2)] [] M := am_meth_eq rfl rfl
set_option maxRecDepth 20000 in
theorem gX9_isWithin_0 (k : Nat → List am_V → List am_V → am_M → am_R) (x0 : Int32) (x1 : Int32) (x2 : Int32) (M : am_M) : gX9_isWithin k 0 [.inl (.int x0), .inl (.int x1), .inl (.int x2)] [] M =
  if x0 < x1 then
   some (.inl (some (.inl (.int 0))), M)
  else if x2 < x0 then
   some (.inl (some (.inl (.int 0))), M)
  else some (.inl (some (.inl (.int 1))), M) := (rfl)
theorem eX9_isWithin_0 {n : Nat} {x0 : Int32} {x1 : Int32} {x2 : Int32} {M : am_M} {res : am_O × am_M} (h : (if x0 < x1 then
   some (.inl (some (.inl (.int 0))), M)
  else if x2 < x0 then
   some (.inl (some (.inl (.int 0))), M)
  else some (.inl (some (.inl (.int 1))), M)) = some res) : rX9_isWithin (n + 100) 0 [.inl (.int x0), .inl (.int x1), .inl (.int x2)] [] M = some res := uX9_isWithin ((gX9_isWithin_0 (rX9_isWithin n) x0 x1 x2 M).trans h)
def rX0_accepts (n pc : Nat) (ls st : List am_V) (M : am_M) : am_R := am_run [fX9_isWithin] [] 2 am_X0 pX0_accepts n pc ls st M
def gX0_accepts (k : Nat → List am_V → List am_V → am_M → am_R) (pc : Nat) (ls st : List am_V) (M : am_M) : am_R := am_go [fX9_isWithin] [] 2 am_X0 pX0_accepts [8] k 100 pc ls st M
theorem uX0_accepts {n pc : Nat} {ls st : List am_V} {M : am_M} {res : am_O × am_M} (h : gX0_accepts (rX0_accepts n) pc ls st M = some res) : rX0_accepts (n + 100) pc ls st M = some res := am_go_ok h
theorem eX0_accepts (x0 : Int32) (M : am_M) : fX0_accepts [.inl (.int x0)] M = rX0_accepts 100000 0 [.inl (.int x0)] [] M := am_meth_eq rfl rfl
set_option maxRecDepth 20000 in
theorem gX0_accepts_0 (k : Nat → List am_V → List am_V → am_M → am_R) (x0 : Int32) (M : am_M) : gX0_accepts k 0 [.inl (.int x0)] [] M =
  am_ret [] 5 [] (k 8 [.inl (.int x0)]) (fX9_isWithin [.inl (.int x0), .inl (.int (-1000000)), .inl (.int 1000000)] M) := (rfl)
theorem eX0_accepts_0 {n : Nat} {x0 : Int32} {M : am_M} {res : am_O × am_M} (h : (am_ret [] 5 [] (rX0_accepts n 8 [.inl (.int x0)]) (fX9_isWithin [.inl (.int x0), .inl (.int (-1000000)), .inl (.int 1000000)] M)) = some res) : rX0_accepts (n + 100) 0 [.inl (.int x0)] [] M = some res := uX0_accepts ((gX0_accepts_0 (rX0_accepts n) x0 M).trans h)
set_option maxRecDepth 20000 in
theorem gX0_accepts_8 (k : Nat → List am_V → List am_V → am_M → am_R) (x0 : Int32) (y0 : Int32) (M : am_M) : gX0_accepts k 8 [.inl (.int x0)] [.inl (.int y0)] M =
  Option.map (fun o => (o, M)) (am_fin 2 .ireturn [.inl (.int x0)] [.inl (.int y0)]) := (rfl)
theorem eX0_accepts_8 {n : Nat} {x0 : Int32} {y0 : Int32} {M : am_M} {res : am_O × am_M} (h : (Option.map (fun o => (o, M)) (am_fin 2 .ireturn [.inl (.int x0)] [.inl (.int y0)])) = some res) : rX0_accepts (n + 100) 8 [.inl (.int x0)] [.inl (.int y0)] M = some res := uX0_accepts ((gX0_accepts_8 (rX0_accepts n) x0 y0 M).trans h)
def rX0_takes (n pc : Nat) (ls st : List am_V) (M : am_M) : am_R := am_run [] [] 2 am_X0 pX0_takes n pc ls st M
def gX0_takes (k : Nat → List am_V → List am_V → am_M → am_R) (pc : Nat) (ls st : List am_V) (M : am_M) : am_R := am_go [] [] 2 am_X0 pX0_takes [] k 100 pc ls st M
theorem uX0_takes {n pc : Nat} {ls st : List am_V} {M : am_M} {res : am_O × am_M} (h : gX0_takes (rX0_takes n) pc ls st M = some res) : rX0_takes (n + 100) pc ls st M = some res := am_go_ok h
theorem eX0_takes (x0 : Nat) (x1 : Int32) (M : am_M) : fX0_takes [.inr (0, x0), .inl (.int x1)] M = rX0_takes 100000 0 [.inr (0, x0), .inl (.int x1)] [] M := am_meth_eq rfl rfl
set_option maxRecDepth 20000 in
theorem gX0_takes_0 (k : Nat → List am_V → List am_V → am_M → am_R) (x0 : Nat) (x1 : Int32) (M : am_M) : gX0_takes k 0 [.inr (0, x0), .inl (.int x1)] [] M =
  if 5 ≤ (M 0 x0 2) then
   some (.inl (some (.inl (.int 0))), M)
  else if (M 0 x0 2) < 1 then
   some (.inl (some (.inl (.int 1))), M)
  else if am_in ((M 0 x0 2) - 1) 5 then
   if x1 = (M 11 x0 (Int32.toNatClampNeg ((M 0 x0 2) - 1))) then
    some (.inl (some (.inl (.int 0))), M)
   else some (.inl (some (.inl (.int 1))), M)
  else none := (rfl)
theorem eX0_takes_0 {n : Nat} {x0 : Nat} {x1 : Int32} {M : am_M} {res : am_O × am_M} (h : (if 5 ≤ (M 0 x0 2) then
   some (.inl (some (.inl (.int 0))), M)
  else if (M 0 x0 2) < 1 then
   some (.inl (some (.inl (.int 1))), M)
  else if am_in ((M 0 x0 2) - 1) 5 then
   if x1 = (M 11 x0 (Int32.toNatClampNeg ((M 0 x0 2) - 1))) then
    some (.inl (some (.inl (.int 0))), M)
   else some (.inl (some (.inl (.int 1))), M)
  else none) = some res) : rX0_takes (n + 100) 0 [.inr (0, x0), .inl (.int x1)] [] M = some res := uX0_takes ((gX0_takes_0 (rX0_takes n) x0 x1 M).trans h)
def rX0_add (n pc : Nat) (ls st : List am_V) (M : am_M) : am_R := am_run [] [] 0 am_X0 pX0_add n pc ls st M
def gX0_add (k : Nat → List am_V → List am_V → am_M → am_R) (pc : Nat) (ls st : List am_V) (M : am_M) : am_R := am_go [] [] 0 am_X0 pX0_add [] k 100 pc ls st M
theorem uX0_add {n pc : Nat} {ls st : List am_V} {M : am_M} {res : am_O × am_M} (h : gX0_add (rX0_add n) pc ls st M = some res) : rX0_add (n + 100) pc ls st M = some res := am_go_ok h
theorem eX0_add (x0 : Nat) (x1 : Int32) (x2 : Int32) (M : am_M) : fX0_add [.inr (0, x0), .inl (.int x1), .inl (.int x2)] M = rX0_add 100000 0 [.inr (0, x0), .inl (.int x1), .inl (.int x2)] [] M := am_meth_eq rfl rfl
set_option maxRecDepth 20000 in
theorem gX0_add_0 (k : Nat → List am_V → List am_V → am_M → am_R) (x0 : Nat) (x1 : Int32) (x2 : Int32) (M : am_M) : gX0_add k 0 [.inr (0, x0), .inl (.int x1), .inl (.int x2)] [] M =
  if (M 0 x0 2) < 1 then
   if 5 ≤ (M 0 x0 2) then
    some (.inl none, M)
   else if am_in (M 0 x0 2) 5 then
    if am_in (M 0 x0 2) 5 then
     some (.inl none, (am_put (am_put (am_put M 11 x0 (Int32.toNatClampNeg (M 0 x0 2)) x1) 12 x0 (Int32.toNatClampNeg (M 0 x0 2)) x2) 0 x0 2 ((M 0 x0 2) + 1)))
    else none
   else none
  else if am_in ((M 0 x0 2) - 1) 5 then
   if (M 11 x0 (Int32.toNatClampNeg ((M 0 x0 2) - 1))) ≤ x1 then
    if 5 ≤ (M 0 x0 2) then
     some (.inl none, M)
    else if am_in (M 0 x0 2) 5 then
     if am_in (M 0 x0 2) 5 then
      some (.inl none, (am_put (am_put (am_put M 11 x0 (Int32.toNatClampNeg (M 0 x0 2)) x1) 12 x0 (Int32.toNatClampNeg (M 0 x0 2)) x2) 0 x0 2 ((M 0 x0 2) + 1)))
     else none
    else none
   else if 5 ≤ ((am_put M 0 x0 2 0) 0 x0 2) then
    some (.inl none, (am_put M 0 x0 2 0))
   else if am_in ((am_put M 0 x0 2 0) 0 x0 2) 5 then
    if am_in ((am_put M 0 x0 2 0) 0 x0 2) 5 then
     some (.inl none, (am_put (am_put (am_put (am_put M 0 x0 2 0) 11 x0 (Int32.toNatClampNeg ((am_put M 0 x0 2 0) 0 x0 2)) x1) 12 x0 (Int32.toNatClampNeg ((am_put M 0 x0 2 0) 0 x0 2)) x2) 0 x0 2 (((am_put M 0 x0 2 0) 0 x0 2) + 1)))
    else none
   else none
  else none := (rfl)
theorem eX0_add_0 {n : Nat} {x0 : Nat} {x1 : Int32} {x2 : Int32} {M : am_M} {res : am_O × am_M} (h : (if (M 0 x0 2) < 1 then
   if 5 ≤ (M 0 x0 2) then
    some (.inl none, M)
   else if am_in (M 0 x0 2) 5 then
    if am_in (M 0 x0 2) 5 then
     some (.inl none, (am_put (am_put (am_put M 11 x0 (Int32.toNatClampNeg (M 0 x0 2)) x1) 12 x0 (Int32.toNatClampNeg (M 0 x0 2)) x2) 0 x0 2 ((M 0 x0 2) + 1)))
    else none
   else none
  else if am_in ((M 0 x0 2) - 1) 5 then
   if (M 11 x0 (Int32.toNatClampNeg ((M 0 x0 2) - 1))) ≤ x1 then
    if 5 ≤ (M 0 x0 2) then
     some (.inl none, M)
    else if am_in (M 0 x0 2) 5 then
     if am_in (M 0 x0 2) 5 then
      some (.inl none, (am_put (am_put (am_put M 11 x0 (Int32.toNatClampNeg (M 0 x0 2)) x1) 12 x0 (Int32.toNatClampNeg (M 0 x0 2)) x2) 0 x0 2 ((M 0 x0 2) + 1)))
     else none
    else none
   else if 5 ≤ ((am_put M 0 x0 2 0) 0 x0 2) then
    some (.inl none, (am_put M 0 x0 2 0))
   else if am_in ((am_put M 0 x0 2 0) 0 x0 2) 5 then
    if am_in ((am_put M 0 x0 2 0) 0 x0 2) 5 then
     some (.inl none, (am_put (am_put (am_put (am_put M 0 x0 2 0) 11 x0 (Int32.toNatClampNeg ((am_put M 0 x0 2 0) 0 x0 2)) x1) 12 x0 (Int32.toNatClampNeg ((am_put M 0 x0 2 0) 0 x0 2)) x2) 0 x0 2 (((am_put M 0 x0 2 0) 0 x0 2) + 1)))
    else none
   else none
  else none) = some res) : rX0_add (n + 100) 0 [.inr (0, x0), .inl (.int x1), .inl (.int x2)] [] M = some res := uX0_add ((gX0_add_0 (rX0_add n) x0 x1 x2 M).trans h)
def rX0_isMonotone (n pc : Nat) (ls st : List am_V) (M : am_M) : am_R := am_run [] [] 2 am_X0 pX0_isMonotone n pc ls st M
def gX0_isMonotone (k : Nat → List am_V → List am_V → am_M → am_R) (pc : Nat) (ls st : List am_V) (M : am_M) : am_R := am_go [] [] 2 am_X0 pX0_isMonotone [2] k 100 pc ls st M
theorem uX0_isMonotone {n pc : Nat} {ls st : List am_V} {M : am_M} {res : am_O × am_M} (h : gX0_isMonotone (rX0_isMonotone n) pc ls st M = some res) : rX0_isMonotone (n + 100) pc ls st M = some res := am_go_ok h
theorem eX0_isMonotone (x0 : Nat) (x1 : Int32) (M : am_M) : fX0_isMonotone [.inr (0, x0), .inl (.int x1)] M = rX0_isMonotone 100000 0 [.inr (0, x0), .inl (.int x1), am_D] [] M := am_meth_eq rfl rfl
set_option maxRecDepth 20000 in
theorem gX0_isMonotone_0 (k : Nat → List am_V → List am_V → am_M → am_R) (x0 : Nat) (x1 : Int32) (M : am_M) : gX0_isMonotone k 0 [.inr (0, x0), .inl (.int x1), am_D] [] M =
  k 2 [.inr (0, x0), .inl (.int x1), .inl (.int 1)] [] M := (rfl)
theorem eX0_isMonotone_0 {n : Nat} {x0 : Nat} {x1 : Int32} {M : am_M} {res : am_O × am_M} (h : (rX0_isMonotone n 2 [.inr (0, x0), .inl (.int x1), .inl (.int 1)] [] M) = some res) : rX0_isMonotone (n + 100) 0 [.inr (0, x0), .inl (.int x1), am_D] [] M = some res := uX0_isMonotone ((gX0_isMonotone_0 (rX0_isMonotone n) x0 x1 M).trans h)
set_option maxRecDepth 20000 in
theorem gX0_isMonotone_2 (k : Nat → List am_V → List am_V → am_M → am_R) (x0 : Nat) (x1 : Int32) (x2 : Int32) (M : am_M) : gX0_isMonotone k 2 [.inr (0, x0), .inl (.int x1), .inl (.int x2)] [] M =
  if (M 0 x0 2) ≤ x2 then
   some (.inl (some (.inl (.int 1))), M)
  else if am_in x2 5 then
   if am_in (x2 - 1) 5 then
    if 0 < (x1 * ((M 12 x0 (Int32.toNatClampNeg x2)) - (M 12 x0 (Int32.toNatClampNeg (x2 - 1))))) then
     k 2 [.inr (0, x0), .inl (.int x1), .inl (.int (x2 + 1))] [] M
    else some (.inl (some (.inl (.int 0))), M)
   else none
  else none := (rfl)
theorem eX0_isMonotone_2 {n : Nat} {x0 : Nat} {x1 : Int32} {x2 : Int32} {M : am_M} {res : am_O × am_M} (h : (if (M 0 x0 2) ≤ x2 then
   some (.inl (some (.inl (.int 1))), M)
  else if am_in x2 5 then
   if am_in (x2 - 1) 5 then
    if 0 < (x1 * ((M 12 x0 (Int32.toNatClampNeg x2)) - (M 12 x0 (Int32.toNatClampNeg (x2 - 1))))) then
     rX0_isMonotone n 2 [.inr (0, x0), .inl (.int x1), .inl (.int (x2 + 1))] [] M
    else some (.inl (some (.inl (.int 0))), M)
   else none
  else none) = some res) : rX0_isMonotone (n + 100) 2 [.inr (0, x0), .inl (.int x1), .inl (.int x2)] [] M = some res := uX0_isMonotone ((gX0_isMonotone_2 (rX0_isMonotone n) x0 x1 x2 M).trans h)
def rX0_isComplete (n pc : Nat) (ls st : List am_V) (M : am_M) : am_R := am_run [fX0_isMonotone] [] 2 am_X0 pX0_isComplete n pc ls st M
def gX0_isComplete (k : Nat → List am_V → List am_V → am_M → am_R) (pc : Nat) (ls st : List am_V) (M : am_M) : am_R := am_go [fX0_isMonotone] [] 2 am_X0 pX0_isComplete [13, 21] k 100 pc ls st M
theorem uX0_isComplete {n pc : Nat} {ls st : List am_V} {M : am_M} {res : am_O × am_M} (h : gX0_isComplete (rX0_isComplete n) pc ls st M = some res) : rX0_isComplete (n + 100) pc ls st M = some res := am_go_ok h
theorem eX0_isComplete (x0 : Nat) (M : am_M) : fX0_isComplete [.inr (0, x0)] M = rX0_isComplete 100000 0 [.inr (0, x0)] [] M := am_meth_eq rfl rfl
set_option maxRecDepth 20000 in
theorem gX0_isComplete_0 (k : Nat → List am_V → List am_V → am_M → am_R) (x0 : Nat) (M : am_M) : gX0_isComplete k 0 [.inr (0, x0)] [] M =
  if (M 0 x0 2) < 2 then
   some (.inl (some (.inl (.int 0))), M)
  else am_ret [] 10 [] (k 13 [.inr (0, x0)]) (fX0_isMonotone [.inr (0, x0), .inl (.int 1)] M) := (rfl)
theorem eX0_isComplete_0 {n : Nat} {x0 : Nat} {M : am_M} {res : am_O × am_M} (h : (if (M 0 x0 2) < 2 then
   some (.inl (some (.inl (.int 0))), M)
  else am_ret [] 10 [] (rX0_isComplete n 13 [.inr (0, x0)]) (fX0_isMonotone [.inr (0, x0), .inl (.int 1)] M)) = some res) : rX0_isComplete (n + 100) 0 [.inr (0, x0)] [] M = some res := uX0_isComplete ((gX0_isComplete_0 (rX0_isComplete n) x0 M).trans h)
set_option maxRecDepth 20000 in
theorem gX0_isComplete_13 (k : Nat → List am_V → List am_V → am_M → am_R) (x0 : Nat) (y0 : Int32) (M : am_M) : gX0_isComplete k 13 [.inr (0, x0)] [.inl (.int y0)] M =
  if y0 = 0 then
   am_ret [] 18 [] (k 21 [.inr (0, x0)]) (fX0_isMonotone [.inr (0, x0), .inl (.int (-1))] M)
  else some (.inl (some (.inl (.int 1))), M) := (rfl)
theorem eX0_isComplete_13 {n : Nat} {x0 : Nat} {y0 : Int32} {M : am_M} {res : am_O × am_M} (h : (if y0 = 0 then
   am_ret [] 18 [] (rX0_isComplete n 21 [.inr (0, x0)]) (fX0_isMonotone [.inr (0, x0), .inl (.int (-1))] M)
  else some (.inl (some (.inl (.int 1))), M)) = some res) : rX0_isComplete (n + 100) 13 [.inr (0, x0)] [.inl (.int y0)] M = some res := uX0_isComplete ((gX0_isComplete_13 (rX0_isComplete n) x0 y0 M).trans h)
set_option maxRecDepth 20000 in
theorem gX0_isComplete_21 (k : Nat → List am_V → List am_V → am_M → am_R) (x0 : Nat) (y0 : Int32) (M : am_M) : gX0_isComplete k 21 [.inr (0, x0)] [.inl (.int y0)] M =
  if y0 = 0 then
   some (.inl (some (.inl (.int 0))), M)
  else some (.inl (some (.inl (.int 1))), M) := (rfl)
theorem eX0_isComplete_21 {n : Nat} {x0 : Nat} {y0 : Int32} {M : am_M} {res : am_O × am_M} (h : (if y0 = 0 then
   some (.inl (some (.inl (.int 0))), M)
  else some (.inl (some (.inl (.int 1))), M)) = some res) : rX0_isComplete (n + 100) 21 [.inr (0, x0)] [.inl (.int y0)] M = some res := uX0_isComplete ((gX0_isComplete_21 (rX0_isComplete n) x0 y0 M).trans h)
def rJ9_floorDiv_f86c9 (n pc : Nat) (ls st : List am_V) (M : am_M) : am_R := am_run [] [] 3 am_X0 pJ9_floorDiv_f86c9 n pc ls st M
def gJ9_floorDiv_f86c9 (k : Nat → List am_V → List am_V → am_M → am_R) (pc : Nat) (ls st : List am_V) (M : am_M) : am_R := am_go [] [] 3 am_X0 pJ9_floorDiv_f86c9 [] k 100 pc ls st M
theorem uJ9_floorDiv_f86c9 {n pc : Nat} {ls st : List am_V} {M : am_M} {res : am_O × am_M} (h : gJ9_floorDiv_f86c9 (rJ9_floorDiv_f86c9 n) pc ls st M = some res) : rJ9_floorDiv_f86c9 (n + 100) pc ls st M = some res := am_go_ok h
theorem eJ9_floorDiv_f86c9 (x0 : Int64) (x1 : Int64) (M : am_M) : fJ9_floorDiv_f86c9 [.inl (.long x0), .inl (.long x1)] M = rJ9_floorDiv_f86c9 100000 0 [.inl (.long x0), am_D, .inl (.long x1), am_D, am_D, am_D] [] M := am_meth_eq rfl rfl
set_option maxRecDepth 20000 in
theorem gJ9_floorDiv_f86c9_0 (k : Nat → List am_V → List am_V → am_M → am_R) (x0 : Int64) (x2 : Int64) (M : am_M) : gJ9_floorDiv_f86c9 k 0 [.inl (.long x0), am_D, .inl (.long x2), am_D, am_D, am_D] [] M =
  if x2 = 0 then
   none
  else if 0 ≤ (lg_cmp (x0 ^^^ x2) 0) then
   some (.inl (some (.inl (.long (x0 / x2)))), M)
  else if (lg_cmp ((x0 / x2) * x2) x0) = 0 then
   some (.inl (some (.inl (.long (x0 / x2)))), M)
  else some (.inl (some (.inl (.long ((x0 / x2) - 1)))), M) := (rfl)
theorem eJ9_floorDiv_f86c9_0 {n : Nat} {x0 : Int64} {x2 : Int64} {M : am_M} {res : am_O × am_M} (h : (if x2 = 0 then
   none
  else if 0 ≤ (lg_cmp (x0 ^^^ x2) 0) then
   some (.inl (some (.inl (.long (x0 / x2)))), M)
  else if (lg_cmp ((x0 / x2) * x2) x0) = 0 then
   some (.inl (some (.inl (.long (x0 / x2)))), M)
  else some (.inl (some (.inl (.long ((x0 / x2) - 1)))), M)) = some res) : rJ9_floorDiv_f86c9 (n + 100) 0 [.inl (.long x0), am_D, .inl (.long x2), am_D, am_D, am_D] [] M = some res := uJ9_floorDiv_f86c9 ((gJ9_floorDiv_f86c9_0 (rJ9_floorDiv_f86c9 n) x0 x2 M).trans h)
def rX9_rounded (n pc : Nat) (ls st : List am_V) (M : am_M) : am_R := am_run [fJ9_floorDiv_f86c9] [] 3 am_X0 pX9_rounded n pc ls st M
def gX9_rounded (k : Nat → List am_V → List am_V → am_M → am_R) (pc : Nat) (ls st : List am_V) (M : am_M) : am_R := am_go [fJ9_floorDiv_f86c9] [] 3 am_X0 pX9_rounded [21] k 100 pc ls st M
theorem uX9_rounded {n pc : Nat} {ls st : List am_V} {M : am_M} {res : am_O × am_M} (h : gX9_rounded (rX9_rounded n) pc ls st M = some res) : rX9_rounded (n + 100) pc ls st M = some res := am_go_ok h
theorem eX9_rounded (x0 : Int64) (x1 : Int64) (M : am_M) : fX9_rounded [.inl (.long x0), .inl (.long x1)] M = rX9_rounded 100000 0 [.inl (.long x0), am_D, .inl (.long x1), am_D] [] M := am_meth_eq rfl rfl
set_option maxRecDepth 20000 in
theorem gX9_rounded_0 (k : Nat → List am_V → List am_V → am_M → am_R) (x0 : Int64) (x2 : Int64) (M : am_M) : gX9_rounded k 0 [.inl (.long x0), am_D, .inl (.long x2), am_D] [] M =
  if (lg_cmp x2 0) ≤ 0 then
   some (.inl (some (.inl (.long 0))), M)
  else am_ret [] 18 [] (k 21 [.inl (.long x0), am_D, .inl (.long x2), am_D]) (fJ9_floorDiv_f86c9 [.inl (.long ((2 * x0) + x2)), .inl (.long (2 * x2))] M) := (rfl)
theorem eX9_rounded_0 {n : Nat} {x0 : Int64} {x2 : Int64} {M : am_M} {res : am_O × am_M} (h : (if (lg_cmp x2 0) ≤ 0 then
   some (.inl (some (.inl (.long 0))), M)
  else am_ret [] 18 [] (rX9_rounded n 21 [.inl (.long x0), am_D, .inl (.long x2), am_D]) (fJ9_floorDiv_f86c9 [.inl (.long ((2 * x0) + x2)), .inl (.long (2 * x2))] M)) = some res) : rX9_rounded (n + 100) 0 [.inl (.long x0), am_D, .inl (.long x2), am_D] [] M = some res := uX9_rounded ((gX9_rounded_0 (rX9_rounded n) x0 x2 M).trans h)
set_option maxRecDepth 20000 in
theorem gX9_rounded_21 (k : Nat → List am_V → List am_V → am_M → am_R) (x0 : Int64) (x2 : Int64) (y0 : Int64) (M : am_M) : gX9_rounded k 21 [.inl (.long x0), am_D, .inl (.long x2), am_D] [.inl (.long y0)] M =
  some (.inl (some (.inl (.long y0))), M) := (rfl)
theorem eX9_rounded_21 {n : Nat} {x0 : Int64} {x2 : Int64} {y0 : Int64} {M : am_M} {res : am_O × am_M} (h : (some (.inl (some (.inl (.long y0))), M)) = some res) : rX9_rounded (n + 100) 21 [.inl (.long x0), am_D, .inl (.long x2), am_D] [.inl (.long y0)] M = some res := uX9_rounded ((gX9_rounded_21 (rX9_rounded n) x0 x2 y0 M).trans h)
