/-! ===== the runs, piece by piece ===== -/
def rX9_cleanCuvette (n pc : Nat) (ls st : List am_V) (M : am_M) : am_R := am_run [fX1_isClean] [] 1 am_X0 pX9_cleanCuvette n pc ls st M
def gX9_cleanCuvette (k : Nat → List am_V → List am_V → am_M → am_R) (pc : Nat) (ls st : List am_V) (M : am_M) : am_R := am_go [fX1_isClean] [] 1 am_X0 pX9_cleanCuvette [2, 17] k 100 pc ls st M
theorem uX9_cleanCuvette {n pc : Nat} {ls st : List am_V} {M : am_M} {res : am_O × am_M} (h : gX9_cleanCuvette (rX9_cleanCuvette n) pc ls st M = some res) : rX9_cleanCuvette (n + 100) pc ls st M = some res := am_go_ok h
theorem eX9_cleanCuvette (M : am_M) : fX9_cleanCuvette [.inr (9, 0)] M = rX9_cleanCuvette 100000 0 [.inr (9, 0), am_D] [] M := am_meth_eq rfl rfl
set_option maxRecDepth 20000 in
theorem gX9_cleanCuvette_0 (k : Nat → List am_V → List am_V → am_M → am_R) (M : am_M) : gX9_cleanCuvette k 0 [.inr (9, 0), am_D] [] M =
  k 2 [.inr (9, 0), .inl (.int 0)] [] M := (rfl)
theorem eX9_cleanCuvette_0 {n : Nat} {M : am_M} {res : am_O × am_M} (h : (rX9_cleanCuvette n 2 [.inr (9, 0), .inl (.int 0)] [] M) = some res) : rX9_cleanCuvette (n + 100) 0 [.inr (9, 0), am_D] [] M = some res := uX9_cleanCuvette ((gX9_cleanCuvette_0 (rX9_cleanCuvette n) M).trans h)
set_option maxRecDepth 20000 in
theorem gX9_cleanCuvette_2 (k : Nat → List am_V → List am_V → am_M → am_R) (x1 : Int32) (M : am_M) : gX9_cleanCuvette k 2 [.inr (9, 0), .inl (.int x1)] [] M =
  if 10 ≤ x1 then
   some (.inl (some (.inl (.int (-1)))), M)
  else if am_in x1 10 then
   am_ret [] 14 [] (k 17 [.inr (9, 0), .inl (.int x1)]) (fX1_isClean [.inr (1, (Int32.toNatClampNeg x1))] M)
  else none := (rfl)
theorem eX9_cleanCuvette_2 {n : Nat} {x1 : Int32} {M : am_M} {res : am_O × am_M} (h : (if 10 ≤ x1 then
   some (.inl (some (.inl (.int (-1)))), M)
  else if am_in x1 10 then
   am_ret [] 14 [] (rX9_cleanCuvette n 17 [.inr (9, 0), .inl (.int x1)]) (fX1_isClean [.inr (1, (Int32.toNatClampNeg x1))] M)
  else none) = some res) : rX9_cleanCuvette (n + 100) 2 [.inr (9, 0), .inl (.int x1)] [] M = some res := uX9_cleanCuvette ((gX9_cleanCuvette_2 (rX9_cleanCuvette n) x1 M).trans h)
set_option maxRecDepth 20000 in
theorem gX9_cleanCuvette_17 (k : Nat → List am_V → List am_V → am_M → am_R) (x1 : Int32) (y0 : Int32) (M : am_M) : gX9_cleanCuvette k 17 [.inr (9, 0), .inl (.int x1)] [.inl (.int y0)] M =
  if y0 = 0 then
   k 2 [.inr (9, 0), .inl (.int (x1 + 1))] [] M
  else some (.inl (some (.inl (.int x1))), M) := (rfl)
theorem eX9_cleanCuvette_17 {n : Nat} {x1 : Int32} {y0 : Int32} {M : am_M} {res : am_O × am_M} (h : (if y0 = 0 then
   rX9_cleanCuvette n 2 [.inr (9, 0), .inl (.int (x1 + 1))] [] M
  else some (.inl (some (.inl (.int x1))), M)) = some res) : rX9_cleanCuvette (n + 100) 17 [.inr (9, 0), .inl (.int x1)] [.inl (.int y0)] M = some res := uX9_cleanCuvette ((gX9_cleanCuvette_17 (rX9_cleanCuvette n) x1 y0 M).trans h)
def rX9_reserve (n pc : Nat) (ls st : List am_V) (M : am_M) : am_R := am_run [] [] 0 am_X0 pX9_reserve n pc ls st M
def gX9_reserve (k : Nat → List am_V → List am_V → am_M → am_R) (pc : Nat) (ls st : List am_V) (M : am_M) : am_R := am_go [] [] 0 am_X0 pX9_reserve [] k 100 pc ls st M
theorem uX9_reserve {n pc : Nat} {ls st : List am_V} {M : am_M} {res : am_O × am_M} (h : gX9_reserve (rX9_reserve n) pc ls st M = some res) : rX9_reserve (n + 100) pc ls st M = some res := am_go_ok h
theorem eX9_reserve (x1 : Nat) (x2 : Int32) (x3 : Int32) (x4 : Int32) (M : am_M) : fX9_reserve [.inr (9, 0), .inr (1, x1), .inl (.int x2), .inl (.int x3), .inl (.int x4)] M = rX9_reserve 100000 0 [.inr (9, 0), .inr (1, x1), .inl (.int x2), .inl (.int x3), .inl (.int x4)] [] M := am_meth_eq rfl rfl
set_option maxRecDepth 20000 in
theorem gX9_reserve_0 (k : Nat → List am_V → List am_V → am_M → am_R) (x1 : Nat) (x2 : Int32) (x3 : Int32) (x4 : Int32) (M : am_M) : gX9_reserve k 0 [.inr (9, 0), .inr (1, x1), .inl (.int x2), .inl (.int x3), .inl (.int x4)] [] M =
  if am_in x2 2 then
   if am_in x2 2 then
    if x3 = (-1) then
     some (.inl none, (am_put (am_put M 14 x1 (Int32.toNatClampNeg x2) x3) 15 x1 (Int32.toNatClampNeg x2) x4))
    else if am_in x3 8 then
     some (.inl none, (am_put (am_put (am_put M 14 x1 (Int32.toNatClampNeg x2) x3) 15 x1 (Int32.toNatClampNeg x2) x4) 5 (Int32.toNatClampNeg x3) 2 ((M 5 (Int32.toNatClampNeg x3) 2) + x4)))
    else none
   else none
  else none := (rfl)
theorem eX9_reserve_0 {n : Nat} {x1 : Nat} {x2 : Int32} {x3 : Int32} {x4 : Int32} {M : am_M} {res : am_O × am_M} (h : (if am_in x2 2 then
   if am_in x2 2 then
    if x3 = (-1) then
     some (.inl none, (am_put (am_put M 14 x1 (Int32.toNatClampNeg x2) x3) 15 x1 (Int32.toNatClampNeg x2) x4))
    else if am_in x3 8 then
     some (.inl none, (am_put (am_put (am_put M 14 x1 (Int32.toNatClampNeg x2) x3) 15 x1 (Int32.toNatClampNeg x2) x4) 5 (Int32.toNatClampNeg x3) 2 ((M 5 (Int32.toNatClampNeg x3) 2) + x4)))
    else none
   else none
  else none) = some res) : rX9_reserve (n + 100) 0 [.inr (9, 0), .inr (1, x1), .inl (.int x2), .inl (.int x3), .inl (.int x4)] [] M = some res := uX9_reserve ((gX9_reserve_0 (rX9_reserve n) x1 x2 x3 x4 M).trans h)
def rX9_takeSample (n pc : Nat) (ls st : List am_V) (M : am_M) : am_R := am_run [fX9_breakOff] [] 0 am_X0 pX9_takeSample n pc ls st M
def gX9_takeSample (k : Nat → List am_V → List am_V → am_M → am_R) (pc : Nat) (ls st : List am_V) (M : am_M) : am_R := am_go [fX9_breakOff] [] 0 am_X0 pX9_takeSample [18] k 100 pc ls st M
theorem uX9_takeSample {n pc : Nat} {ls st : List am_V} {M : am_M} {res : am_O × am_M} (h : gX9_takeSample (rX9_takeSample n) pc ls st M = some res) : rX9_takeSample (n + 100) pc ls st M = some res := am_go_ok h
theorem eX9_takeSample (x1 : Nat) (x2 : Int32) (x3 : Int32) (M : am_M) : fX9_takeSample [.inr (9, 0), .inr (8, x1), .inl (.int x2), .inl (.int x3)] M = rX9_takeSample 100000 0 [.inr (9, 0), .inr (8, x1), .inl (.int x2), .inl (.int x3)] [] M := am_meth_eq rfl rfl
set_option maxRecDepth 20000 in
theorem gX9_takeSample_0 (k : Nat → List am_V → List am_V → am_M → am_R) (x1 : Nat) (x2 : Int32) (x3 : Int32) (M : am_M) : gX9_takeSample k 0 [.inr (9, 0), .inr (8, x1), .inl (.int x2), .inl (.int x3)] [] M =
  if (am_b (M 9 0 10)) = 0 then
   if am_in x2 10 then
    some (.inl none, (am_put (am_put M 8 x1 2 ((M 8 x1 2) - x3)) 1 (Int32.toNatClampNeg x2) 9 x3))
   else none
  else am_ret [] 15 [] (k 18 [.inr (9, 0), .inr (8, x1), .inl (.int x2), .inl (.int x3)]) (fX9_breakOff [.inr (9, 0), .inl (.int x2), .inl (.int 3)] (am_put M 9 0 10 0)) := (rfl)
theorem eX9_takeSample_0 {n : Nat} {x1 : Nat} {x2 : Int32} {x3 : Int32} {M : am_M} {res : am_O × am_M} (h : (if (am_b (M 9 0 10)) = 0 then
   if am_in x2 10 then
    some (.inl none, (am_put (am_put M 8 x1 2 ((M 8 x1 2) - x3)) 1 (Int32.toNatClampNeg x2) 9 x3))
   else none
  else am_ret [] 15 [] (rX9_takeSample n 18 [.inr (9, 0), .inr (8, x1), .inl (.int x2), .inl (.int x3)]) (fX9_breakOff [.inr (9, 0), .inl (.int x2), .inl (.int 3)] (am_put M 9 0 10 0))) = some res) : rX9_takeSample (n + 100) 0 [.inr (9, 0), .inr (8, x1), .inl (.int x2), .inl (.int x3)] [] M = some res := uX9_takeSample ((gX9_takeSample_0 (rX9_takeSample n) x1 x2 x3 M).trans h)
set_option maxRecDepth 20000 in
theorem gX9_takeSample_18 (k : Nat → List am_V → List am_V → am_M → am_R) (x1 : Nat) (x2 : Int32) (x3 : Int32) (M : am_M) : gX9_takeSample k 18 [.inr (9, 0), .inr (8, x1), .inl (.int x2), .inl (.int x3)] [] M =
  some (.inl none, M) := (rfl)
theorem eX9_takeSample_18 {n : Nat} {x1 : Nat} {x2 : Int32} {x3 : Int32} {M : am_M} {res : am_O × am_M} (h : (some (.inl none, M)) = some res) : rX9_takeSample (n + 100) 18 [.inr (9, 0), .inr (8, x1), .inl (.int x2), .inl (.int x3)] [] M = some res := uX9_takeSample ((gX9_takeSample_18 (rX9_takeSample n) x1 x2 x3 M).trans h)
def rX9_tryStart (n pc : Nat) (ls st : List am_V) (M : am_M) : am_R := am_run [fX9_slotOf, fX6_sampleVolume, fX4_fail, fX9_positionFor, fX6_lacks, fX9_cleanCuvette, fX7_book, fX1_start, fX6_doseOf, fX9_reserve, fX4_startRun, fX9_takeSample] [] 2 am_X0 pX9_tryStart n pc ls st M
def gX9_tryStart (k : Nat → List am_V → List am_V → am_M → am_R) (pc : Nat) (ls st : List am_V) (M : am_M) : am_R := am_go [fX9_slotOf, fX6_sampleVolume, fX4_fail, fX9_positionFor, fX6_lacks, fX9_cleanCuvette, fX7_book, fX1_start, fX6_doseOf, fX9_reserve, fX4_startRun, fX9_takeSample] [] 2 am_X0 pX9_tryStart [25, 53, 70, 80, 89, 99, 113, 131, 157, 176, 195, 219, 222] k 100 pc ls st M
theorem uX9_tryStart {n pc : Nat} {ls st : List am_V} {M : am_M} {res : am_O × am_M} (h : gX9_tryStart (rX9_tryStart n) pc ls st M = some res) : rX9_tryStart (n + 100) pc ls st M = some res := am_go_ok h
theorem eX9_tryStart (x1 : Int32) (M : am_M) : fX9_tryStart [.inr (9, 0), .inl (.int x1)] M = rX9_tryStart 100000 0 [.inr (9, 0), .inl (.int x1), am_D, am_D, am_D, am_D, am_D, am_D] [] M := am_meth_eq rfl rfl
set_option maxRecDepth 20000 in
theorem gX9_tryStart_0 (k : Nat → List am_V → List am_V → am_M → am_R) (x1 : Int32) (M : am_M) : gX9_tryStart k 0 [.inr (9, 0), .inl (.int x1), am_D, am_D, am_D, am_D, am_D, am_D] [] M =
  if am_in x1 40 then
   if am_in (M 4 (Int32.toNatClampNeg x1) 1) 4 then
    am_ret [] 22 [] (k 25 [.inr (9, 0), .inl (.int x1), .inr (4, (Int32.toNatClampNeg x1)), .inr (6, (Int32.toNatClampNeg (M 4 (Int32.toNatClampNeg x1) 1))), am_D, am_D, am_D, am_D]) (fX9_slotOf [.inr (9, 0), .inl (.int (M 4 (Int32.toNatClampNeg x1) 0))] M)
   else none
  else none := (rfl)
theorem eX9_tryStart_0 {n : Nat} {x1 : Int32} {M : am_M} {res : am_O × am_M} (h : (if am_in x1 40 then
   if am_in (M 4 (Int32.toNatClampNeg x1) 1) 4 then
    am_ret [] 22 [] (rX9_tryStart n 25 [.inr (9, 0), .inl (.int x1), .inr (4, (Int32.toNatClampNeg x1)), .inr (6, (Int32.toNatClampNeg (M 4 (Int32.toNatClampNeg x1) 1))), am_D, am_D, am_D, am_D]) (fX9_slotOf [.inr (9, 0), .inl (.int (M 4 (Int32.toNatClampNeg x1) 0))] M)
   else none
  else none) = some res) : rX9_tryStart (n + 100) 0 [.inr (9, 0), .inl (.int x1), am_D, am_D, am_D, am_D, am_D, am_D] [] M = some res := uX9_tryStart ((gX9_tryStart_0 (rX9_tryStart n) x1 M).trans h)
set_option maxRecDepth 20000 in
theorem gX9_tryStart_25 (k : Nat → List am_V → List am_V → am_M → am_R) (x1 : Int32) (x2 : Nat) (x3 : Nat) (y0 : Int32) (M : am_M) : gX9_tryStart k 25 [.inr (9, 0), .inl (.int x1), .inr (4, x2), .inr (6, x3), am_D, am_D, am_D, am_D] [.inl (.int y0)] M =
  if y0 = (-1) then
   some (.inl (some (.inl (.int 0))), M)
  else if am_in y0 6 then
   am_ret [] 50 [.inl (.int (M 8 (Int32.toNatClampNeg y0) 2))] (k 53 [.inr (9, 0), .inl (.int x1), .inr (4, x2), .inr (6, x3), .inl (.int y0), am_D, am_D, am_D]) (fX6_sampleVolume [.inr (6, x3), .inl (.int (am_b (M 4 x2 6)))] M)
  else none := (rfl)
theorem eX9_tryStart_25 {n : Nat} {x1 : Int32} {x2 : Nat} {x3 : Nat} {y0 : Int32} {M : am_M} {res : am_O × am_M} (h : (if y0 = (-1) then
   some (.inl (some (.inl (.int 0))), M)
  else if am_in y0 6 then
   am_ret [] 50 [.inl (.int (M 8 (Int32.toNatClampNeg y0) 2))] (rX9_tryStart n 53 [.inr (9, 0), .inl (.int x1), .inr (4, x2), .inr (6, x3), .inl (.int y0), am_D, am_D, am_D]) (fX6_sampleVolume [.inr (6, x3), .inl (.int (am_b (M 4 x2 6)))] M)
  else none) = some res) : rX9_tryStart (n + 100) 25 [.inr (9, 0), .inl (.int x1), .inr (4, x2), .inr (6, x3), am_D, am_D, am_D, am_D] [.inl (.int y0)] M = some res := uX9_tryStart ((gX9_tryStart_25 (rX9_tryStart n) x1 x2 x3 y0 M).trans h)
set_option maxRecDepth 20000 in
theorem gX9_tryStart_53 (k : Nat → List am_V → List am_V → am_M → am_R) (x1 : Int32) (x2 : Nat) (x3 : Nat) (x4 : Int32) (y0 : Int32) (y1 : Int32) (M : am_M) : gX9_tryStart k 53 [.inr (9, 0), .inl (.int x1), .inr (4, x2), .inr (6, x3), .inl (.int x4), am_D, am_D, am_D] [.inl (.int y0), .inl (.int y1)] M =
  if y0 ≤ y1 then
   am_ret [] 67 [] (k 70 [.inr (9, 0), .inl (.int x1), .inr (4, x2), .inr (6, x3), .inl (.int x4), am_D, am_D, am_D]) (fX9_positionFor [.inr (9, 0), .inr (6, x3), .inl (.int 0), .inl (.int (-1))] M)
  else some (.inl (some (.inl (.int 0))), (am_put (am_put (am_put M 4 x2 3 3) 4 x2 4 1) 4 x2 7 (-1))) := (rfl)
theorem eX9_tryStart_53 {n : Nat} {x1 : Int32} {x2 : Nat} {x3 : Nat} {x4 : Int32} {y0 : Int32} {y1 : Int32} {M : am_M} {res : am_O × am_M} (h : (if y0 ≤ y1 then
   am_ret [] 67 [] (rX9_tryStart n 70 [.inr (9, 0), .inl (.int x1), .inr (4, x2), .inr (6, x3), .inl (.int x4), am_D, am_D, am_D]) (fX9_positionFor [.inr (9, 0), .inr (6, x3), .inl (.int 0), .inl (.int (-1))] M)
  else some (.inl (some (.inl (.int 0))), (am_put (am_put (am_put M 4 x2 3 3) 4 x2 4 1) 4 x2 7 (-1)))) = some res) : rX9_tryStart (n + 100) 53 [.inr (9, 0), .inl (.int x1), .inr (4, x2), .inr (6, x3), .inl (.int x4), am_D, am_D, am_D] [.inl (.int y0), .inl (.int y1)] M = some res := uX9_tryStart ((gX9_tryStart_53 (rX9_tryStart n) x1 x2 x3 x4 y0 y1 M).trans h)
set_option maxRecDepth 20000 in
theorem gX9_tryStart_70 (k : Nat → List am_V → List am_V → am_M → am_R) (x1 : Int32) (x2 : Nat) (x3 : Nat) (x4 : Int32) (y0 : Int32) (M : am_M) : gX9_tryStart k 70 [.inr (9, 0), .inl (.int x1), .inr (4, x2), .inr (6, x3), .inl (.int x4), am_D, am_D, am_D] [.inl (.int y0)] M =
  am_ret [] 77 [] (k 80 [.inr (9, 0), .inl (.int x1), .inr (4, x2), .inr (6, x3), .inl (.int x4), .inl (.int y0), am_D, am_D]) (fX9_positionFor [.inr (9, 0), .inr (6, x3), .inl (.int 1), .inl (.int y0)] M) := (rfl)
theorem eX9_tryStart_70 {n : Nat} {x1 : Int32} {x2 : Nat} {x3 : Nat} {x4 : Int32} {y0 : Int32} {M : am_M} {res : am_O × am_M} (h : (am_ret [] 77 [] (rX9_tryStart n 80 [.inr (9, 0), .inl (.int x1), .inr (4, x2), .inr (6, x3), .inl (.int x4), .inl (.int y0), am_D, am_D]) (fX9_positionFor [.inr (9, 0), .inr (6, x3), .inl (.int 1), .inl (.int y0)] M)) = some res) : rX9_tryStart (n + 100) 70 [.inr (9, 0), .inl (.int x1), .inr (4, x2), .inr (6, x3), .inl (.int x4), am_D, am_D, am_D] [.inl (.int y0)] M = some res := uX9_tryStart ((gX9_tryStart_70 (rX9_tryStart n) x1 x2 x3 x4 y0 M).trans h)
set_option maxRecDepth 20000 in
theorem gX9_tryStart_80 (k : Nat → List am_V → List am_V → am_M → am_R) (x1 : Int32) (x2 : Nat) (x3 : Nat) (x4 : Int32) (x5 : Int32) (y0 : Int32) (M : am_M) : gX9_tryStart k 80 [.inr (9, 0), .inl (.int x1), .inr (4, x2), .inr (6, x3), .inl (.int x4), .inl (.int x5), am_D, am_D] [.inl (.int y0)] M =
  am_ret [] 86 [] (k 89 [.inr (9, 0), .inl (.int x1), .inr (4, x2), .inr (6, x3), .inl (.int x4), .inl (.int x5), .inl (.int y0), am_D]) (fX6_lacks [.inr (6, x3), .inl (.int 0), .inl (.int x5)] M) := (rfl)
theorem eX9_tryStart_80 {n : Nat} {x1 : Int32} {x2 : Nat} {x3 : Nat} {x4 : Int32} {x5 : Int32} {y0 : Int32} {M : am_M} {res : am_O × am_M} (h : (am_ret [] 86 [] (rX9_tryStart n 89 [.inr (9, 0), .inl (.int x1), .inr (4, x2), .inr (6, x3), .inl (.int x4), .inl (.int x5), .inl (.int y0), am_D]) (fX6_lacks [.inr (6, x3), .inl (.int 0), .inl (.int x5)] M)) = some res) : rX9_tryStart (n + 100) 80 [.inr (9, 0), .inl (.int x1), .inr (4, x2), .inr (6, x3), .inl (.int x4), .inl (.int x5), am_D, am_D] [.inl (.int y0)] M = some res := uX9_tryStart ((gX9_tryStart_80 (rX9_tryStart n) x1 x2 x3 x4 x5 y0 M).trans h)
set_option maxRecDepth 20000 in
theorem gX9_tryStart_89 (k : Nat → List am_V → List am_V → am_M → am_R) (x1 : Int32) (x2 : Nat) (x3 : Nat) (x4 : Int32) (x5 : Int32) (x6 : Int32) (y0 : Int32) (M : am_M) : gX9_tryStart k 89 [.inr (9, 0), .inl (.int x1), .inr (4, x2), .inr (6, x3), .inl (.int x4), .inl (.int x5), .inl (.int x6), am_D] [.inl (.int y0)] M =
  if y0 = 0 then
   am_ret [] 96 [] (k 99 [.inr (9, 0), .inl (.int x1), .inr (4, x2), .inr (6, x3), .inl (.int x4), .inl (.int x5), .inl (.int x6), am_D]) (fX6_lacks [.inr (6, x3), .inl (.int 1), .inl (.int x6)] M)
  else some (.inl (some (.inl (.int 0))), (am_put (am_put (am_put M 4 x2 3 3) 4 x2 4 2) 4 x2 7 (-1))) := (rfl)
theorem eX9_tryStart_89 {n : Nat} {x1 : Int32} {x2 : Nat} {x3 : Nat} {x4 : Int32} {x5 : Int32} {x6 : Int32} {y0 : Int32} {M : am_M} {res : am_O × am_M} (h : (if y0 = 0 then
   am_ret [] 96 [] (rX9_tryStart n 99 [.inr (9, 0), .inl (.int x1), .inr (4, x2), .inr (6, x3), .inl (.int x4), .inl (.int x5), .inl (.int x6), am_D]) (fX6_lacks [.inr (6, x3), .inl (.int 1), .inl (.int x6)] M)
  else some (.inl (some (.inl (.int 0))), (am_put (am_put (am_put M 4 x2 3 3) 4 x2 4 2) 4 x2 7 (-1)))) = some res) : rX9_tryStart (n + 100) 89 [.inr (9, 0), .inl (.int x1), .inr (4, x2), .inr (6, x3), .inl (.int x4), .inl (.int x5), .inl (.int x6), am_D] [.inl (.int y0)] M = some res := uX9_tryStart ((gX9_tryStart_89 (rX9_tryStart n) x1 x2 x3 x4 x5 x6 y0 M).trans h)
set_option maxRecDepth 20000 in
theorem gX9_tryStart_99 (k : Nat → List am_V → List am_V → am_M → am_R) (x1 : Int32) (x2 : Nat) (x3 : Nat) (x4 : Int32) (x5 : Int32) (x6 : Int32) (y0 : Int32) (M : am_M) : gX9_tryStart k 99 [.inr (9, 0), .inl (.int x1), .inr (4, x2), .inr (6, x3), .inl (.int x4), .inl (.int x5), .inl (.int x6), am_D] [.inl (.int y0)] M =
  if y0 = 0 then
   am_ret [] 110 [] (k 113 [.inr (9, 0), .inl (.int x1), .inr (4, x2), .inr (6, x3), .inl (.int x4), .inl (.int x5), .inl (.int x6), am_D]) (fX9_cleanCuvette [.inr (9, 0)] M)
  else some (.inl (some (.inl (.int 0))), (am_put (am_put (am_put M 4 x2 3 3) 4 x2 4 2) 4 x2 7 (-1))) := (rfl)
theorem eX9_tryStart_99 {n : Nat} {x1 : Int32} {x2 : Nat} {x3 : Nat} {x4 : Int32} {x5 : Int32} {x6 : Int32} {y0 : Int32} {M : am_M} {res : am_O × am_M} (h : (if y0 = 0 then
   am_ret [] 110 [] (rX9_tryStart n 113 [.inr (9, 0), .inl (.int x1), .inr (4, x2), .inr (6, x3), .inl (.int x4), .inl (.int x5), .inl (.int x6), am_D]) (fX9_cleanCuvette [.inr (9, 0)] M)
  else some (.inl (some (.inl (.int 0))), (am_put (am_put (am_put M 4 x2 3 3) 4 x2 4 2) 4 x2 7 (-1)))) = some res) : rX9_tryStart (n + 100) 99 [.inr (9, 0), .inl (.int x1), .inr (4, x2), .inr (6, x3), .inl (.int x4), .inl (.int x5), .inl (.int x6), am_D] [.inl (.int y0)] M = some res := uX9_tryStart ((gX9_tryStart_99 (rX9_tryStart n) x1 x2 x3 x4 x5 x6 y0 M).trans h)
set_option maxRecDepth 20000 in
theorem gX9_tryStart_113 (k : Nat → List am_V → List am_V → am_M → am_R) (x1 : Int32) (x2 : Nat) (x3 : Nat) (x4 : Int32) (x5 : Int32) (x6 : Int32) (y0 : Int32) (M : am_M) : gX9_tryStart k 113 [.inr (9, 0), .inl (.int x1), .inr (4, x2), .inr (6, x3), .inl (.int x4), .inl (.int x5), .inl (.int x6), am_D] [.inl (.int y0)] M =
  if y0 = (-1) then
   some (.inl (some (.inl (.int 0))), M)
  else am_ret [] 128 [] (k 131 [.inr (9, 0), .inl (.int x1), .inr (4, x2), .inr (6, x3), .inl (.int x4), .inl (.int x5), .inl (.int x6), .inl (.int y0)]) (fX7_book [.inr (7, 0), .inr (6, x3), .inl (.int y0)] M) := (rfl)
theorem eX9_tryStart_113 {n : Nat} {x1 : Int32} {x2 : Nat} {x3 : Nat} {x4 : Int32} {x5 : Int32} {x6 : Int32} {y0 : Int32} {M : am_M} {res : am_O × am_M} (h : (if y0 = (-1) then
   some (.inl (some (.inl (.int 0))), M)
  else am_ret [] 128 [] (rX9_tryStart n 131 [.inr (9, 0), .inl (.int x1), .inr (4, x2), .inr (6, x3), .inl (.int x4), .inl (.int x5), .inl (.int x6), .inl (.int y0)]) (fX7_book [.inr (7, 0), .inr (6, x3), .inl (.int y0)] M)) = some res) : rX9_tryStart (n + 100) 113 [.inr (9, 0), .inl (.int x1), .inr (4, x2), .inr (6, x3), .inl (.int x4), .inl (.int x5), .inl (.int x6), am_D] [.inl (.int y0)] M = some res := uX9_tryStart ((gX9_tryStart_113 (rX9_tryStart n) x1 x2 x3 x4 x5 x6 y0 M).trans h)
set_option maxRecDepth 20000 in
theorem gX9_tryStart_131 (k : Nat → List am_V → List am_V → am_M → am_R) (x1 : Int32) (x2 : Nat) (x3 : Nat) (x4 : Int32) (x5 : Int32) (x6 : Int32) (x7 : Int32) (y0 : Int32) (M : am_M) : gX9_tryStart k 131 [.inr (9, 0), .inl (.int x1), .inr (4, x2), .inr (6, x3), .inl (.int x4), .inl (.int x5), .inl (.int x6), .inl (.int x7)] [.inl (.int y0)] M =
  if y0 = 0 then
   some (.inl (some (.inl (.int 0))), M)
  else if am_in x7 10 then
   if am_in x4 6 then
    am_ret [] 154 [] (k 157 [.inr (9, 0), .inl (.int x1), .inr (4, x2), .inr (6, x3), .inl (.int x4), .inl (.int x5), .inl (.int x6), .inl (.int x7)]) (fX1_start [.inr (1, (Int32.toNatClampNeg x7)), .inl (.int x1), .inl (.int (am_b (M 8 (Int32.toNatClampNeg x4) 1)))] M)
   else none
  else none := (rfl)
theorem eX9_tryStart_131 {n : Nat} {x1 : Int32} {x2 : Nat} {x3 : Nat} {x4 : Int32} {x5 : Int32} {x6 : Int32} {x7 : Int32} {y0 : Int32} {M : am_M} {res : am_O × am_M} (h : (if y0 = 0 then
   some (.inl (some (.inl (.int 0))), M)
  else if am_in x7 10 then
   if am_in x4 6 then
    am_ret [] 154 [] (rX9_tryStart n 157 [.inr (9, 0), .inl (.int x1), .inr (4, x2), .inr (6, x3), .inl (.int x4), .inl (.int x5), .inl (.int x6), .inl (.int x7)]) (fX1_start [.inr (1, (Int32.toNatClampNeg x7)), .inl (.int x1), .inl (.int (am_b (M 8 (Int32.toNatClampNeg x4) 1)))] M)
   else none
  else none) = some res) : rX9_tryStart (n + 100) 131 [.inr (9, 0), .inl (.int x1), .inr (4, x2), .inr (6, x3), .inl (.int x4), .inl (.int x5), .inl (.int x6), .inl (.int x7)] [.inl (.int y0)] M = some res := uX9_tryStart ((gX9_tryStart_131 (rX9_tryStart n) x1 x2 x3 x4 x5 x6 x7 y0 M).trans h)
set_option maxRecDepth 20000 in
theorem gX9_tryStart_157 (k : Nat → List am_V → List am_V → am_M → am_R) (x1 : Int32) (x2 : Nat) (x3 : Nat) (x4 : Int32) (x5 : Int32) (x6 : Int32) (x7 : Int32) (M : am_M) : gX9_tryStart k 157 [.inr (9, 0), .inl (.int x1), .inr (4, x2), .inr (6, x3), .inl (.int x4), .inl (.int x5), .inl (.int x6), .inl (.int x7)] [] M =
  if am_in x7 10 then
   am_ret [] 173 [] (k 176 [.inr (9, 0), .inl (.int x1), .inr (4, x2), .inr (6, x3), .inl (.int x4), .inl (.int x5), .inl (.int x6), .inl (.int x7)]) (fX9_reserve [.inr (9, 0), .inr (1, (Int32.toNatClampNeg x7)), .inl (.int 0), .inl (.int x5), .inl (.int (M 18 x3 2))] M)
  else none := (rfl)
theorem eX9_tryStart_157 {n : Nat} {x1 : Int32} {x2 : Nat} {x3 : Nat} {x4 : Int32} {x5 : Int32} {x6 : Int32} {x7 : Int32} {M : am_M} {res : am_O × am_M} (h : (if am_in x7 10 then
   am_ret [] 173 [] (rX9_tryStart n 176 [.inr (9, 0), .inl (.int x1), .inr (4, x2), .inr (6, x3), .inl (.int x4), .inl (.int x5), .inl (.int x6), .inl (.int x7)]) (fX9_reserve [.inr (9, 0), .inr (1, (Int32.toNatClampNeg x7)), .inl (.int 0), .inl (.int x5), .inl (.int (M 18 x3 2))] M)
  else none) = some res) : rX9_tryStart (n + 100) 157 [.inr (9, 0), .inl (.int x1), .inr (4, x2), .inr (6, x3), .inl (.int x4), .inl (.int x5), .inl (.int x6), .inl (.int x7)] [] M = some res := uX9_tryStart ((gX9_tryStart_157 (rX9_tryStart n) x1 x2 x3 x4 x5 x6 x7 M).trans h)
set_option maxRecDepth 20000 in
theorem gX9_tryStart_176 (k : Nat → List am_V → List am_V → am_M → am_R) (x1 : Int32) (x2 : Nat) (x3 : Nat) (x4 : Int32) (x5 : Int32) (x6 : Int32) (x7 : Int32) (M : am_M) : gX9_tryStart k 176 [.inr (9, 0), .inl (.int x1), .inr (4, x2), .inr (6, x3), .inl (.int x4), .inl (.int x5), .inl (.int x6), .inl (.int x7)] [] M =
  if am_in x7 10 then
   am_ret [] 192 [] (k 195 [.inr (9, 0), .inl (.int x1), .inr (4, x2), .inr (6, x3), .inl (.int x4), .inl (.int x5), .inl (.int x6), .inl (.int x7)]) (fX9_reserve [.inr (9, 0), .inr (1, (Int32.toNatClampNeg x7)), .inl (.int 1), .inl (.int x6), .inl (.int (M 18 x3 5))] M)
  else none := (rfl)
theorem eX9_tryStart_176 {n : Nat} {x1 : Int32} {x2 : Nat} {x3 : Nat} {x4 : Int32} {x5 : Int32} {x6 : Int32} {x7 : Int32} {M : am_M} {res : am_O × am_M} (h : (if am_in x7 10 then
   am_ret [] 192 [] (rX9_tryStart n 195 [.inr (9, 0), .inl (.int x1), .inr (4, x2), .inr (6, x3), .inl (.int x4), .inl (.int x5), .inl (.int x6), .inl (.int x7)]) (fX9_reserve [.inr (9, 0), .inr (1, (Int32.toNatClampNeg x7)), .inl (.int 1), .inl (.int x6), .inl (.int (M 18 x3 5))] M)
  else none) = some res) : rX9_tryStart (n + 100) 176 [.inr (9, 0), .inl (.int x1), .inr (4, x2), .inr (6, x3), .inl (.int x4), .inl (.int x5), .inl (.int x6), .inl (.int x7)] [] M = some res := uX9_tryStart ((gX9_tryStart_176 (rX9_tryStart n) x1 x2 x3 x4 x5 x6 x7 M).trans h)
set_option maxRecDepth 20000 in
theorem gX9_tryStart_195 (k : Nat → List am_V → List am_V → am_M → am_R) (x1 : Int32) (x2 : Nat) (x3 : Nat) (x4 : Int32) (x5 : Int32) (x6 : Int32) (x7 : Int32) (M : am_M) : gX9_tryStart k 195 [.inr (9, 0), .inl (.int x1), .inr (4, x2), .inr (6, x3), .inl (.int x4), .inl (.int x5), .inl (.int x6), .inl (.int x7)] [] M =
  if am_in x4 6 then
   am_ret [] 216 [.inl (.int x7), .inr (8, (Int32.toNatClampNeg x4)), .inr (9, 0)] (k 219 [.inr (9, 0), .inl (.int x1), .inr (4, x2), .inr (6, x3), .inl (.int x4), .inl (.int x5), .inl (.int x6), .inl (.int x7)]) (fX6_sampleVolume [.inr (6, x3), .inl (.int (am_b ((am_put (am_put (am_put M 4 x2 3 1) 4 x2 5 (((am_put M 4 x2 3 1) 4 x2 5) + 1)) 4 x2 7 x7) 4 x2 6)))] (am_put (am_put (am_put M 4 x2 3 1) 4 x2 5 (((am_put M 4 x2 3 1) 4 x2 5) + 1)) 4 x2 7 x7))
  else none := (rfl)
theorem eX9_tryStart_195 {n : Nat} {x1 : Int32} {x2 : Nat} {x3 : Nat} {x4 : Int32} {x5 : Int32} {x6 : Int32} {x7 : Int32} {M : am_M} {res : am_O × am_M} (h : (if am_in x4 6 then
   am_ret [] 216 [.inl (.int x7), .inr (8, (Int32.toNatClampNeg x4)), .inr (9, 0)] (rX9_tryStart n 219 [.inr (9, 0), .inl (.int x1), .inr (4, x2), .inr (6, x3), .inl (.int x4), .inl (.int x5), .inl (.int x6), .inl (.int x7)]) (fX6_sampleVolume [.inr (6, x3), .inl (.int (am_b ((am_put (am_put (am_put M 4 x2 3 1) 4 x2 5 (((am_put M 4 x2 3 1) 4 x2 5) + 1)) 4 x2 7 x7) 4 x2 6)))] (am_put (am_put (am_put M 4 x2 3 1) 4 x2 5 (((am_put M 4 x2 3 1) 4 x2 5) + 1)) 4 x2 7 x7))
  else none) = some res) : rX9_tryStart (n + 100) 195 [.inr (9, 0), .inl (.int x1), .inr (4, x2), .inr (6, x3), .inl (.int x4), .inl (.int x5), .inl (.int x6), .inl (.int x7)] [] M = some res := uX9_tryStart ((gX9_tryStart_195 (rX9_tryStart n) x1 x2 x3 x4 x5 x6 x7 M).trans h)
set_option maxRecDepth 20000 in
theorem gX9_tryStart_219 (k : Nat → List am_V → List am_V → am_M → am_R) (x1 : Int32) (x2 : Nat) (x3 : Nat) (x4 : Int32) (x5 : Int32) (x6 : Int32) (x7 : Int32) (y0 : Int32) (y1 : Int32) (y2 : Nat) (M : am_M) : gX9_tryStart k 219 [.inr (9, 0), .inl (.int x1), .inr (4, x2), .inr (6, x3), .inl (.int x4), .inl (.int x5), .inl (.int x6), .inl (.int x7)] [.inl (.int y0), .inl (.int y1), .inr (8, y2), .inr (9, 0)] M =
  am_ret [] 219 [] (k 222 [.inr (9, 0), .inl (.int x1), .inr (4, x2), .inr (6, x3), .inl (.int x4), .inl (.int x5), .inl (.int x6), .inl (.int x7)]) (fX9_takeSample [.inr (9, 0), .inr (8, y2), .inl (.int y1), .inl (.int y0)] M) := (rfl)
theorem eX9_tryStart_219 {n : Nat} {x1 : Int32} {x2 : Nat} {x3 : Nat} {x4 : Int32} {x5 : Int32} {x6 : Int32} {x7 : Int32} {y0 : Int32} {y1 : Int32} {y2 : Nat} {M : am_M} {res : am_O × am_M} (h : (am_ret [] 219 [] (rX9_tryStart n 222 [.inr (9, 0), .inl (.int x1), .inr (4, x2), .inr (6, x3), .inl (.int x4), .inl (.int x5), .inl (.int x6), .inl (.int x7)]) (fX9_takeSample [.inr (9, 0), .inr (8, y2), .inl (.int y1), .inl (.int y0)] M)) = some res) : rX9_tryStart (n + 100) 219 [.inr (9, 0), .inl (.int x1), .inr (4, x2), .inr (6, x3), .inl (.int x4), .inl (.int x5), .inl (.int x6), .inl (.int x7)] [.inl (.int y0), .inl (.int y1), .inr (8, y2), .inr (9, 0)] M = some res := uX9_tryStart ((gX9_tryStart_219 (rX9_tryStart n) x1 x2 x3 x4 x5 x6 x7 y0 y1 y2 M).trans h)
set_option maxRecDepth 20000 in
theorem gX9_tryStart_222 (k : Nat → List am_V → List am_V → am_M → am_R) (x1 : Int32) (x2 : Nat) (x3 : Nat) (x4 : Int32) (x5 : Int32) (x6 : Int32) (x7 : Int32) (M : am_M) : gX9_tryStart k 222 [.inr (9, 0), .inl (.int x1), .inr (4, x2), .inr (6, x3), .inl (.int x4), .inl (.int x5), .inl (.int x6), .inl (.int x7)] [] M =
  some (.inl (some (.inl (.int 1))), M) := (rfl)
theorem eX9_tryStart_222 {n : Nat} {x1 : Int32} {x2 : Nat} {x3 : Nat} {x4 : Int32} {x5 : Int32} {x6 : Int32} {x7 : Int32} {M : am_M} {res : am_O × am_M} (h : (some (.inl (some (.inl (.int 1))), M)) = some res) : rX9_tryStart (n + 100) 222 [.inr (9, 0), .inl (.int x1), .inr (4, x2), .inr (6, x3), .inl (.int x4), .inl (.int x5), .inl (.int x6), .inl (.int x7)] [] M = some res := uX9_tryStart ((gX9_tryStart_222 (rX9_tryStart n) x1 x2 x3 x4 x5 x6 x7 M).trans h)
def rX9_startFirst (n pc : Nat) (ls st : List am_V) (M : am_M) : am_R := am_run [fX9_tryStart] [] 1 am_X0 pX9_startFirst n pc ls st M
def gX9_startFirst (k : Nat → List am_V → List am_V → am_M → am_R) (pc : Nat) (ls st : List am_V) (M : am_M) : am_R := am_go [fX9_tryStart] [] 1 am_X0 pX9_startFirst [2, 40] k 100 pc ls st M
theorem uX9_startFirst {n pc : Nat} {ls st : List am_V} {M : am_M} {res : am_O × am_M} (h : gX9_startFirst (rX9_startFirst n) pc ls st M = some res) : rX9_startFirst (n + 100) pc ls st M = some res := am_go_ok h
theorem eX9_startFirst (x1 : Int32) (M : am_M) : fX9_startFirst [.inr (9, 0), .inl (.int x1)] M = rX9_startFirst 100000 0 [.inr (9, 0), .inl (.int x1), am_D] [] M := am_meth_eq rfl rfl
set_option maxRecDepth 20000 in
theorem gX9_startFirst_0 (k : Nat → List am_V → List am_V → am_M → am_R) (x1 : Int32) (M : am_M) : gX9_startFirst k 0 [.inr (9, 0), .inl (.int x1), am_D] [] M =
  k 2 [.inr (9, 0), .inl (.int x1), .inl (.int 0)] [] M := (rfl)
theorem eX9_startFirst_0 {n : Nat} {x1 : Int32} {M : am_M} {res : am_O × am_M} (h : (rX9_startFirst n 2 [.inr (9, 0), .inl (.int x1), .inl (.int 0)] [] M) = some res) : rX9_startFirst (n + 100) 0 [.inr (9, 0), .inl (.int x1), am_D] [] M = some res := uX9_startFirst ((gX9_startFirst_0 (rX9_startFirst n) x1 M).trans h)
set_option maxRecDepth 20000 in
theorem gX9_startFirst_2 (k : Nat → List am_V → List am_V → am_M → am_R) (x1 : Int32) (x2 : Int32) (M : am_M) : gX9_startFirst k 2 [.inr (9, 0), .inl (.int x1), .inl (.int x2)] [] M =
  if (M 9 0 7) ≤ x2 then
   some (.inl (some (.inl (.int (-1)))), M)
  else if am_in x2 40 then
   if (M 4 (Int32.toNatClampNeg x2) 3) = 0 then
    if am_in x2 40 then
     if (am_b (M 4 (Int32.toNatClampNeg x2) 2)) = x1 then
      am_ret [] 37 [] (k 40 [.inr (9, 0), .inl (.int x1), .inl (.int x2)]) (fX9_tryStart [.inr (9, 0), .inl (.int x2)] M)
     else k 2 [.inr (9, 0), .inl (.int x1), .inl (.int (x2 + 1))] [] M
    else none
   else k 2 [.inr (9, 0), .inl (.int x1), .inl (.int (x2 + 1))] [] M
  else none := (rfl)
theorem eX9_startFirst_2 {n : Nat} {x1 : Int32} {x2 : Int32} {M : am_M} {res : am_O × am_M} (h : (if (M 9 0 7) ≤ x2 then
   some (.inl (some (.inl (.int (-1)))), M)
  else if am_in x2 40 then
   if (M 4 (Int32.toNatClampNeg x2) 3) = 0 then
    if am_in x2 40 then
     if (am_b (M 4 (Int32.toNatClampNeg x2) 2)) = x1 then
      am_ret [] 37 [] (rX9_startFirst n 40 [.inr (9, 0), .inl (.int x1), .inl (.int x2)]) (fX9_tryStart [.inr (9, 0), .inl (.int x2)] M)
     else rX9_startFirst n 2 [.inr (9, 0), .inl (.int x1), .inl (.int (x2 + 1))] [] M
    else none
   else rX9_startFirst n 2 [.inr (9, 0), .inl (.int x1), .inl (.int (x2 + 1))] [] M
  else none) = some res) : rX9_startFirst (n + 100) 2 [.inr (9, 0), .inl (.int x1), .inl (.int x2)] [] M = some res := uX9_startFirst ((gX9_startFirst_2 (rX9_startFirst n) x1 x2 M).trans h)
set_option maxRecDepth 20000 in
theorem gX9_startFirst_40 (k : Nat → List am_V → List am_V → am_M → am_R) (x1 : Int32) (x2 : Int32) (y0 : Int32) (M : am_M) : gX9_startFirst k 40 [.inr (9, 0), .inl (.int x1), .inl (.int x2)] [.inl (.int y0)] M =
  if y0 = 0 then
   k 2 [.inr (9, 0), .inl (.int x1), .inl (.int (x2 + 1))] [] M
  else some (.inl (some (.inl (.int x2))), M) := (rfl)
theorem eX9_startFirst_40 {n : Nat} {x1 : Int32} {x2 : Int32} {y0 : Int32} {M : am_M} {res : am_O × am_M} (h : (if y0 = 0 then
   rX9_startFirst n 2 [.inr (9, 0), .inl (.int x1), .inl (.int (x2 + 1))] [] M
  else some (.inl (some (.inl (.int x2))), M)) = some res) : rX9_startFirst (n + 100) 40 [.inr (9, 0), .inl (.int x1), .inl (.int x2)] [.inl (.int y0)] M = some res := uX9_startFirst ((gX9_startFirst_40 (rX9_startFirst n) x1 x2 y0 M).trans h)
def rX9_step (n pc : Nat) (ls st : List am_V) (M : am_M) : am_R := am_run [fX9_turnDisc, fX9_giveReagent, fX9_takeReadings, fX9_judgeEndedRuns, fX9_startFirst] [] 1 am_X0 pX9_step n pc ls st M
def gX9_step (k : Nat → List am_V → List am_V → am_M → am_R) (pc : Nat) (ls st : List am_V) (M : am_M) : am_R := am_go [fX9_turnDisc, fX9_giveReagent, fX9_takeReadings, fX9_judgeEndedRuns, fX9_startFirst] [] 1 am_X0 pX9_step [4, 8, 12, 16, 21, 32] k 100 pc ls st M
theorem uX9_step {n pc : Nat} {ls st : List am_V} {M : am_M} {res : am_O × am_M} (h : gX9_step (rX9_step n) pc ls st M = some res) : rX9_step (n + 100) pc ls st M = some res := am_go_ok h
theorem eX9_step (M : am_M) : fX9_step [.inr (9, 0)] M = rX9_step 100000 0 [.inr (9, 0), am_D] [] M := am_meth_eq rfl rfl
set_option maxRecDepth 20000 in
theorem gX9_step_0 (k : Nat → List am_V → List am_V → am_M → am_R) (M : am_M) : gX9_step k 0 [.inr (9, 0), am_D] [] M =
  am_ret [] 1 [] (k 4 [.inr (9, 0), am_D]) (fX9_turnDisc [.inr (9, 0)] M) := (rfl)
theorem eX9_step_0 {n : Nat} {M : am_M} {res : am_O × am_M} (h : (am_ret [] 1 [] (rX9_step n 4 [.inr (9, 0), am_D]) (fX9_turnDisc [.inr (9, 0)] M)) = some res) : rX9_step (n + 100) 0 [.inr (9, 0), am_D] [] M = some res := uX9_step ((gX9_step_0 (rX9_step n) M).trans h)
set_option maxRecDepth 20000 in
theorem gX9_step_4 (k : Nat → List am_V → List am_V → am_M → am_R) (M : am_M) : gX9_step k 4 [.inr (9, 0), am_D] [] M =
  am_ret [] 5 [] (k 8 [.inr (9, 0), am_D]) (fX9_giveReagent [.inr (9, 0)] M) := (rfl)
theorem eX9_step_4 {n : Nat} {M : am_M} {res : am_O × am_M} (h : (am_ret [] 5 [] (rX9_step n 8 [.inr (9, 0), am_D]) (fX9_giveReagent [.inr (9, 0)] M)) = some res) : rX9_step (n + 100) 4 [.inr (9, 0), am_D] [] M = some res := uX9_step ((gX9_step_4 (rX9_step n) M).trans h)
set_option maxRecDepth 20000 in
theorem gX9_step_8 (k : Nat → List am_V → List am_V → am_M → am_R) (M : am_M) : gX9_step k 8 [.inr (9, 0), am_D] [] M =
  am_ret [] 9 [] (k 12 [.inr (9, 0), am_D]) (fX9_takeReadings [.inr (9, 0)] M) := (rfl)
theorem eX9_step_8 {n : Nat} {M : am_M} {res : am_O × am_M} (h : (am_ret [] 9 [] (rX9_step n 12 [.inr (9, 0), am_D]) (fX9_takeReadings [.inr (9, 0)] M)) = some res) : rX9_step (n + 100) 8 [.inr (9, 0), am_D] [] M = some res := uX9_step ((gX9_step_8 (rX9_step n) M).trans h)
set_option maxRecDepth 20000 in
theorem gX9_step_12 (k : Nat → List am_V → List am_V → am_M → am_R) (M : am_M) : gX9_step k 12 [.inr (9, 0), am_D] [] M =
  am_ret [] 13 [] (k 16 [.inr (9, 0), am_D]) (fX9_judgeEndedRuns [.inr (9, 0)] M) := (rfl)
theorem eX9_step_12 {n : Nat} {M : am_M} {res : am_O × am_M} (h : (am_ret [] 13 [] (rX9_step n 16 [.inr (9, 0), am_D]) (fX9_judgeEndedRuns [.inr (9, 0)] M)) = some res) : rX9_step (n + 100) 12 [.inr (9, 0), am_D] [] M = some res := uX9_step ((gX9_step_12 (rX9_step n) M).trans h)
set_option maxRecDepth 20000 in
theorem gX9_step_16 (k : Nat → List am_V → List am_V → am_M → am_R) (M : am_M) : gX9_step k 16 [.inr (9, 0), am_D] [] M =
  am_ret [] 18 [] (k 21 [.inr (9, 0), am_D]) (fX9_startFirst [.inr (9, 0), .inl (.int 1)] M) := (rfl)
theorem eX9_step_16 {n : Nat} {M : am_M} {res : am_O × am_M} (h : (am_ret [] 18 [] (rX9_step n 21 [.inr (9, 0), am_D]) (fX9_startFirst [.inr (9, 0), .inl (.int 1)] M)) = some res) : rX9_step (n + 100) 16 [.inr (9, 0), am_D] [] M = some res := uX9_step ((gX9_step_16 (rX9_step n) M).trans h)
set_option maxRecDepth 20000 in
theorem gX9_step_21 (k : Nat → List am_V → List am_V → am_M → am_R) (y0 : Int32) (M : am_M) : gX9_step k 21 [.inr (9, 0), am_D] [.inl (.int y0)] M =
  if y0 = (-1) then
   am_ret [] 29 [] (k 32 [.inr (9, 0), .inl (.int y0)]) (fX9_startFirst [.inr (9, 0), .inl (.int 0)] M)
  else if y0 = (-1) then
   some (.inl (some (.inl (.int y0))), (am_put M 9 0 12 ((M 9 0 12) + 1)))
  else some (.inl (some (.inl (.int y0))), M) := (rfl)
theorem eX9_step_21 {n : Nat} {y0 : Int32} {M : am_M} {res : am_O × am_M} (h : (if y0 = (-1) then
   am_ret [] 29 [] (rX9_step n 32 [.inr (9, 0), .inl (.int y0)]) (fX9_startFirst [.inr (9, 0), .inl (.int 0)] M)
  else if y0 = (-1) then
   some (.inl (some (.inl (.int y0))), (am_put M 9 0 12 ((M 9 0 12) + 1)))
  else some (.inl (some (.inl (.int y0))), M)) = some res) : rX9_step (n + 100) 21 [.inr (9, 0), am_D] [.inl (.int y0)] M = some res := uX9_step ((gX9_step_21 (rX9_step n) y0 M).trans h)
set_option maxRecDepth 20000 in
theorem gX9_step_32 (k : Nat → List am_V → List am_V → am_M → am_R) (x1 : Int32) (y0 : Int32) (M : am_M) : gX9_step k 32 [.inr (9, 0), .inl (.int x1)] [.inl (.int y0)] M =
  if y0 = (-1) then
   some (.inl (some (.inl (.int y0))), (am_put M 9 0 12 ((M 9 0 12) + 1)))
  else some (.inl (some (.inl (.int y0))), M) := (rfl)
theorem eX9_step_32 {n : Nat} {x1 : Int32} {y0 : Int32} {M : am_M} {res : am_O × am_M} (h : (if y0 = (-1) then
   some (.inl (some (.inl (.int y0))), (am_put M 9 0 12 ((M 9 0 12) + 1)))
  else some (.inl (some (.inl (.int y0))), M)) = some res) : rX9_step (n + 100) 32 [.inr (9, 0), .inl (.int x1)] [.inl (.int y0)] M = some res := uX9_step ((gX9_step_32 (rX9_step n) x1 y0 M).trans h)
def rX9_idle (n pc : Nat) (ls st : List am_V) (M : am_M) : am_R := am_run [] [] 1 am_X0 pX9_idle n pc ls st M
def gX9_idle (k : Nat → List am_V → List am_V → am_M → am_R) (pc : Nat) (ls st : List am_V) (M : am_M) : am_R := am_go [] [] 1 am_X0 pX9_idle [] k 100 pc ls st M
theorem uX9_idle {n pc : Nat} {ls st : List am_V} {M : am_M} {res : am_O × am_M} (h : gX9_idle (rX9_idle n) pc ls st M = some res) : rX9_idle (n + 100) pc ls st M = some res := am_go_ok h
theorem eX9_idle (M : am_M) : fX9_idle [.inr (9, 0)] M = rX9_idle 100000 0 [.inr (9, 0)] [] M := am_meth_eq rfl rfl
set_option maxRecDepth 20000 in
theorem gX9_idle_0 (k : Nat → List am_V → List am_V → am_M → am_R) (M : am_M) : gX9_idle k 0 [.inr (9, 0)] [] M =
  some (.inl (some (.inl (.int (M 9 0 12)))), M) := (rfl)
theorem eX9_idle_0 {n : Nat} {M : am_M} {res : am_O × am_M} (h : (some (.inl (some (.inl (.int (M 9 0 12)))), M)) = some res) : rX9_idle (n + 100) 0 [.inr (9, 0)] [] M = some res := uX9_idle ((gX9_idle_0 (rX9_idle n) M).trans h)
def rX9_state (n pc : Nat) (ls st : List am_V) (M : am_M) : am_R := am_run [fX9_isWithin, fX9_demandArgument, fX9_cuvetteOf] [] 1 am_X0 pX9_state n pc ls st M
def gX9_state (k : Nat → List am_V → List am_V → am_M → am_R) (pc : Nat) (ls st : List am_V) (M : am_M) : am_R := am_go [fX9_isWithin, fX9_demandArgument, fX9_cuvetteOf] [] 1 am_X0 pX9_state [11, 21, 32, 44] k 100 pc ls st M
theorem uX9_state {n pc : Nat} {ls st : List am_V} {M : am_M} {res : am_O × am_M} (h : gX9_state (rX9_state n) pc ls st M = some res) : rX9_state (n + 100) pc ls st M = some res := am_go_ok h
theorem eX9_state (x1 : Int32) (x2 : Int32) (M : am_M) : fX9_state [.inr (9, 0), .inl (.int x1), .inl (.int x2)] M = rX9_state 100000 0 [.inr (9, 0), .inl (.int x1), .inl (.int x2), am_D, am_D] [] M := am_meth_eq rfl rfl
set_option maxRecDepth 20000 in
theorem gX9_state_0 (k : Nat → List am_V → List am_V → am_M → am_R) (x1 : Int32) (x2 : Int32) (M : am_M) : gX9_state k 0 [.inr (9, 0), .inl (.int x1), .inl (.int x2), am_D, am_D] [] M =
  am_ret [] 8 [] (k 11 [.inr (9, 0), .inl (.int x1), .inl (.int x2), am_D, am_D]) (fX9_isWithin [.inl (.int x1), .inl (.int 0), .inl (.int ((M 9 0 7) - 1))] M) := (rfl)
theorem eX9_state_0 {n : Nat} {x1 : Int32} {x2 : Int32} {M : am_M} {res : am_O × am_M} (h : (am_ret [] 8 [] (rX9_state n 11 [.inr (9, 0), .inl (.int x1), .inl (.int x2), am_D, am_D]) (fX9_isWithin [.inl (.int x1), .inl (.int 0), .inl (.int ((M 9 0 7) - 1))] M)) = some res) : rX9_state (n + 100) 0 [.inr (9, 0), .inl (.int x1), .inl (.int x2), am_D, am_D] [] M = some res := uX9_state ((gX9_state_0 (rX9_state n) x1 x2 M).trans h)
set_option maxRecDepth 20000 in
theorem gX9_state_11 (k : Nat → List am_V → List am_V → am_M → am_R) (x1 : Int32) (x2 : Int32) (y0 : Int32) (M : am_M) : gX9_state k 11 [.inr (9, 0), .inl (.int x1), .inl (.int x2), am_D, am_D] [.inl (.int y0)] M =
  if y0 = 0 then
   am_ret [] 29 [] (k 32 [.inr (9, 0), .inl (.int x1), .inl (.int x2), am_D, am_D]) (fX9_demandArgument [.inl (.int 0)] M)
  else am_ret [] 18 [] (k 21 [.inr (9, 0), .inl (.int x1), .inl (.int x2), am_D, am_D]) (fX9_isWithin [.inl (.int x2), .inl (.int 0), .inl (.int 6)] M) := (rfl)
theorem eX9_state_11 {n : Nat} {x1 : Int32} {x2 : Int32} {y0 : Int32} {M : am_M} {res : am_O × am_M} (h : (if y0 = 0 then
   am_ret [] 29 [] (rX9_state n 32 [.inr (9, 0), .inl (.int x1), .inl (.int x2), am_D, am_D]) (fX9_demandArgument [.inl (.int 0)] M)
  else am_ret [] 18 [] (rX9_state n 21 [.inr (9, 0), .inl (.int x1), .inl (.int x2), am_D, am_D]) (fX9_isWithin [.inl (.int x2), .inl (.int 0), .inl (.int 6)] M)) = some res) : rX9_state (n + 100) 11 [.inr (9, 0), .inl (.int x1), .inl (.int x2), am_D, am_D] [.inl (.int y0)] M = some res := uX9_state ((gX9_state_11 (rX9_state n) x1 x2 y0 M).trans h)
set_option maxRecDepth 20000 in
theorem gX9_state_32 (k : Nat → List am_V → List am_V → am_M → am_R) (x1 : Int32) (x2 : Int32) (M : am_M) : gX9_state k 32 [.inr (9, 0), .inl (.int x1), .inl (.int x2), am_D, am_D] [] M =
  if am_in x1 40 then
   am_ret [] 41 [] (k 44 [.inr (9, 0), .inl (.int x1), .inl (.int x2), .inr (4, (Int32.toNatClampNeg x1)), am_D]) (fX9_cuvetteOf [.inr (9, 0), .inr (4, (Int32.toNatClampNeg x1))] M)
  else none := (rfl)
theorem eX9_state_32 {n : Nat} {x1 : Int32} {x2 : Int32} {M : am_M} {res : am_O × am_M} (h : (if am_in x1 40 then
   am_ret [] 41 [] (rX9_state n 44 [.inr (9, 0), .inl (.int x1), .inl (.int x2), .inr (4, (Int32.toNatClampNeg x1)), am_D]) (fX9_cuvetteOf [.inr (9, 0), .inr (4, (Int32.toNatClampNeg x1))] M)
  else none) = some res) : rX9_state (n + 100) 32 [.inr (9, 0), .inl (.int x1), .inl (.int x2), am_D, am_D] [] M = some res := uX9_state ((gX9_state_32 (rX9_state n) x1 x2 M).trans h)
set_option maxRecDepth 20000 in
theorem gX9_state_21 (k : Nat → List am_V → List am_V → am_M → am_R) (x1 : Int32) (x2 : Int32) (y0 : Int32) (M : am_M) : gX9_state k 21 [.inr (9, 0), .inl (.int x1), .inl (.int x2), am_D, am_D] [.inl (.int y0)] M =
  if y0 = 0 then
   am_ret [] 29 [] (k 32 [.inr (9, 0), .inl (.int x1), .inl (.int x2), am_D, am_D]) (fX9_demandArgument [.inl (.int 0)] M)
  else am_ret [] 29 [] (k 32 [.inr (9, 0), .inl (.int x1), .inl (.int x2), am_D, am_D]) (fX9_demandArgument [.inl (.int 1)] M) := (rfl)
theorem eX9_state_21 {n : Nat} {x1 : Int32} {x2 : Int32} {y0 : Int32} {M : am_M} {res : am_O × am_M} (h : (if y0 = 0 then
   am_ret [] 29 [] (rX9_state n 32 [.inr (9, 0), .inl (.int x1), .inl (.int x2), am_D, am_D]) (fX9_demandArgument [.inl (.int 0)] M)
  else am_ret [] 29 [] (rX9_state n 32 [.inr (9, 0), .inl (.int x1), .inl (.int x2), am_D, am_D]) (fX9_demandArgument [.inl (.int 1)] M)) = some res) : rX9_state (n + 100) 21 [.inr (9, 0), .inl (.int x1), .inl (.int x2), am_D, am_D] [.inl (.int y0)] M = some res := uX9_state ((gX9_state_21 (rX9_state n) x1 x2 y0 M).trans h)
set_option maxRecDepth 20000 in
theorem gX9_state_44 (k : Nat → List am_V → List am_V → am_M → am_R) (x1 : Int32) (x2 : Int32) (x3 : Nat) (y0 : Nat) (M : am_M) : gX9_state k 44 [.inr (9, 0), .inl (.int x1), .inl (.int x2), .inr (4, x3), am_D] [.inr (1, y0)] M =
  if x2 = 0 then
   some (.inl (some (.inl (.int (M 4 x3 3)))), M)
  else if x2 = 1 then
   some (.inl (some (.inl (.int (M 4 x3 4)))), M)
  else if x2 = 2 then
   some (.inl (some (.inl (.int (M 4 x3 5)))), M)
  else if x2 = 3 then
   some (.inl (some (.inl (.int (M 4 x3 7)))), M)
  else if x2 = 4 then
   some (.inl (some (.inl (.int (M 1 y0 7)))), M)
  else if x2 = 5 then
   some (.inl (some (.inl (.int (M 4 x3 8)))), M)
  else some (.inl (some (.inl (.int (M 4 x3 9)))), M) := (rfl)
theorem eX9_state_44 {n : Nat} {x1 : Int32} {x2 : Int32} {x3 : Nat} {y0 : Nat} {M : am_M} {res : am_O × am_M} (h : (if x2 = 0 then
   some (.inl (some (.inl (.int (M 4 x3 3)))), M)
  else if x2 = 1 then
   some (.inl (some (.inl (.int (M 4 x3 4)))), M)
  else if x2 = 2 then
   some (.inl (some (.inl (.int (M 4 x3 5)))), M)
  else if x2 = 3 then
   some (.inl (some (.inl (.int (M 4 x3 7)))), M)
  else if x2 = 4 then
   some (.inl (some (.inl (.int (M 1 y0 7)))), M)
  else if x2 = 5 then
   some (.inl (some (.inl (.int (M 4 x3 8)))), M)
  else some (.inl (some (.inl (.int (M 4 x3 9)))), M)) = some res) : rX9_state (n + 100) 44 [.inr (9, 0), .inl (.int x1), .inl (.int x2), .inr (4, x3), am_D] [.inr (1, y0)] M = some res := uX9_state ((gX9_state_44 (rX9_state n) x1 x2 x3 y0 M).trans h)
set_option maxRecDepth 20000 in
theorem gX9_state_44a (k : Nat → List am_V → List am_V → am_M → am_R) (x1 : Int32) (x2 : Int32) (x3 : Nat) (M : am_M) : gX9_state k 44 [.inr (9, 0), .inl (.int x1), .inl (.int x2), .inr (4, x3), am_D] [.inl .null] M =
  if x2 = 0 then
   some (.inl (some (.inl (.int (M 4 x3 3)))), M)
  else if x2 = 1 then
   some (.inl (some (.inl (.int (M 4 x3 4)))), M)
  else if x2 = 2 then
   some (.inl (some (.inl (.int (M 4 x3 5)))), M)
  else if x2 = 3 then
   some (.inl (some (.inl (.int (M 4 x3 7)))), M)
  else if x2 = 4 then
   some (.inl (some (.inl (.int (-1)))), M)
  else if x2 = 5 then
   some (.inl (some (.inl (.int (M 4 x3 8)))), M)
  else some (.inl (some (.inl (.int (M 4 x3 9)))), M) := (rfl)
theorem eX9_state_44a {n : Nat} {x1 : Int32} {x2 : Int32} {x3 : Nat} {M : am_M} {res : am_O × am_M} (h : (if x2 = 0 then
   some (.inl (some (.inl (.int (M 4 x3 3)))), M)
  else if x2 = 1 then
   some (.inl (some (.inl (.int (M 4 x3 4)))), M)
  else if x2 = 2 then
   some (.inl (some (.inl (.int (M 4 x3 5)))), M)
  else if x2 = 3 then
   some (.inl (some (.inl (.int (M 4 x3 7)))), M)
  else if x2 = 4 then
   some (.inl (some (.inl (.int (-1)))), M)
  else if x2 = 5 then
   some (.inl (some (.inl (.int (M 4 x3 8)))), M)
  else some (.inl (some (.inl (.int (M 4 x3 9)))), M)) = some res) : rX9_state (n + 100) 44 [.inr (9, 0), .inl (.int x1), .inl (.int x2), .inr (4, x3), am_D] [.inl .null] M = some res := uX9_state ((gX9_state_44a (rX9_state n) x1 x2 x3 M).trans h)
