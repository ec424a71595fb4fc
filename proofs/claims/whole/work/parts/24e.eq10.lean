/-! ===== the runs, piece by piece ===== -/
def rX9_cuvetteOf (n pc : Nat) (ls st : List am_V) (M : am_M) : am_R := am_run [fX9_isWithin] [] 4 am_X0 pX9_cuvetteOf n pc ls st M
def gX9_cuvetteOf (k : Nat → List am_V → List am_V → am_M → am_R) (pc : Nat) (ls st : List am_V) (M : am_M) : am_R := am_go [fX9_isWithin] [] 4 am_X0 pX9_cuvetteOf [10] k 100 pc ls st M
theorem uX9_cuvetteOf {n pc : Nat} {ls st : List am_V} {M : am_M} {res : am_O × am_M} (h : gX9_cuvetteOf (rX9_cuvetteOf n) pc ls st M = some res) : rX9_cuvetteOf (n + 100) pc ls st M = some res := am_go_ok h
theorem eX9_cuvetteOf (x1 : Nat) (M : am_M) : fX9_cuvetteOf [.inr (9, 0), .inr (4, x1)] M = rX9_cuvetteOf 100000 0 [.inr (9, 0), .inr (4, x1)] [] M := am_meth_eq rfl rfl
set_option maxRecDepth 20000 in
theorem gX9_cuvetteOf_0 (k : Nat → List am_V → List am_V → am_M → am_R) (x1 : Nat) (M : am_M) : gX9_cuvetteOf k 0 [.inr (9, 0), .inr (4, x1)] [] M =
  am_ret [] 7 [] (k 10 [.inr (9, 0), .inr (4, x1)]) (fX9_isWithin [.inl (.int (M 4 x1 7)), .inl (.int 0), .inl (.int 9)] M) := (rfl)
theorem eX9_cuvetteOf_0 {n : Nat} {x1 : Nat} {M : am_M} {res : am_O × am_M} (h : (am_ret [] 7 [] (rX9_cuvetteOf n 10 [.inr (9, 0), .inr (4, x1)]) (fX9_isWithin [.inl (.int (M 4 x1 7)), .inl (.int 0), .inl (.int 9)] M)) = some res) : rX9_cuvetteOf (n + 100) 0 [.inr (9, 0), .inr (4, x1)] [] M = some res := uX9_cuvetteOf ((gX9_cuvetteOf_0 (rX9_cuvetteOf n) x1 M).trans h)
set_option maxRecDepth 20000 in
theorem gX9_cuvetteOf_10 (k : Nat → List am_V → List am_V → am_M → am_R) (x1 : Nat) (y0 : Int32) (M : am_M) : gX9_cuvetteOf k 10 [.inr (9, 0), .inr (4, x1)] [.inl (.int y0)] M =
  if y0 = 0 then
   some (.inl (some (.inl .null)), M)
  else if am_in (M 4 x1 7) 10 then
   some (.inl (some (.inr (1, (Int32.toNatClampNeg (M 4 x1 7))))), M)
  else none := (rfl)
theorem eX9_cuvetteOf_10 {n : Nat} {x1 : Nat} {y0 : Int32} {M : am_M} {res : am_O × am_M} (h : (if y0 = 0 then
   some (.inl (some (.inl .null)), M)
  else if am_in (M 4 x1 7) 10 then
   some (.inl (some (.inr (1, (Int32.toNatClampNeg (M 4 x1 7))))), M)
  else none) = some res) : rX9_cuvetteOf (n + 100) 10 [.inr (9, 0), .inr (4, x1)] [.inl (.int y0)] M = some res := uX9_cuvetteOf ((gX9_cuvetteOf_10 (rX9_cuvetteOf n) x1 y0 M).trans h)
def rX9_takeReadings (n pc : Nat) (ls st : List am_V) (M : am_M) : am_R := am_run [fX9_absorbanceOf, fX9_cuvetteOf, fX6_isReadAt, fX1_addReading] [] 0 am_X0 pX9_takeReadings n pc ls st M
def gX9_takeReadings (k : Nat → List am_V → List am_V → am_M → am_R) (pc : Nat) (ls st : List am_V) (M : am_M) : am_R := am_go [fX9_absorbanceOf, fX9_cuvetteOf, fX6_isReadAt, fX1_addReading] [] 0 am_X0 pX9_takeReadings [7, 10, 28, 54, 62] k 100 pc ls st M
theorem uX9_takeReadings {n pc : Nat} {ls st : List am_V} {M : am_M} {res : am_O × am_M} (h : gX9_takeReadings (rX9_takeReadings n) pc ls st M = some res) : rX9_takeReadings (n + 100) pc ls st M = some res := am_go_ok h
theorem eX9_takeReadings (M : am_M) : fX9_takeReadings [.inr (9, 0)] M = rX9_takeReadings 100000 0 [.inr (9, 0), am_D, am_D, am_D] [] M := am_meth_eq rfl rfl
set_option maxRecDepth 20000 in
theorem gX9_takeReadings_0 (k : Nat → List am_V → List am_V → am_M → am_R) (M : am_M) : gX9_takeReadings k 0 [.inr (9, 0), am_D, am_D, am_D] [] M =
  am_ret [] 4 [] (k 7 [.inr (9, 0), am_D, am_D, am_D]) (fX9_absorbanceOf [.inl (.int (M 9 0 9))] M) := (rfl)
theorem eX9_takeReadings_0 {n : Nat} {M : am_M} {res : am_O × am_M} (h : (am_ret [] 4 [] (rX9_takeReadings n 7 [.inr (9, 0), am_D, am_D, am_D]) (fX9_absorbanceOf [.inl (.int (M 9 0 9))] M)) = some res) : rX9_takeReadings (n + 100) 0 [.inr (9, 0), am_D, am_D, am_D] [] M = some res := uX9_takeReadings ((gX9_takeReadings_0 (rX9_takeReadings n) M).trans h)
set_option maxRecDepth 20000 in
theorem gX9_takeReadings_7 (k : Nat → List am_V → List am_V → am_M → am_R) (y0 : Int32) (M : am_M) : gX9_takeReadings k 7 [.inr (9, 0), am_D, am_D, am_D] [.inl (.int y0)] M =
  k 10 [.inr (9, 0), .inl (.int y0), .inl (.int 0), am_D] [] M := (rfl)
theorem eX9_takeReadings_7 {n : Nat} {y0 : Int32} {M : am_M} {res : am_O × am_M} (h : (rX9_takeReadings n 10 [.inr (9, 0), .inl (.int y0), .inl (.int 0), am_D] [] M) = some res) : rX9_takeReadings (n + 100) 7 [.inr (9, 0), am_D, am_D, am_D] [.inl (.int y0)] M = some res := uX9_takeReadings ((gX9_takeReadings_7 (rX9_takeReadings n) y0 M).trans h)
set_option maxRecDepth 20000 in
theorem gX9_takeReadings_10 (k : Nat → List am_V → List am_V → am_M → am_R) (x1 : Int32) (x2 : Int32) (M : am_M) : gX9_takeReadings k 10 [.inr (9, 0), .inl (.int x1), .inl (.int x2), am_D] [] M =
  if (M 9 0 7) ≤ x2 then
   some (.inl none, M)
  else if am_in x2 40 then
   am_ret [] 25 [] (k 28 [.inr (9, 0), .inl (.int x1), .inl (.int x2), am_D]) (fX9_cuvetteOf [.inr (9, 0), .inr (4, (Int32.toNatClampNeg x2))] M)
  else none := (rfl)
theorem eX9_takeReadings_10 {n : Nat} {x1 : Int32} {x2 : Int32} {M : am_M} {res : am_O × am_M} (h : (if (M 9 0 7) ≤ x2 then
   some (.inl none, M)
  else if am_in x2 40 then
   am_ret [] 25 [] (rX9_takeReadings n 28 [.inr (9, 0), .inl (.int x1), .inl (.int x2), am_D]) (fX9_cuvetteOf [.inr (9, 0), .inr (4, (Int32.toNatClampNeg x2))] M)
  else none) = some res) : rX9_takeReadings (n + 100) 10 [.inr (9, 0), .inl (.int x1), .inl (.int x2), am_D] [] M = some res := uX9_takeReadings ((gX9_takeReadings_10 (rX9_takeReadings n) x1 x2 M).trans h)
set_option maxRecDepth 20000 in
theorem gX9_takeReadings_28 (k : Nat → List am_V → List am_V → am_M → am_R) (x1 : Int32) (x2 : Int32) (y0 : Nat) (M : am_M) : gX9_takeReadings k 28 [.inr (9, 0), .inl (.int x1), .inl (.int x2), am_D] [.inr (1, y0)] M =
  if am_in x2 40 then
   if am_in (M 4 (Int32.toNatClampNeg x2) 1) 4 then
    am_ret [] 51 [] (k 54 [.inr (9, 0), .inl (.int x1), .inl (.int x2), .inr (1, y0)]) (fX6_isReadAt [.inr (6, (Int32.toNatClampNeg (M 4 (Int32.toNatClampNeg x2) 1))), .inl (.int (M 1 y0 7))] M)
   else none
  else none := (rfl)
theorem eX9_takeReadings_28 {n : Nat} {x1 : Int32} {x2 : Int32} {y0 : Nat} {M : am_M} {res : am_O × am_M} (h : (if am_in x2 40 then
   if am_in (M 4 (Int32.toNatClampNeg x2) 1) 4 then
    am_ret [] 51 [] (rX9_takeReadings n 54 [.inr (9, 0), .inl (.int x1), .inl (.int x2), .inr (1, y0)]) (fX6_isReadAt [.inr (6, (Int32.toNatClampNeg (M 4 (Int32.toNatClampNeg x2) 1))), .inl (.int (M 1 y0 7))] M)
   else none
  else none) = some res) : rX9_takeReadings (n + 100) 28 [.inr (9, 0), .inl (.int x1), .inl (.int x2), am_D] [.inr (1, y0)] M = some res := uX9_takeReadings ((gX9_takeReadings_28 (rX9_takeReadings n) x1 x2 y0 M).trans h)
set_option maxRecDepth 20000 in
theorem gX9_takeReadings_28a (k : Nat → List am_V → List am_V → am_M → am_R) (x1 : Int32) (x2 : Int32) (M : am_M) : gX9_takeReadings k 28 [.inr (9, 0), .inl (.int x1), .inl (.int x2), am_D] [.inl .null] M =
  k 10 [.inr (9, 0), .inl (.int x1), .inl (.int (x2 + 1)), .inl .null] [] M := (rfl)
theorem eX9_takeReadings_28a {n : Nat} {x1 : Int32} {x2 : Int32} {M : am_M} {res : am_O × am_M} (h : (rX9_takeReadings n 10 [.inr (9, 0), .inl (.int x1), .inl (.int (x2 + 1)), .inl .null] [] M) = some res) : rX9_takeReadings (n + 100) 28 [.inr (9, 0), .inl (.int x1), .inl (.int x2), am_D] [.inl .null] M = some res := uX9_takeReadings ((gX9_takeReadings_28a (rX9_takeReadings n) x1 x2 M).trans h)
set_option maxRecDepth 20000 in
theorem gX9_takeReadings_54 (k : Nat → List am_V → List am_V → am_M → am_R) (x1 : Int32) (x2 : Int32) (x3 : Nat) (y0 : Int32) (M : am_M) : gX9_takeReadings k 54 [.inr (9, 0), .inl (.int x1), .inl (.int x2), .inr (1, x3)] [.inl (.int y0)] M =
  if y0 = 0 then
   k 10 [.inr (9, 0), .inl (.int x1), .inl (.int (x2 + 1)), .inr (1, x3)] [] M
  else am_ret [] 59 [] (k 62 [.inr (9, 0), .inl (.int x1), .inl (.int x2), .inr (1, x3)]) (fX1_addReading [.inr (1, x3), .inl (.int x1)] M) := (rfl)
theorem eX9_takeReadings_54 {n : Nat} {x1 : Int32} {x2 : Int32} {x3 : Nat} {y0 : Int32} {M : am_M} {res : am_O × am_M} (h : (if y0 = 0 then
   rX9_takeReadings n 10 [.inr (9, 0), .inl (.int x1), .inl (.int (x2 + 1)), .inr (1, x3)] [] M
  else am_ret [] 59 [] (rX9_takeReadings n 62 [.inr (9, 0), .inl (.int x1), .inl (.int x2), .inr (1, x3)]) (fX1_addReading [.inr (1, x3), .inl (.int x1)] M)) = some res) : rX9_takeReadings (n + 100) 54 [.inr (9, 0), .inl (.int x1), .inl (.int x2), .inr (1, x3)] [.inl (.int y0)] M = some res := uX9_takeReadings ((gX9_takeReadings_54 (rX9_takeReadings n) x1 x2 x3 y0 M).trans h)
set_option maxRecDepth 20000 in
theorem gX9_takeReadings_10a (k : Nat → List am_V → List am_V → am_M → am_R) (x1 : Int32) (x2 : Int32) (M : am_M) : gX9_takeReadings k 10 [.inr (9, 0), .inl (.int x1), .inl (.int x2), .inl .null] [] M =
  if (M 9 0 7) ≤ x2 then
   some (.inl none, M)
  else if am_in x2 40 then
   am_ret [] 25 [] (k 28 [.inr (9, 0), .inl (.int x1), .inl (.int x2), .inl .null]) (fX9_cuvetteOf [.inr (9, 0), .inr (4, (Int32.toNatClampNeg x2))] M)
  else none := (rfl)
theorem eX9_takeReadings_10a {n : Nat} {x1 : Int32} {x2 : Int32} {M : am_M} {res : am_O × am_M} (h : (if (M 9 0 7) ≤ x2 then
   some (.inl none, M)
  else if am_in x2 40 then
   am_ret [] 25 [] (rX9_takeReadings n 28 [.inr (9, 0), .inl (.int x1), .inl (.int x2), .inl .null]) (fX9_cuvetteOf [.inr (9, 0), .inr (4, (Int32.toNatClampNeg x2))] M)
  else none) = some res) : rX9_takeReadings (n + 100) 10 [.inr (9, 0), .inl (.int x1), .inl (.int x2), .inl .null] [] M = some res := uX9_takeReadings ((gX9_takeReadings_10a (rX9_takeReadings n) x1 x2 M).trans h)
set_option maxRecDepth 20000 in
theorem gX9_takeReadings_10b (k : Nat → List am_V → List am_V → am_M → am_R) (x1 : Int32) (x2 : Int32) (x3 : Nat) (M : am_M) : gX9_takeReadings k 10 [.inr (9, 0), .inl (.int x1), .inl (.int x2), .inr (1, x3)] [] M =
  if (M 9 0 7) ≤ x2 then
   some (.inl none, M)
  else if am_in x2 40 then
   am_ret [] 25 [] (k 28 [.inr (9, 0), .inl (.int x1), .inl (.int x2), .inr (1, x3)]) (fX9_cuvetteOf [.inr (9, 0), .inr (4, (Int32.toNatClampNeg x2))] M)
  else none := (rfl)
theorem eX9_takeReadings_10b {n : Nat} {x1 : Int32} {x2 : Int32} {x3 : Nat} {M : am_M} {res : am_O × am_M} (h : (if (M 9 0 7) ≤ x2 then
   some (.inl none, M)
  else if am_in x2 40 then
   am_ret [] 25 [] (rX9_takeReadings n 28 [.inr (9, 0), .inl (.int x1), .inl (.int x2), .inr (1, x3)]) (fX9_cuvetteOf [.inr (9, 0), .inr (4, (Int32.toNatClampNeg x2))] M)
  else none) = some res) : rX9_takeReadings (n + 100) 10 [.inr (9, 0), .inl (.int x1), .inl (.int x2), .inr (1, x3)] [] M = some res := uX9_takeReadings ((gX9_takeReadings_10b (rX9_takeReadings n) x1 x2 x3 M).trans h)
set_option maxRecDepth 20000 in
theorem gX9_takeReadings_62 (k : Nat → List am_V → List am_V → am_M → am_R) (x1 : Int32) (x2 : Int32) (x3 : Nat) (M : am_M) : gX9_takeReadings k 62 [.inr (9, 0), .inl (.int x1), .inl (.int x2), .inr (1, x3)] [] M =
  k 10 [.inr (9, 0), .inl (.int x1), .inl (.int (x2 + 1)), .inr (1, x3)] [] M := (rfl)
theorem eX9_takeReadings_62 {n : Nat} {x1 : Int32} {x2 : Int32} {x3 : Nat} {M : am_M} {res : am_O × am_M} (h : (rX9_takeReadings n 10 [.inr (9, 0), .inl (.int x1), .inl (.int (x2 + 1)), .inr (1, x3)] [] M) = some res) : rX9_takeReadings (n + 100) 62 [.inr (9, 0), .inl (.int x1), .inl (.int x2), .inr (1, x3)] [] M = some res := uX9_takeReadings ((gX9_takeReadings_62 (rX9_takeReadings n) x1 x2 x3 M).trans h)
set_option maxRecDepth 20000 in
theorem gX9_takeReadings_28b (k : Nat → List am_V → List am_V → am_M → am_R) (x1 : Int32) (x2 : Int32) (y0 : Nat) (M : am_M) : gX9_takeReadings k 28 [.inr (9, 0), .inl (.int x1), .inl (.int x2), .inl .null] [.inr (1, y0)] M =
  if am_in x2 40 then
   if am_in (M 4 (Int32.toNatClampNeg x2) 1) 4 then
    am_ret [] 51 [] (k 54 [.inr (9, 0), .inl (.int x1), .inl (.int x2), .inr (1, y0)]) (fX6_isReadAt [.inr (6, (Int32.toNatClampNeg (M 4 (Int32.toNatClampNeg x2) 1))), .inl (.int (M 1 y0 7))] M)
   else none
  else none := (rfl)
theorem eX9_takeReadings_28b {n : Nat} {x1 : Int32} {x2 : Int32} {y0 : Nat} {M : am_M} {res : am_O × am_M} (h : (if am_in x2 40 then
   if am_in (M 4 (Int32.toNatClampNeg x2) 1) 4 then
    am_ret [] 51 [] (rX9_takeReadings n 54 [.inr (9, 0), .inl (.int x1), .inl (.int x2), .inr (1, y0)]) (fX6_isReadAt [.inr (6, (Int32.toNatClampNeg (M 4 (Int32.toNatClampNeg x2) 1))), .inl (.int (M 1 y0 7))] M)
   else none
  else none) = some res) : rX9_takeReadings (n + 100) 28 [.inr (9, 0), .inl (.int x1), .inl (.int x2), .inl .null] [.inr (1, y0)] M = some res := uX9_takeReadings ((gX9_takeReadings_28b (rX9_takeReadings n) x1 x2 y0 M).trans h)
set_option maxRecDepth 20000 in
theorem gX9_takeReadings_28c (k : Nat → List am_V → List am_V → am_M → am_R) (x1 : Int32) (x2 : Int32) (M : am_M) : gX9_takeReadings k 28 [.inr (9, 0), .inl (.int x1), .inl (.int x2), .inl .null] [.inl .null] M =
  k 10 [.inr (9, 0), .inl (.int x1), .inl (.int (x2 + 1)), .inl .null] [] M := (rfl)
theorem eX9_takeReadings_28c {n : Nat} {x1 : Int32} {x2 : Int32} {M : am_M} {res : am_O × am_M} (h : (rX9_takeReadings n 10 [.inr (9, 0), .inl (.int x1), .inl (.int (x2 + 1)), .inl .null] [] M) = some res) : rX9_takeReadings (n + 100) 28 [.inr (9, 0), .inl (.int x1), .inl (.int x2), .inl .null] [.inl .null] M = some res := uX9_takeReadings ((gX9_takeReadings_28c (rX9_takeReadings n) x1 x2 M).trans h)
set_option maxRecDepth 20000 in
theorem gX9_takeReadings_28d (k : Nat → List am_V → List am_V → am_M → am_R) (x1 : Int32) (x2 : Int32) (x3 : Nat) (y0 : Nat) (M : am_M) : gX9_takeReadings k 28 [.inr (9, 0), .inl (.int x1), .inl (.int x2), .inr (1, x3)] [.inr (1, y0)] M =
  if am_in x2 40 then
   if am_in (M 4 (Int32.toNatClampNeg x2) 1) 4 then
    am_ret [] 51 [] (k 54 [.inr (9, 0), .inl (.int x1), .inl (.int x2), .inr (1, y0)]) (fX6_isReadAt [.inr (6, (Int32.toNatClampNeg (M 4 (Int32.toNatClampNeg x2) 1))), .inl (.int (M 1 y0 7))] M)
   else none
  else none := (rfl)
theorem eX9_takeReadings_28d {n : Nat} {x1 : Int32} {x2 : Int32} {x3 : Nat} {y0 : Nat} {M : am_M} {res : am_O × am_M} (h : (if am_in x2 40 then
   if am_in (M 4 (Int32.toNatClampNeg x2) 1) 4 then
    am_ret [] 51 [] (rX9_takeReadings n 54 [.inr (9, 0), .inl (.int x1), .inl (.int x2), .inr (1, y0)]) (fX6_isReadAt [.inr (6, (Int32.toNatClampNeg (M 4 (Int32.toNatClampNeg x2) 1))), .inl (.int (M 1 y0 7))] M)
   else none
  else none) = some res) : rX9_takeReadings (n + 100) 28 [.inr (9, 0), .inl (.int x1), .inl (.int x2), .inr (1, x3)] [.inr (1, y0)] M = some res := uX9_takeReadings ((gX9_takeReadings_28d (rX9_takeReadings n) x1 x2 x3 y0 M).trans h)
set_option maxRecDepth 20000 in
theorem gX9_takeReadings_28e (k : Nat → List am_V → List am_V → am_M → am_R) (x1 : Int32) (x2 : Int32) (x3 : Nat) (M : am_M) : gX9_takeReadings k 28 [.inr (9, 0), .inl (.int x1), .inl (.int x2), .inr (1, x3)] [.inl .null] M =
  k 10 [.inr (9, 0), .inl (.int x1), .inl (.int (x2 + 1)), .inl .null] [] M := (rfl)
theorem eX9_takeReadings_28e {n : Nat} {x1 : Int32} {x2 : Int32} {x3 : Nat} {M : am_M} {res : am_O × am_M} (h : (rX9_takeReadings n 10 [.inr (9, 0), .inl (.int x1), .inl (.int (x2 + 1)), .inl .null] [] M) = some res) : rX9_takeReadings (n + 100) 28 [.inr (9, 0), .inl (.int x1), .inl (.int x2), .inr (1, x3)] [.inl .null] M = some res := uX9_takeReadings ((gX9_takeReadings_28e (rX9_takeReadings n) x1 x2 x3 M).trans h)
def rJ9_min_f86c9 (n pc : Nat) (ls st : List am_V) (M : am_M) : am_R := am_run [] [] 3 am_X0 pJ9_min_f86c9 n pc ls st M
def gJ9_min_f86c9 (k : Nat → List am_V → List am_V → am_M → am_R) (pc : Nat) (ls st : List am_V) (M : am_M) : am_R := am_go [] [] 3 am_X0 pJ9_min_f86c9 [] k 100 pc ls st M
theorem uJ9_min_f86c9 {n pc : Nat} {ls st : List am_V} {M : am_M} {res : am_O × am_M} (h : gJ9_min_f86c9 (rJ9_min_f86c9 n) pc ls st M = some res) : rJ9_min_f86c9 (n + 100) pc ls st M = some res := am_go_ok h
theorem eJ9_min_f86c9 (x0 : Int64) (x1 : Int64) (M : am_M) : fJ9_min_f86c9 [.inl (.long x0), .inl (.long x1)] M = rJ9_min_f86c9 100000 0 [.inl (.long x0), am_D, .inl (.long x1), am_D] [] M := am_meth_eq rfl rfl
set_option maxRecDepth 20000 in
theorem gJ9_min_f86c9_0 (k : Nat → List am_V → List am_V → am_M → am_R) (x0 : Int64) (x2 : Int64) (M : am_M) : gJ9_min_f86c9 k 0 [.inl (.long x0), am_D, .inl (.long x2), am_D] [] M =
  if 0 < (lg_cmp x0 x2) then
   some (.inl (some (.inl (.long x2))), M)
  else some (.inl (some (.inl (.long x0))), M) := (rfl)
theorem eJ9_min_f86c9_0 {n : Nat} {x0 : Int64} {x2 : Int64} {M : am_M} {res : am_O × am_M} (h : (if 0 < (lg_cmp x0 x2) then
   some (.inl (some (.inl (.long x2))), M)
  else some (.inl (some (.inl (.long x0))), M)) = some res) : rJ9_min_f86c9 (n + 100) 0 [.inl (.long x0), am_D, .inl (.long x2), am_D] [] M = some res := uJ9_min_f86c9 ((gJ9_min_f86c9_0 (rJ9_min_f86c9 n) x0 x2 M).trans h)
def rJ9_max_f86c9 (n pc : Nat) (ls st : List am_V) (M : am_M) : am_R := am_run [] [] 3 am_X0 pJ9_max_f86c9 n pc ls st M
def gJ9_max_f86c9 (k : Nat → List am_V → List am_V → am_M → am_R) (pc : Nat) (ls st : List am_V) (M : am_M) : am_R := am_go [] [] 3 am_X0 pJ9_max_f86c9 [] k 100 pc ls st M
theorem uJ9_max_f86c9 {n pc : Nat} {ls st : List am_V} {M : am_M} {res : am_O × am_M} (h : gJ9_max_f86c9 (rJ9_max_f86c9 n) pc ls st M = some res) : rJ9_max_f86c9 (n + 100) pc ls st M = some res := am_go_ok h
theorem eJ9_max_f86c9 (x0 : Int64) (x1 : Int64) (M : am_M) : fJ9_max_f86c9 [.inl (.long x0), .inl (.long x1)] M = rJ9_max_f86c9 100000 0 [.inl (.long x0), am_D, .inl (.long x1), am_D] [] M := am_meth_eq rfl rfl
set_option maxRecDepth 20000 in
theorem gJ9_max_f86c9_0 (k : Nat → List am_V → List am_V → am_M → am_R) (x0 : Int64) (x2 : Int64) (M : am_M) : gJ9_max_f86c9 k 0 [.inl (.long x0), am_D, .inl (.long x2), am_D] [] M =
  if (lg_cmp x0 x2) < 0 then
   some (.inl (some (.inl (.long x2))), M)
  else some (.inl (some (.inl (.long x0))), M) := (rfl)
theorem eJ9_max_f86c9_0 {n : Nat} {x0 : Int64} {x2 : Int64} {M : am_M} {res : am_O × am_M} (h : (if (lg_cmp x0 x2) < 0 then
   some (.inl (some (.inl (.long x2))), M)
  else some (.inl (some (.inl (.long x0))), M)) = some res) : rJ9_max_f86c9 (n + 100) 0 [.inl (.long x0), am_D, .inl (.long x2), am_D] [] M = some res := uJ9_max_f86c9 ((gJ9_max_f86c9_0 (rJ9_max_f86c9 n) x0 x2 M).trans h)
def rX9_limited (n pc : Nat) (ls st : List am_V) (M : am_M) : am_R := am_run [fJ9_min_f86c9, fJ9_max_f86c9] [] 1 am_X0 pX9_limited n pc ls st M
def gX9_limited (k : Nat → List am_V → List am_V → am_M → am_R) (pc : Nat) (ls st : List am_V) (M : am_M) : am_R := am_go [fJ9_min_f86c9, fJ9_max_f86c9] [] 1 am_X0 pX9_limited [10, 13] k 100 pc ls st M
theorem uX9_limited {n pc : Nat} {ls st : List am_V} {M : am_M} {res : am_O × am_M} (h : gX9_limited (rX9_limited n) pc ls st M = some res) : rX9_limited (n + 100) pc ls st M = some res := am_go_ok h
theorem eX9_limited (x0 : Int64) (M : am_M) : fX9_limited [.inl (.long x0)] M = rX9_limited 100000 0 [.inl (.long x0), am_D] [] M := am_meth_eq rfl rfl
set_option maxRecDepth 20000 in
theorem gX9_limited_0 (k : Nat → List am_V → List am_V → am_M → am_R) (x0 : Int64) (M : am_M) : gX9_limited k 0 [.inl (.long x0), am_D] [] M =
  am_ret [] 7 [.inl (.long (-1000000000))] (k 10 [.inl (.long x0), am_D]) (fJ9_min_f86c9 [.inl (.long 1000000000), .inl (.long x0)] M) := (rfl)
theorem eX9_limited_0 {n : Nat} {x0 : Int64} {M : am_M} {res : am_O × am_M} (h : (am_ret [] 7 [.inl (.long (-1000000000))] (rX9_limited n 10 [.inl (.long x0), am_D]) (fJ9_min_f86c9 [.inl (.long 1000000000), .inl (.long x0)] M)) = some res) : rX9_limited (n + 100) 0 [.inl (.long x0), am_D] [] M = some res := uX9_limited ((gX9_limited_0 (rX9_limited n) x0 M).trans h)
set_option maxRecDepth 20000 in
theorem gX9_limited_10 (k : Nat → List am_V → List am_V → am_M → am_R) (x0 : Int64) (y0 : Int64) (y1 : Int64) (M : am_M) : gX9_limited k 10 [.inl (.long x0), am_D] [.inl (.long y0), .inl (.long y1)] M =
  am_ret [] 10 [] (k 13 [.inl (.long x0), am_D]) (fJ9_max_f86c9 [.inl (.long y1), .inl (.long y0)] M) := (rfl)
theorem eX9_limited_10 {n : Nat} {x0 : Int64} {y0 : Int64} {y1 : Int64} {M : am_M} {res : am_O × am_M} (h : (am_ret [] 10 [] (rX9_limited n 13 [.inl (.long x0), am_D]) (fJ9_max_f86c9 [.inl (.long y1), .inl (.long y0)] M)) = some res) : rX9_limited (n + 100) 10 [.inl (.long x0), am_D] [.inl (.long y0), .inl (.long y1)] M = some res := uX9_limited ((gX9_limited_10 (rX9_limited n) x0 y0 y1 M).trans h)
set_option maxRecDepth 20000 in
theorem gX9_limited_13 (k : Nat → List am_V → List am_V → am_M → am_R) (x0 : Int64) (y0 : Int64) (M : am_M) : gX9_limited k 13 [.inl (.long x0), am_D] [.inl (.long y0)] M =
  some (.inl (some (.inl (.int (Int64.toInt32 y0)))), M) := (rfl)
theorem eX9_limited_13 {n : Nat} {x0 : Int64} {y0 : Int64} {M : am_M} {res : am_O × am_M} (h : (some (.inl (some (.inl (.int (Int64.toInt32 y0)))), M)) = some res) : rX9_limited (n + 100) 13 [.inl (.long x0), am_D] [.inl (.long y0)] M = some res := uX9_limited ((gX9_limited_13 (rX9_limited n) x0 y0 M).trans h)
def rX9_judge (n pc : Nat) (ls st : List am_V) (M : am_M) : am_R := am_run [fX6_formulaOf, fX6_valueAt, fX9_limited, fX6_limitFlags, fX4_runFlags, fX1_sendToWash, fX6_asksAgain, fX6_dilutes, fX4_waitAgain, fX4_release, fX3_append, fX2_append] [] 0 am_X0 pX9_judge n pc ls st M
def gX9_judge (k : Nat → List am_V → List am_V → am_M → am_R) (pc : Nat) (ls st : List am_V) (M : am_M) : am_R := am_go [fX6_formulaOf, fX6_valueAt, fX9_limited, fX6_limitFlags, fX4_runFlags, fX1_sendToWash, fX6_asksAgain, fX6_dilutes, fX4_waitAgain, fX4_release, fX3_append, fX2_append] [] 0 am_X0 pX9_judge [37, 50, 57, 66, 70, 112, 121, 124, 141, 156] k 100 pc ls st M
theorem uX9_judge {n pc : Nat} {ls st : List am_V} {M : am_M} {res : am_O × am_M} (h : gX9_judge (rX9_judge n) pc ls st M = some res) : rX9_judge (n + 100) pc ls st M = some res := am_go_ok h
theorem eX9_judge (x1 : Int32) (x2 : Nat) (M : am_M) : fX9_judge [.inr (9, 0), .inl (.int x1), .inr (1, x2)] M = rX9_judge 100000 0 [.inr (9, 0), .inl (.int x1), .inr (1, x2), am_D, am_D, am_D, am_D, am_D, am_D, am_D, am_D, am_D] [] M := am_meth_eq rfl rfl
set_option maxRecDepth 20000 in
theorem gX9_judge_0 (k : Nat → List am_V → List am_V → am_M → am_R) (x1 : Int32) (x2 : Nat) (M : am_M) : gX9_judge k 0 [.inr (9, 0), .inl (.int x1), .inr (1, x2), am_D, am_D, am_D, am_D, am_D, am_D, am_D, am_D, am_D] [] M =
  if am_in x1 40 then
   if am_in (M 4 (Int32.toNatClampNeg x1) 1) 4 then
    am_ret [] 34 [] (k 37 [.inr (9, 0), .inl (.int x1), .inr (1, x2), .inr (4, (Int32.toNatClampNeg x1)), .inr (6, (Int32.toNatClampNeg (M 4 (Int32.toNatClampNeg x1) 1))), .inl (.int (am_b (M 1 x2 6))), am_D, am_D, am_D, am_D, am_D, am_D]) (fX6_formulaOf [.inr (6, (Int32.toNatClampNeg (M 4 (Int32.toNatClampNeg x1) 1))), .inr (13, x2), .inl (.int (M 1 x2 1))] M)
   else none
  else none := (rfl)
theorem eX9_judge_0 {n : Nat} {x1 : Int32} {x2 : Nat} {M : am_M} {res : am_O × am_M} (h : (if am_in x1 40 then
   if am_in (M 4 (Int32.toNatClampNeg x1) 1) 4 then
    am_ret [] 34 [] (rX9_judge n 37 [.inr (9, 0), .inl (.int x1), .inr (1, x2), .inr (4, (Int32.toNatClampNeg x1)), .inr (6, (Int32.toNatClampNeg (M 4 (Int32.toNatClampNeg x1) 1))), .inl (.int (am_b (M 1 x2 6))), am_D, am_D, am_D, am_D, am_D, am_D]) (fX6_formulaOf [.inr (6, (Int32.toNatClampNeg (M 4 (Int32.toNatClampNeg x1) 1))), .inr (13, x2), .inl (.int (M 1 x2 1))] M)
   else none
  else none) = some res) : rX9_judge (n + 100) 0 [.inr (9, 0), .inl (.int x1), .inr (1, x2), am_D, am_D, am_D, am_D, am_D, am_D, am_D, am_D, am_D] [] M = some res := uX9_judge ((gX9_judge_0 (rX9_judge n) x1 x2 M).trans h)
set_option maxRecDepth 20000 in
theorem gX9_judge_37 (k : Nat → List am_V → List am_V → am_M → am_R) (x1 : Int32) (x2 : Nat) (x3 : Nat) (x4 : Nat) (x5 : Int32) (y0 : Int64) (M : am_M) : gX9_judge k 37 [.inr (9, 0), .inl (.int x1), .inr (1, x2), .inr (4, x3), .inr (6, x4), .inl (.int x5), am_D, am_D, am_D, am_D, am_D, am_D] [.inl (.long y0)] M =
  am_ret [] 47 [] (k 50 [.inr (9, 0), .inl (.int x1), .inr (1, x2), .inr (4, x3), .inr (6, x4), .inl (.int x5), .inl (.long y0), am_D, am_D, am_D, am_D, am_D]) (fX6_valueAt [.inr (6, x4), .inl (.long y0), .inl (.int (am_b (M 4 x3 6)))] M) := (rfl)
theorem eX9_judge_37 {n : Nat} {x1 : Int32} {x2 : Nat} {x3 : Nat} {x4 : Nat} {x5 : Int32} {y0 : Int64} {M : am_M} {res : am_O × am_M} (h : (am_ret [] 47 [] (rX9_judge n 50 [.inr (9, 0), .inl (.int x1), .inr (1, x2), .inr (4, x3), .inr (6, x4), .inl (.int x5), .inl (.long y0), am_D, am_D, am_D, am_D, am_D]) (fX6_valueAt [.inr (6, x4), .inl (.long y0), .inl (.int (am_b (M 4 x3 6)))] M)) = some res) : rX9_judge (n + 100) 37 [.inr (9, 0), .inl (.int x1), .inr (1, x2), .inr (4, x3), .inr (6, x4), .inl (.int x5), am_D, am_D, am_D, am_D, am_D, am_D] [.inl (.long y0)] M = some res := uX9_judge ((gX9_judge_37 (rX9_judge n) x1 x2 x3 x4 x5 y0 M).trans h)
set_option maxRecDepth 20000 in
theorem gX9_judge_50 (k : Nat → List am_V → List am_V → am_M → am_R) (x1 : Int32) (x2 : Nat) (x3 : Nat) (x4 : Nat) (x5 : Int32) (x6 : Int64) (y0 : Int64) (M : am_M) : gX9_judge k 50 [.inr (9, 0), .inl (.int x1), .inr (1, x2), .inr (4, x3), .inr (6, x4), .inl (.int x5), .inl (.long x6), am_D, am_D, am_D, am_D, am_D] [.inl (.long y0)] M =
  am_ret [] 54 [] (k 57 [.inr (9, 0), .inl (.int x1), .inr (1, x2), .inr (4, x3), .inr (6, x4), .inl (.int x5), .inl (.long x6), am_D, .inl (.long y0), am_D, am_D, am_D]) (fX9_limited [.inl (.long y0)] M) := (rfl)
theorem eX9_judge_50 {n : Nat} {x1 : Int32} {x2 : Nat} {x3 : Nat} {x4 : Nat} {x5 : Int32} {x6 : Int64} {y0 : Int64} {M : am_M} {res : am_O × am_M} (h : (am_ret [] 54 [] (rX9_judge n 57 [.inr (9, 0), .inl (.int x1), .inr (1, x2), .inr (4, x3), .inr (6, x4), .inl (.int x5), .inl (.long x6), am_D, .inl (.long y0), am_D, am_D, am_D]) (fX9_limited [.inl (.long y0)] M)) = some res) : rX9_judge (n + 100) 50 [.inr (9, 0), .inl (.int x1), .inr (1, x2), .inr (4, x3), .inr (6, x4), .inl (.int x5), .inl (.long x6), am_D, am_D, am_D, am_D, am_D] [.inl (.long y0)] M = some res := uX9_judge ((gX9_judge_50 (rX9_judge n) x1 x2 x3 x4 x5 x6 y0 M).trans h)
set_option maxRecDepth 20000 in
theorem gX9_judge_57 (k : Nat → List am_V → List am_V → am_M → am_R) (x1 : Int32) (x2 : Nat) (x3 : Nat) (x4 : Nat) (x5 : Int32) (x6 : Int64) (x8 : Int64) (y0 : Int32) (M : am_M) : gX9_judge k 57 [.inr (9, 0), .inl (.int x1), .inr (1, x2), .inr (4, x3), .inr (6, x4), .inl (.int x5), .inl (.long x6), am_D, .inl (.long x8), am_D, am_D, am_D] [.inl (.int y0)] M =
  am_ret [] 63 [] (k 66 [.inr (9, 0), .inl (.int x1), .inr (1, x2), .inr (4, x3), .inr (6, x4), .inl (.int x5), .inl (.long x6), am_D, .inl (.long x8), am_D, .inl (.int y0), am_D]) (fX6_limitFlags [.inr (6, x4), .inl (.int y0)] M) := (rfl)
theorem eX9_judge_57 {n : Nat} {x1 : Int32} {x2 : Nat} {x3 : Nat} {x4 : Nat} {x5 : Int32} {x6 : Int64} {x8 : Int64} {y0 : Int32} {M : am_M} {res : am_O × am_M} (h : (am_ret [] 63 [] (rX9_judge n 66 [.inr (9, 0), .inl (.int x1), .inr (1, x2), .inr (4, x3), .inr (6, x4), .inl (.int x5), .inl (.long x6), am_D, .inl (.long x8), am_D, .inl (.int y0), am_D]) (fX6_limitFlags [.inr (6, x4), .inl (.int y0)] M)) = some res) : rX9_judge (n + 100) 57 [.inr (9, 0), .inl (.int x1), .inr (1, x2), .inr (4, x3), .inr (6, x4), .inl (.int x5), .inl (.long x6), am_D, .inl (.long x8), am_D, am_D, am_D] [.inl (.int y0)] M = some res := uX9_judge ((gX9_judge_57 (rX9_judge n) x1 x2 x3 x4 x5 x6 x8 y0 M).trans h)
set_option maxRecDepth 20000 in
theorem gX9_judge_66 (k : Nat → List am_V → List am_V → am_M → am_R) (x1 : Int32) (x2 : Nat) (x3 : Nat) (x4 : Nat) (x5 : Int32) (x6 : Int64) (x8 : Int64) (x10 : Int32) (y0 : Int32) (M : am_M) : gX9_judge k 66 [.inr (9, 0), .inl (.int x1), .inr (1, x2), .inr (4, x3), .inr (6, x4), .inl (.int x5), .inl (.long x6), am_D, .inl (.long x8), am_D, .inl (.int x10), am_D] [.inl (.int y0)] M =
  am_ret [] 67 [.inl (.int y0)] (k 70 [.inr (9, 0), .inl (.int x1), .inr (1, x2), .inr (4, x3), .inr (6, x4), .inl (.int x5), .inl (.long x6), am_D, .inl (.long x8), am_D, .inl (.int x10), am_D]) (fX4_runFlags [.inr (4, x3)] M) := (rfl)
theorem eX9_judge_66 {n : Nat} {x1 : Int32} {x2 : Nat} {x3 : Nat} {x4 : Nat} {x5 : Int32} {x6 : Int64} {x8 : Int64} {x10 : Int32} {y0 : Int32} {M : am_M} {res : am_O × am_M} (h : (am_ret [] 67 [.inl (.int y0)] (rX9_judge n 70 [.inr (9, 0), .inl (.int x1), .inr (1, x2), .inr (4, x3), .inr (6, x4), .inl (.int x5), .inl (.long x6), am_D, .inl (.long x8), am_D, .inl (.int x10), am_D]) (fX4_runFlags [.inr (4, x3)] M)) = some res) : rX9_judge (n + 100) 66 [.inr (9, 0), .inl (.int x1), .inr (1, x2), .inr (4, x3), .inr (6, x4), .inl (.int x5), .inl (.long x6), am_D, .inl (.long x8), am_D, .inl (.int x10), am_D] [.inl (.int y0)] M = some res := uX9_judge ((gX9_judge_66 (rX9_judge n) x1 x2 x3 x4 x5 x6 x8 x10 y0 M).trans h)
set_option maxRecDepth 20000 in
theorem gX9_judge_70 (k : Nat → List am_V → List am_V → am_M → am_R) (x1 : Int32) (x2 : Nat) (x3 : Nat) (x4 : Nat) (x5 : Int32) (x6 : Int64) (x8 : Int64) (x10 : Int32) (y0 : Int32) (y1 : Int32) (M : am_M) : gX9_judge k 70 [.inr (9, 0), .inl (.int x1), .inr (1, x2), .inr (4, x3), .inr (6, x4), .inl (.int x5), .inl (.long x6), am_D, .inl (.long x8), am_D, .inl (.int x10), am_D] [.inl (.int y0), .inl (.int y1)] M =
  if (lg_cmp (Int32.toInt64 x10) x8) = 0 then
   if x5 = 0 then
    if (M 4 x3 5) = 1 then
     am_ret [] 109 [] (k 112 [.inr (9, 0), .inl (.int x1), .inr (1, x2), .inr (4, x3), .inr (6, x4), .inl (.int x5), .inl (.long x6), am_D, .inl (.long x8), am_D, .inl (.int x10), .inl (.int ((y1 ||| y0) ||| 0))]) (fX6_asksAgain [.inr (6, x4), .inl (.int ((y1 ||| y0) ||| 0))] (am_put (am_put (am_put M 1 x2 5 (-1)) 1 x2 9 0) 1 x2 8 3))
    else am_ret [] 138 [] (k 141 [.inr (9, 0), .inl (.int x1), .inr (1, x2), .inr (4, x3), .inr (6, x4), .inl (.int x5), .inl (.long x6), am_D, .inl (.long x8), am_D, .inl (.int x10), .inl (.int ((y1 ||| y0) ||| 0))]) (fX3_append [.inr (3, 0), .inl (.int x1)] (am_put (am_put (am_put (am_put (am_put (am_put (am_put M 1 x2 5 (-1)) 1 x2 9 0) 1 x2 8 3) 4 x3 3 2) 4 x3 7 (-1)) 4 x3 8 x10) 4 x3 9 ((y1 ||| y0) ||| 0)))
   else am_ret [] 138 [] (k 141 [.inr (9, 0), .inl (.int x1), .inr (1, x2), .inr (4, x3), .inr (6, x4), .inl (.int x5), .inl (.long x6), am_D, .inl (.long x8), am_D, .inl (.int x10), .inl (.int ((y1 ||| y0) ||| 0))]) (fX3_append [.inr (3, 0), .inl (.int x1)] (am_put (am_put (am_put (am_put (am_put (am_put (am_put M 1 x2 5 (-1)) 1 x2 9 0) 1 x2 8 3) 4 x3 3 2) 4 x3 7 (-1)) 4 x3 8 x10) 4 x3 9 ((y1 ||| y0) ||| 0)))
  else if x5 = 0 then
   if (M 4 x3 5) = 1 then
    am_ret [] 109 [] (k 112 [.inr (9, 0), .inl (.int x1), .inr (1, x2), .inr (4, x3), .inr (6, x4), .inl (.int x5), .inl (.long x6), am_D, .inl (.long x8), am_D, .inl (.int x10), .inl (.int ((y1 ||| y0) ||| 4))]) (fX6_asksAgain [.inr (6, x4), .inl (.int ((y1 ||| y0) ||| 4))] (am_put (am_put (am_put M 1 x2 5 (-1)) 1 x2 9 0) 1 x2 8 3))
   else am_ret [] 138 [] (k 141 [.inr (9, 0), .inl (.int x1), .inr (1, x2), .inr (4, x3), .inr (6, x4), .inl (.int x5), .inl (.long x6), am_D, .inl (.long x8), am_D, .inl (.int x10), .inl (.int ((y1 ||| y0) ||| 4))]) (fX3_append [.inr (3, 0), .inl (.int x1)] (am_put (am_put (am_put (am_put (am_put (am_put (am_put M 1 x2 5 (-1)) 1 x2 9 0) 1 x2 8 3) 4 x3 3 2) 4 x3 7 (-1)) 4 x3 8 x10) 4 x3 9 ((y1 ||| y0) ||| 4)))
  else am_ret [] 138 [] (k 141 [.inr (9, 0), .inl (.int x1), .inr (1, x2), .inr (4, x3), .inr (6, x4), .inl (.int x5), .inl (.long x6), am_D, .inl (.long x8), am_D, .inl (.int x10), .inl (.int ((y1 ||| y0) ||| 4))]) (fX3_append [.inr (3, 0), .inl (.int x1)] (am_put (am_put (am_put (am_put (am_put (am_put (am_put M 1 x2 5 (-1)) 1 x2 9 0) 1 x2 8 3) 4 x3 3 2) 4 x3 7 (-1)) 4 x3 8 x10) 4 x3 9 ((y1 ||| y0) ||| 4))) := (rfl)
theorem eX9_judge_70 {n : Nat} {x1 : Int32} {x2 : Nat} {x3 : Nat} {x4 : Nat} {x5 : Int32} {x6 : Int64} {x8 : Int64} {x10 : Int32} {y0 : Int32} {y1 : Int32} {M : am_M} {res : am_O × am_M} (h : (if (lg_cmp (Int32.toInt64 x10) x8) = 0 then
   if x5 = 0 then
    if (M 4 x3 5) = 1 then
     am_ret [] 109 [] (rX9_judge n 112 [.inr (9, 0), .inl (.int x1), .inr (1, x2), .inr (4, x3), .inr (6, x4), .inl (.int x5), .inl (.long x6), am_D, .inl (.long x8), am_D, .inl (.int x10), .inl (.int ((y1 ||| y0) ||| 0))]) (fX6_asksAgain [.inr (6, x4), .inl (.int ((y1 ||| y0) ||| 0))] (am_put (am_put (am_put M 1 x2 5 (-1)) 1 x2 9 0) 1 x2 8 3))
    else am_ret [] 138 [] (rX9_judge n 141 [.inr (9, 0), .inl (.int x1), .inr (1, x2), .inr (4, x3), .inr (6, x4), .inl (.int x5), .inl (.long x6), am_D, .inl (.long x8), am_D, .inl (.int x10), .inl (.int ((y1 ||| y0) ||| 0))]) (fX3_append [.inr (3, 0), .inl (.int x1)] (am_put (am_put (am_put (am_put (am_put (am_put (am_put M 1 x2 5 (-1)) 1 x2 9 0) 1 x2 8 3) 4 x3 3 2) 4 x3 7 (-1)) 4 x3 8 x10) 4 x3 9 ((y1 ||| y0) ||| 0)))
   else am_ret [] 138 [] (rX9_judge n 141 [.inr (9, 0), .inl (.int x1), .inr (1, x2), .inr (4, x3), .inr (6, x4), .inl (.int x5), .inl (.long x6), am_D, .inl (.long x8), am_D, .inl (.int x10), .inl (.int ((y1 ||| y0) ||| 0))]) (fX3_append [.inr (3, 0), .inl (.int x1)] (am_put (am_put (am_put (am_put (am_put (am_put (am_put M 1 x2 5 (-1)) 1 x2 9 0) 1 x2 8 3) 4 x3 3 2) 4 x3 7 (-1)) 4 x3 8 x10) 4 x3 9 ((y1 ||| y0) ||| 0)))
  else if x5 = 0 then
   if (M 4 x3 5) = 1 then
    am_ret [] 109 [] (rX9_judge n 112 [.inr (9, 0), .inl (.int x1), .inr (1, x2), .inr (4, x3), .inr (6, x4), .inl (.int x5), .inl (.long x6), am_D, .inl (.long x8), am_D, .inl (.int x10), .inl (.int ((y1 ||| y0) ||| 4))]) (fX6_asksAgain [.inr (6, x4), .inl (.int ((y1 ||| y0) ||| 4))] (am_put (am_put (am_put M 1 x2 5 (-1)) 1 x2 9 0) 1 x2 8 3))
   else am_ret [] 138 [] (rX9_judge n 141 [.inr (9, 0), .inl (.int x1), .inr (1, x2), .inr (4, x3), .inr (6, x4), .inl (.int x5), .inl (.long x6), am_D, .inl (.long x8), am_D, .inl (.int x10), .inl (.int ((y1 ||| y0) ||| 4))]) (fX3_append [.inr (3, 0), .inl (.int x1)] (am_put (am_put (am_put (am_put (am_put (am_put (am_put M 1 x2 5 (-1)) 1 x2 9 0) 1 x2 8 3) 4 x3 3 2) 4 x3 7 (-1)) 4 x3 8 x10) 4 x3 9 ((y1 ||| y0) ||| 4)))
  else am_ret [] 138 [] (rX9_judge n 141 [.inr (9, 0), .inl (.int x1), .inr (1, x2), .inr (4, x3), .inr (6, x4), .inl (.int x5), .inl (.long x6), am_D, .inl (.long x8), am_D, .inl (.int x10), .inl (.int ((y1 ||| y0) ||| 4))]) (fX3_append [.inr (3, 0), .inl (.int x1)] (am_put (am_put (am_put (am_put (am_put (am_put (am_put M 1 x2 5 (-1)) 1 x2 9 0) 1 x2 8 3) 4 x3 3 2) 4 x3 7 (-1)) 4 x3 8 x10) 4 x3 9 ((y1 ||| y0) ||| 4)))) = some res) : rX9_judge (n + 100) 70 [.inr (9, 0), .inl (.int x1), .inr (1, x2), .inr (4, x3), .inr (6, x4), .inl (.int x5), .inl (.long x6), am_D, .inl (.long x8), am_D, .inl (.int x10), am_D] [.inl (.int y0), .inl (.int y1)] M = some res := uX9_judge ((gX9_judge_70 (rX9_judge n) x1 x2 x3 x4 x5 x6 x8 x10 y0 y1 M).trans h)
set_option maxRecDepth 20000 in
theorem gX9_judge_112 (k : Nat → List am_V → List am_V → am_M → am_R) (x1 : Int32) (x2 : Nat) (x3 : Nat) (x4 : Nat) (x5 : Int32) (x6 : Int64) (x8 : Int64) (x10 : Int32) (x11 : Int32) (y0 : Int32) (M : am_M) : gX9_judge k 112 [.inr (9, 0), .inl (.int x1), .inr (1, x2), .inr (4, x3), .inr (6, x4), .inl (.int x5), .inl (.long x6), am_D, .inl (.long x8), am_D, .inl (.int x10), .inl (.int x11)] [.inl (.int y0)] M =
  if y0 = 0 then
   am_ret [] 138 [] (k 141 [.inr (9, 0), .inl (.int x1), .inr (1, x2), .inr (4, x3), .inr (6, x4), .inl (.int x5), .inl (.long x6), am_D, .inl (.long x8), am_D, .inl (.int x10), .inl (.int x11)]) (fX3_append [.inr (3, 0), .inl (.int x1)] (am_put (am_put (am_put (am_put M 4 x3 3 2) 4 x3 7 (-1)) 4 x3 8 x10) 4 x3 9 x11))
  else am_ret [] 118 [.inr (4, x3)] (k 121 [.inr (9, 0), .inl (.int x1), .inr (1, x2), .inr (4, x3), .inr (6, x4), .inl (.int x5), .inl (.long x6), am_D, .inl (.long x8), am_D, .inl (.int x10), .inl (.int x11)]) (fX6_dilutes [.inr (6, x4)] M) := (rfl)
theorem eX9_judge_112 {n : Nat} {x1 : Int32} {x2 : Nat} {x3 : Nat} {x4 : Nat} {x5 : Int32} {x6 : Int64} {x8 : Int64} {x10 : Int32} {x11 : Int32} {y0 : Int32} {M : am_M} {res : am_O × am_M} (h : (if y0 = 0 then
   am_ret [] 138 [] (rX9_judge n 141 [.inr (9, 0), .inl (.int x1), .inr (1, x2), .inr (4, x3), .inr (6, x4), .inl (.int x5), .inl (.long x6), am_D, .inl (.long x8), am_D, .inl (.int x10), .inl (.int x11)]) (fX3_append [.inr (3, 0), .inl (.int x1)] (am_put (am_put (am_put (am_put M 4 x3 3 2) 4 x3 7 (-1)) 4 x3 8 x10) 4 x3 9 x11))
  else am_ret [] 118 [.inr (4, x3)] (rX9_judge n 121 [.inr (9, 0), .inl (.int x1), .inr (1, x2), .inr (4, x3), .inr (6, x4), .inl (.int x5), .inl (.long x6), am_D, .inl (.long x8), am_D, .inl (.int x10), .inl (.int x11)]) (fX6_dilutes [.inr (6, x4)] M)) = some res) : rX9_judge (n + 100) 112 [.inr (9, 0), .inl (.int x1), .inr (1, x2), .inr (4, x3), .inr (6, x4), .inl (.int x5), .inl (.long x6), am_D, .inl (.long x8), am_D, .inl (.int x10), .inl (.int x11)] [.inl (.int y0)] M = some res := uX9_judge ((gX9_judge_112 (rX9_judge n) x1 x2 x3 x4 x5 x6 x8 x10 x11 y0 M).trans h)
set_option maxRecDepth 20000 in
theorem gX9_judge_141 (k : Nat → List am_V → List am_V → am_M → am_R) (x1 : Int32) (x2 : Nat) (x3 : Nat) (x4 : Nat) (x5 : Int32) (x6 : Int64) (x8 : Int64) (x10 : Int32) (x11 : Int32) (M : am_M) : gX9_judge k 141 [.inr (9, 0), .inl (.int x1), .inr (1, x2), .inr (4, x3), .inr (6, x4), .inl (.int x5), .inl (.long x6), am_D, .inl (.long x8), am_D, .inl (.int x10), .inl (.int x11)] [] M =
  if x5 = 0 then
   some (.inl none, M)
  else am_ret [] 153 [] (k 156 [.inr (9, 0), .inl (.int x1), .inr (1, x2), .inr (4, x3), .inr (6, x4), .inl (.int x5), .inl (.long x6), am_D, .inl (.long x8), am_D, .inl (.int x10), .inl (.int x11)]) (fX2_append [.inr (2, x4), .inl (.int x10)] M) := (rfl)
theorem eX9_judge_141 {n : Nat} {x1 : Int32} {x2 : Nat} {x3 : Nat} {x4 : Nat} {x5 : Int32} {x6 : Int64} {x8 : Int64} {x10 : Int32} {x11 : Int32} {M : am_M} {res : am_O × am_M} (h : (if x5 = 0 then
   some (.inl none, M)
  else am_ret [] 153 [] (rX9_judge n 156 [.inr (9, 0), .inl (.int x1), .inr (1, x2), .inr (4, x3), .inr (6, x4), .inl (.int x5), .inl (.long x6), am_D, .inl (.long x8), am_D, .inl (.int x10), .inl (.int x11)]) (fX2_append [.inr (2, x4), .inl (.int x10)] M)) = some res) : rX9_judge (n + 100) 141 [.inr (9, 0), .inl (.int x1), .inr (1, x2), .inr (4, x3), .inr (6, x4), .inl (.int x5), .inl (.long x6), am_D, .inl (.long x8), am_D, .inl (.int x10), .inl (.int x11)] [] M = some res := uX9_judge ((gX9_judge_141 (rX9_judge n) x1 x2 x3 x4 x5 x6 x8 x10 x11 M).trans h)
set_option maxRecDepth 20000 in
theorem gX9_judge_121 (k : Nat → List am_V → List am_V → am_M → am_R) (x1 : Int32) (x2 : Nat) (x3 : Nat) (x4 : Nat) (x5 : Int32) (x6 : Int64) (x8 : Int64) (x10 : Int32) (x11 : Int32) (y0 : Int32) (y1 : Nat) (M : am_M) : gX9_judge k 121 [.inr (9, 0), .inl (.int x1), .inr (1, x2), .inr (4, x3), .inr (6, x4), .inl (.int x5), .inl (.long x6), am_D, .inl (.long x8), am_D, .inl (.int x10), .inl (.int x11)] [.inl (.int y0), .inr (4, y1)] M =
  am_ret [] 121 [] (k 124 [.inr (9, 0), .inl (.int x1), .inr (1, x2), .inr (4, x3), .inr (6, x4), .inl (.int x5), .inl (.long x6), am_D, .inl (.long x8), am_D, .inl (.int x10), .inl (.int x11)]) (fX4_waitAgain [.inr (4, y1), .inl (.int y0)] M) := (rfl)
theorem eX9_judge_121 {n : Nat} {x1 : Int32} {x2 : Nat} {x3 : Nat} {x4 : Nat} {x5 : Int32} {x6 : Int64} {x8 : Int64} {x10 : Int32} {x11 : Int32} {y0 : Int32} {y1 : Nat} {M : am_M} {res : am_O × am_M} (h : (am_ret [] 121 [] (rX9_judge n 124 [.inr (9, 0), .inl (.int x1), .inr (1, x2), .inr (4, x3), .inr (6, x4), .inl (.int x5), .inl (.long x6), am_D, .inl (.long x8), am_D, .inl (.int x10), .inl (.int x11)]) (fX4_waitAgain [.inr (4, y1), .inl (.int y0)] M)) = some res) : rX9_judge (n + 100) 121 [.inr (9, 0), .inl (.int x1), .inr (1, x2), .inr (4, x3), .inr (6, x4), .inl (.int x5), .inl (.long x6), am_D, .inl (.long x8), am_D, .inl (.int x10), .inl (.int x11)] [.inl (.int y0), .inr (4, y1)] M = some res := uX9_judge ((gX9_judge_121 (rX9_judge n) x1 x2 x3 x4 x5 x6 x8 x10 x11 y0 y1 M).trans h)
set_option maxRecDepth 20000 in
theorem gX9_judge_156 (k : Nat → List am_V → List am_V → am_M → am_R) (x1 : Int32) (x2 : Nat) (x3 : Nat) (x4 : Nat) (x5 : Int32) (x6 : Int64) (x8 : Int64) (x10 : Int32) (x11 : Int32) (M : am_M) : gX9_judge k 156 [.inr (9, 0), .inl (.int x1), .inr (1, x2), .inr (4, x3), .inr (6, x4), .inl (.int x5), .inl (.long x6), am_D, .inl (.long x8), am_D, .inl (.int x10), .inl (.int x11)] [] M =
  some (.inl none, M) := (rfl)
theorem eX9_judge_156 {n : Nat} {x1 : Int32} {x2 : Nat} {x3 : Nat} {x4 : Nat} {x5 : Int32} {x6 : Int64} {x8 : Int64} {x10 : Int32} {x11 : Int32} {M : am_M} {res : am_O × am_M} (h : (some (.inl none, M)) = some res) : rX9_judge (n + 100) 156 [.inr (9, 0), .inl (.int x1), .inr (1, x2), .inr (4, x3), .inr (6, x4), .inl (.int x5), .inl (.long x6), am_D, .inl (.long x8), am_D, .inl (.int x10), .inl (.int x11)] [] M = some res := uX9_judge ((gX9_judge_156 (rX9_judge n) x1 x2 x3 x4 x5 x6 x8 x10 x11 M).trans h)
set_option maxRecDepth 20000 in
theorem gX9_judge_124 (k : Nat → List am_V → List am_V → am_M → am_R) (x1 : Int32) (x2 : Nat) (x3 : Nat) (x4 : Nat) (x5 : Int32) (x6 : Int64) (x8 : Int64) (x10 : Int32) (x11 : Int32) (M : am_M) : gX9_judge k 124 [.inr (9, 0), .inl (.int x1), .inr (1, x2), .inr (4, x3), .inr (6, x4), .inl (.int x5), .inl (.long x6), am_D, .inl (.long x8), am_D, .inl (.int x10), .inl (.int x11)] [] M =
  some (.inl none, M) := (rfl)
theorem eX9_judge_124 {n : Nat} {x1 : Int32} {x2 : Nat} {x3 : Nat} {x4 : Nat} {x5 : Int32} {x6 : Int64} {x8 : Int64} {x10 : Int32} {x11 : Int32} {M : am_M} {res : am_O × am_M} (h : (some (.inl none, M)) = some res) : rX9_judge (n + 100) 124 [.inr (9, 0), .inl (.int x1), .inr (1, x2), .inr (4, x3), .inr (6, x4), .inl (.int x5), .inl (.long x6), am_D, .inl (.long x8), am_D, .inl (.int x10), .inl (.int x11)] [] M = some res := uX9_judge ((gX9_judge_124 (rX9_judge n) x1 x2 x3 x4 x5 x6 x8 x10 x11 M).trans h)
def rX9_judgeEndedRuns (n pc : Nat) (ls st : List am_V) (M : am_M) : am_R := am_run [fX9_cuvetteOf, fX6_isOverAt, fX9_judge] [] 0 am_X0 pX9_judgeEndedRuns n pc ls st M
def gX9_judgeEndedRuns (k : Nat → List am_V → List am_V → am_M → am_R) (pc : Nat) (ls st : List am_V) (M : am_M) : am_R := am_go [fX9_cuvetteOf, fX6_isOverAt, fX9_judge] [] 0 am_X0 pX9_judgeEndedRuns [2, 20, 46, 55] k 100 pc ls st M
theorem uX9_judgeEndedRuns {n pc : Nat} {ls st : List am_V} {M : am_M} {res : am_O × am_M} (h : gX9_judgeEndedRuns (rX9_judgeEndedRuns n) pc ls st M = some res) : rX9_judgeEndedRuns (n + 100) pc ls st M = some res := am_go_ok h
theorem eX9_judgeEndedRuns (M : am_M) : fX9_judgeEndedRuns [.inr (9, 0)] M = rX9_judgeEndedRuns 100000 0 [.inr (9, 0), am_D, am_D] [] M := am_meth_eq rfl rfl
set_option maxRecDepth 20000 in
theorem gX9_judgeEndedRuns_0 (k : Nat → List am_V → List am_V → am_M → am_R) (M : am_M) : gX9_judgeEndedRuns k 0 [.inr (9, 0), am_D, am_D] [] M =
  k 2 [.inr (9, 0), .inl (.int 0), am_D] [] M := (rfl)
theorem eX9_judgeEndedRuns_0 {n : Nat} {M : am_M} {res : am_O × am_M} (h : (rX9_judgeEndedRuns n 2 [.inr (9, 0), .inl (.int 0), am_D] [] M) = some res) : rX9_judgeEndedRuns (n + 100) 0 [.inr (9, 0), am_D, am_D] [] M = some res := uX9_judgeEndedRuns ((gX9_judgeEndedRuns_0 (rX9_judgeEndedRuns n) M).trans h)
set_option maxRecDepth 20000 in
theorem gX9_judgeEndedRuns_2 (k : Nat → List am_V → List am_V → am_M → am_R) (x1 : Int32) (M : am_M) : gX9_judgeEndedRuns k 2 [.inr (9, 0), .inl (.int x1), am_D] [] M =
  if (M 9 0 7) ≤ x1 then
   some (.inl none, M)
  else if am_in x1 40 then
   am_ret [] 17 [] (k 20 [.inr (9, 0), .inl (.int x1), am_D]) (fX9_cuvetteOf [.inr (9, 0), .inr (4, (Int32.toNatClampNeg x1))] M)
  else none := (rfl)
theorem eX9_judgeEndedRuns_2 {n : Nat} {x1 : Int32} {M : am_M} {res : am_O × am_M} (h : (if (M 9 0 7) ≤ x1 then
   some (.inl none, M)
  else if am_in x1 40 then
   am_ret [] 17 [] (rX9_judgeEndedRuns n 20 [.inr (9, 0), .inl (.int x1), am_D]) (fX9_cuvetteOf [.inr (9, 0), .inr (4, (Int32.toNatClampNeg x1))] M)
  else none) = some res) : rX9_judgeEndedRuns (n + 100) 2 [.inr (9, 0), .inl (.int x1), am_D] [] M = some res := uX9_judgeEndedRuns ((gX9_judgeEndedRuns_2 (rX9_judgeEndedRuns n) x1 M).trans h)
set_option maxRecDepth 20000 in
theorem gX9_judgeEndedRuns_20 (k : Nat → List am_V → List am_V → am_M → am_R) (x1 : Int32) (y0 : Nat) (M : am_M) : gX9_judgeEndedRuns k 20 [.inr (9, 0), .inl (.int x1), am_D] [.inr (1, y0)] M =
  if am_in x1 40 then
   if am_in (M 4 (Int32.toNatClampNeg x1) 1) 4 then
    am_ret [] 43 [] (k 46 [.inr (9, 0), .inl (.int x1), .inr (1, y0)]) (fX6_isOverAt [.inr (6, (Int32.toNatClampNeg (M 4 (Int32.toNatClampNeg x1) 1))), .inl (.int (M 1 y0 7))] M)
   else none
  else none := (rfl)
theorem eX9_judgeEndedRuns_20 {n : Nat} {x1 : Int32} {y0 : Nat} {M : am_M} {res : am_O × am_M} (h : (if am_in x1 40 then
   if am_in (M 4 (Int32.toNatClampNeg x1) 1) 4 then
    am_ret [] 43 [] (rX9_judgeEndedRuns n 46 [.inr (9, 0), .inl (.int x1), .inr (1, y0)]) (fX6_isOverAt [.inr (6, (Int32.toNatClampNeg (M 4 (Int32.toNatClampNeg x1) 1))), .inl (.int (M 1 y0 7))] M)
   else none
  else none) = some res) : rX9_judgeEndedRuns (n + 100) 20 [.inr (9, 0), .inl (.int x1), am_D] [.inr (1, y0)] M = some res := uX9_judgeEndedRuns ((gX9_judgeEndedRuns_20 (rX9_judgeEndedRuns n) x1 y0 M).trans h)
set_option maxRecDepth 20000 in
theorem gX9_judgeEndedRuns_20a (k : Nat → List am_V → List am_V → am_M → am_R) (x1 : Int32) (M : am_M) : gX9_judgeEndedRuns k 20 [.inr (9, 0), .inl (.int x1), am_D] [.inl .null] M =
  k 2 [.inr (9, 0), .inl (.int (x1 + 1)), .inl .null] [] M := (rfl)
theorem eX9_judgeEndedRuns_20a {n : Nat} {x1 : Int32} {M : am_M} {res : am_O × am_M} (h : (rX9_judgeEndedRuns n 2 [.inr (9, 0), .inl (.int (x1 + 1)), .inl .null] [] M) = some res) : rX9_judgeEndedRuns (n + 100) 20 [.inr (9, 0), .inl (.int x1), am_D] [.inl .null] M = some res := uX9_judgeEndedRuns ((gX9_judgeEndedRuns_20a (rX9_judgeEndedRuns n) x1 M).trans h)
set_option maxRecDepth 20000 in
theorem gX9_judgeEndedRuns_46 (k : Nat → List am_V → List am_V → am_M → am_R) (x1 : Int32) (x2 : Nat) (y0 : Int32) (M : am_M) : gX9_judgeEndedRuns k 46 [.inr (9, 0), .inl (.int x1), .inr (1, x2)] [.inl (.int y0)] M =
  if y0 = 0 then
   k 2 [.inr (9, 0), .inl (.int (x1 + 1)), .inr (1, x2)] [] M
  else am_ret [] 52 [] (k 55 [.inr (9, 0), .inl (.int x1), .inr (1, x2)]) (fX9_judge [.inr (9, 0), .inl (.int x1), .inr (1, x2)] M) := (rfl)
theorem eX9_judgeEndedRuns_46 {n : Nat} {x1 : Int32} {x2 : Nat} {y0 : Int32} {M : am_M} {res : am_O × am_M} (h : (if y0 = 0 then
   rX9_judgeEndedRuns n 2 [.inr (9, 0), .inl (.int (x1 + 1)), .inr (1, x2)] [] M
  else am_ret [] 52 [] (rX9_judgeEndedRuns n 55 [.inr (9, 0), .inl (.int x1), .inr (1, x2)]) (fX9_judge [.inr (9, 0), .inl (.int x1), .inr (1, x2)] M)) = some res) : rX9_judgeEndedRuns (n + 100) 46 [.inr (9, 0), .inl (.int x1), .inr (1, x2)] [.inl (.int y0)] M = some res := uX9_judgeEndedRuns ((gX9_judgeEndedRuns_46 (rX9_judgeEndedRuns n) x1 x2 y0 M).trans h)
set_option maxRecDepth 20000 in
theorem gX9_judgeEndedRuns_2a (k : Nat → List am_V → List am_V → am_M → am_R) (x1 : Int32) (M : am_M) : gX9_judgeEndedRuns k 2 [.inr (9, 0), .inl (.int x1), .inl .null] [] M =
  if (M 9 0 7) ≤ x1 then
   some (.inl none, M)
  else if am_in x1 40 then
   am_ret [] 17 [] (k 20 [.inr (9, 0), .inl (.int x1), .inl .null]) (fX9_cuvetteOf [.inr (9, 0), .inr (4, (Int32.toNatClampNeg x1))] M)
  else none := (rfl)
theorem eX9_judgeEndedRuns_2a {n : Nat} {x1 : Int32} {M : am_M} {res : am_O × am_M} (h : (if (M 9 0 7) ≤ x1 then
   some (.inl none, M)
  else if am_in x1 40 then
   am_ret [] 17 [] (rX9_judgeEndedRuns n 20 [.inr (9, 0), .inl (.int x1), .inl .null]) (fX9_cuvetteOf [.inr (9, 0), .inr (4, (Int32.toNatClampNeg x1))] M)
  else none) = some res) : rX9_judgeEndedRuns (n + 100) 2 [.inr (9, 0), .inl (.int x1), .inl .null] [] M = some res := uX9_judgeEndedRuns ((gX9_judgeEndedRuns_2a (rX9_judgeEndedRuns n) x1 M).trans h)
set_option maxRecDepth 20000 in
theorem gX9_judgeEndedRuns_2b (k : Nat → List am_V → List am_V → am_M → am_R) (x1 : Int32) (x2 : Nat) (M : am_M) : gX9_judgeEndedRuns k 2 [.inr (9, 0), .inl (.int x1), .inr (1, x2)] [] M =
  if (M 9 0 7) ≤ x1 then
   some (.inl none, M)
  else if am_in x1 40 then
   am_ret [] 17 [] (k 20 [.inr (9, 0), .inl (.int x1), .inr (1, x2)]) (fX9_cuvetteOf [.inr (9, 0), .inr (4, (Int32.toNatClampNeg x1))] M)
  else none := (rfl)
theorem eX9_judgeEndedRuns_2b {n : Nat} {x1 : Int32} {x2 : Nat} {M : am_M} {res : am_O × am_M} (h : (if (M 9 0 7) ≤ x1 then
   some (.inl none, M)
  else if am_in x1 40 then
   am_ret [] 17 [] (rX9_judgeEndedRuns n 20 [.inr (9, 0), .inl (.int x1), .inr (1, x2)]) (fX9_cuvetteOf [.inr (9, 0), .inr (4, (Int32.toNatClampNeg x1))] M)
  else none) = some res) : rX9_judgeEndedRuns (n + 100) 2 [.inr (9, 0), .inl (.int x1), .inr (1, x2)] [] M = some res := uX9_judgeEndedRuns ((gX9_judgeEndedRuns_2b (rX9_judgeEndedRuns n) x1 x2 M).trans h)
set_option maxRecDepth 20000 in
theorem gX9_judgeEndedRuns_55 (k : Nat → List am_V → List am_V → am_M → am_R) (x1 : Int32) (x2 : Nat) (M : am_M) : gX9_judgeEndedRuns k 55 [.inr (9, 0), .inl (.int x1), .inr (1, x2)] [] M =
  k 2 [.inr (9, 0), .inl (.int (x1 + 1)), .inr (1, x2)] [] M := (rfl)
theorem eX9_judgeEndedRuns_55 {n : Nat} {x1 : Int32} {x2 : Nat} {M : am_M} {res : am_O × am_M} (h : (rX9_judgeEndedRuns n 2 [.inr (9, 0), .inl (.int (x1 + 1)), .inr (1, x2)] [] M) = some res) : rX9_judgeEndedRuns (n + 100) 55 [.inr (9, 0), .inl (.int x1), .inr (1, x2)] [] M = some res := uX9_judgeEndedRuns ((gX9_judgeEndedRuns_55 (rX9_judgeEndedRuns n) x1 x2 M).trans h)
set_option maxRecDepth 20000 in
theorem gX9_judgeEndedRuns_20b (k : Nat → List am_V → List am_V → am_M → am_R) (x1 : Int32) (y0 : Nat) (M : am_M) : gX9_judgeEndedRuns k 20 [.inr (9, 0), .inl (.int x1), .inl .null] [.inr (1, y0)] M =
  if am_in x1 40 then
   if am_in (M 4 (Int32.toNatClampNeg x1) 1) 4 then
    am_ret [] 43 [] (k 46 [.inr (9, 0), .inl (.int x1), .inr (1, y0)]) (fX6_isOverAt [.inr (6, (Int32.toNatClampNeg (M 4 (Int32.toNatClampNeg x1) 1))), .inl (.int (M 1 y0 7))] M)
   else none
  else none := (rfl)
theorem eX9_judgeEndedRuns_20b {n : Nat} {x1 : Int32} {y0 : Nat} {M : am_M} {res : am_O × am_M} (h : (if am_in x1 40 then
   if am_in (M 4 (Int32.toNatClampNeg x1) 1) 4 then
    am_ret [] 43 [] (rX9_judgeEndedRuns n 46 [.inr (9, 0), .inl (.int x1), .inr (1, y0)]) (fX6_isOverAt [.inr (6, (Int32.toNatClampNeg (M 4 (Int32.toNatClampNeg x1) 1))), .inl (.int (M 1 y0 7))] M)
   else none
  else none) = some res) : rX9_judgeEndedRuns (n + 100) 20 [.inr (9, 0), .inl (.int x1), .inl .null] [.inr (1, y0)] M = some res := uX9_judgeEndedRuns ((gX9_judgeEndedRuns_20b (rX9_judgeEndedRuns n) x1 y0 M).trans h)
set_option maxRecDepth 20000 in
theorem gX9_judgeEndedRuns_20c (k : Nat → List am_V → List am_V → am_M → am_R) (x1 : Int32) (M : am_M) : gX9_judgeEndedRuns k 20 [.inr (9, 0), .inl (.int x1), .inl .null] [.inl .null] M =
  k 2 [.inr (9, 0), .inl (.int (x1 + 1)), .inl .null] [] M := (rfl)
theorem eX9_judgeEndedRuns_20c {n : Nat} {x1 : Int32} {M : am_M} {res : am_O × am_M} (h : (rX9_judgeEndedRuns n 2 [.inr (9, 0), .inl (.int (x1 + 1)), .inl .null] [] M) = some res) : rX9_judgeEndedRuns (n + 100) 20 [.inr (9, 0), .inl (.int x1), .inl .null] [.inl .null] M = some res := uX9_judgeEndedRuns ((gX9_judgeEndedRuns_20c (rX9_judgeEndedRuns n) x1 M).trans h)
set_option maxRecDepth 20000 in
theorem gX9_judgeEndedRuns_20d (k : Nat → List am_V → List am_V → am_M → am_R) (x1 : Int32) (x2 : Nat) (y0 : Nat) (M : am_M) : gX9_judgeEndedRuns k 20 [.inr (9, 0), .inl (.int x1), .inr (1, x2)] [.inr (1, y0)] M =
  if am_in x1 40 then
   if am_in (M 4 (Int32.toNatClampNeg x1) 1) 4 then
    am_ret [] 43 [] (k 46 [.inr (9, 0), .inl (.int x1), .inr (1, y0)]) (fX6_isOverAt [.inr (6, (Int32.toNatClampNeg (M 4 (Int32.toNatClampNeg x1) 1))), .inl (.int (M 1 y0 7))] M)
   else none
  else none := (rfl)
theorem eX9_judgeEndedRuns_20d {n : Nat} {x1 : Int32} {x2 : Nat} {y0 : Nat} {M : am_M} {res : am_O × am_M} (h : (if am_in x1 40 then
   if am_in (M 4 (Int32.toNatClampNeg x1) 1) 4 then
    am_ret [] 43 [] (rX9_judgeEndedRuns n 46 [.inr (9, 0), .inl (.int x1), .inr (1, y0)]) (fX6_isOverAt [.inr (6, (Int32.toNatClampNeg (M 4 (Int32.toNatClampNeg x1) 1))), .inl (.int (M 1 y0 7))] M)
   else none
  else none) = some res) : rX9_judgeEndedRuns (n + 100) 20 [.inr (9, 0), .inl (.int x1), .inr (1, x2)] [.inr (1, y0)] M = some res := uX9_judgeEndedRuns ((gX9_judgeEndedRuns_20d (rX9_judgeEndedRuns n) x1 x2 y0 M).trans h)
set_option maxRecDepth 20000 in
theorem gX9_judgeEndedRuns_20e (k : Nat → List am_V → List am_V → am_M → am_R) (x1 : Int32) (x2 : Nat) (M : am_M) : gX9_judgeEndedRuns k 20 [.inr (9, 0), .inl (.int x1), .inr (1, x2)] [.inl .null] M =
  k 2 [.inr (9, 0), .inl (.int (x1 + 1)), .inl .null] [] M := (rfl)
theorem eX9_judgeEndedRuns_20e {n : Nat} {x1 : Int32} {x2 : Nat} {M : am_M} {res : am_O × am_M} (h : (rX9_judgeEndedRuns n 2 [.inr (9, 0), .inl (.int (x1 + 1)), .inl .null] [] M) = some res) : rX9_judgeEndedRuns (n + 100) 20 [.inr (9, 0), .inl (.int x1), .inr (1, x2)] [.inl .null] M = some res := uX9_judgeEndedRuns ((gX9_judgeEndedRuns_20e (rX9_judgeEndedRuns n) x1 x2 M).trans h)
def rX9_positionFor (n pc : Nat) (ls st : List am_V) (M : am_M) : am_R := am_run [fX6_kindOf, fX6_doseOf, fX5_canGive] [] 1 am_X0 pX9_positionFor n pc ls st M
def gX9_positionFor (k : Nat → List am_V → List am_V → am_M → am_R) (pc : Nat) (ls st : List am_V) (M : am_M) : am_R := am_go [fX6_kindOf, fX6_doseOf, fX5_canGive] [] 1 am_X0 pX9_positionFor [5, 22, 34, 70] k 100 pc ls st M
theorem uX9_positionFor {n pc : Nat} {ls st : List am_V} {M : am_M} {res : am_O × am_M} (h : gX9_positionFor (rX9_positionFor n) pc ls st M = some res) : rX9_positionFor (n + 100) pc ls st M = some res := am_go_ok h
theorem eX9_positionFor (x1 : Nat) (x2 : Int32) (x3 : Int32) (M : am_M) : fX9_positionFor [.inr (9, 0), .inr (6, x1), .inl (.int x2), .inl (.int x3)] M = rX9_positionFor 100000 0 [.inr (9, 0), .inr (6, x1), .inl (.int x2), .inl (.int x3), am_D, am_D, am_D, am_D] [] M := am_meth_eq rfl rfl
set_option maxRecDepth 20000 in
theorem gX9_positionFor_0 (k : Nat → List am_V → List am_V → am_M → am_R) (x1 : Nat) (x2 : Int32) (x3 : Int32) (M : am_M) : gX9_positionFor k 0 [.inr (9, 0), .inr (6, x1), .inl (.int x2), .inl (.int x3), am_D, am_D, am_D, am_D] [] M =
  am_ret [] 2 [] (k 5 [.inr (9, 0), .inr (6, x1), .inl (.int x2), .inl (.int x3), am_D, am_D, am_D, am_D]) (fX6_kindOf [.inr (6, x1), .inl (.int x2)] M) := (rfl)
theorem eX9_positionFor_0 {n : Nat} {x1 : Nat} {x2 : Int32} {x3 : Int32} {M : am_M} {res : am_O × am_M} (h : (am_ret [] 2 [] (rX9_positionFor n 5 [.inr (9, 0), .inr (6, x1), .inl (.int x2), .inl (.int x3), am_D, am_D, am_D, am_D]) (fX6_kindOf [.inr (6, x1), .inl (.int x2)] M)) = some res) : rX9_positionFor (n + 100) 0 [.inr (9, 0), .inr (6, x1), .inl (.int x2), .inl (.int x3), am_D, am_D, am_D, am_D] [] M = some res := uX9_positionFor ((gX9_positionFor_0 (rX9_positionFor n) x1 x2 x3 M).trans h)
set_option maxRecDepth 20000 in
theorem gX9_positionFor_5 (k : Nat → List am_V → List am_V → am_M → am_R) (x1 : Nat) (x2 : Int32) (x3 : Int32) (y0 : Int32) (M : am_M) : gX9_positionFor k 5 [.inr (9, 0), .inr (6, x1), .inl (.int x2), .inl (.int x3), am_D, am_D, am_D, am_D] [.inl (.int y0)] M =
  if y0 = (-1) then
   some (.inl (some (.inl (.int (-1)))), M)
  else k 22 [.inr (9, 0), .inr (6, x1), .inl (.int x2), .inl (.int x3), .inl (.int y0), .inl (.int (-1)), .inl (.int 0), am_D] [] M := (rfl)
theorem eX9_positionFor_5 {n : Nat} {x1 : Nat} {x2 : Int32} {x3 : Int32} {y0 : Int32} {M : am_M} {res : am_O × am_M} (h : (if y0 = (-1) then
   some (.inl (some (.inl (.int (-1)))), M)
  else rX9_positionFor n 22 [.inr (9, 0), .inr (6, x1), .inl (.int x2), .inl (.int x3), .inl (.int y0), .inl (.int (-1)), .inl (.int 0), am_D] [] M) = some res) : rX9_positionFor (n + 100) 5 [.inr (9, 0), .inr (6, x1), .inl (.int x2), .inl (.int x3), am_D, am_D, am_D, am_D] [.inl (.int y0)] M = some res := uX9_positionFor ((gX9_positionFor_5 (rX9_positionFor n) x1 x2 x3 y0 M).trans h)
set_option maxRecDepth 20000 in
theorem gX9_positionFor_22 (k : Nat → List am_V → List am_V → am_M → am_R) (x1 : Nat) (x2 : Int32) (x3 : Int32) (x4 : Int32) (x5 : Int32) (x6 : Int32) (M : am_M) : gX9_positionFor k 22 [.inr (9, 0), .inr (6, x1), .inl (.int x2), .inl (.int x3), .inl (.int x4), .inl (.int x5), .inl (.int x6), am_D] [] M =
  if 8 ≤ x6 then
   some (.inl (some (.inl (.int x5))), M)
  else am_ret [] 31 [] (k 34 [.inr (9, 0), .inr (6, x1), .inl (.int x2), .inl (.int x3), .inl (.int x4), .inl (.int x5), .inl (.int x6), am_D]) (fX6_doseOf [.inr (6, x1), .inl (.int x2)] M) := (rfl)
theorem eX9_positionFor_22 {n : Nat} {x1 : Nat} {x2 : Int32} {x3 : Int32} {x4 : Int32} {x5 : Int32} {x6 : Int32} {M : am_M} {res : am_O × am_M} (h : (if 8 ≤ x6 then
   some (.inl (some (.inl (.int x5))), M)
  else am_ret [] 31 [] (rX9_positionFor n 34 [.inr (9, 0), .inr (6, x1), .inl (.int x2), .inl (.int x3), .inl (.int x4), .inl (.int x5), .inl (.int x6), am_D]) (fX6_doseOf [.inr (6, x1), .inl (.int x2)] M)) = some res) : rX9_positionFor (n + 100) 22 [.inr (9, 0), .inr (6, x1), .inl (.int x2), .inl (.int x3), .inl (.int x4), .inl (.int x5), .inl (.int x6), am_D] [] M = some res := uX9_positionFor ((gX9_positionFor_22 (rX9_positionFor n) x1 x2 x3 x4 x5 x6 M).trans h)
set_option maxRecDepth 20000 in
theorem gX9_positionFor_34 (k : Nat → List am_V → List am_V → am_M → am_R) (x1 : Nat) (x2 : Int32) (x3 : Int32) (x4 : Int32) (x5 : Int32) (x6 : Int32) (y0 : Int32) (M : am_M) : gX9_positionFor k 34 [.inr (9, 0), .inr (6, x1), .inl (.int x2), .inl (.int x3), .inl (.int x4), .inl (.int x5), .inl (.int x6), am_D] [.inl (.int y0)] M =
  if x6 = x3 then
   if am_in x6 8 then
    am_ret [] 67 [] (k 70 [.inr (9, 0), .inr (6, x1), .inl (.int x2), .inl (.int x3), .inl (.int x4), .inl (.int x5), .inl (.int x6), .inl (.int (y0 + (M 18 x1 2)))]) (fX5_canGive [.inr (5, (Int32.toNatClampNeg x6)), .inl (.int x4), .inl (.int (y0 + (M 18 x1 2))), .inl (.int (M 9 0 8))] M)
   else none
  else if am_in x6 8 then
   am_ret [] 67 [] (k 70 [.inr (9, 0), .inr (6, x1), .inl (.int x2), .inl (.int x3), .inl (.int x4), .inl (.int x5), .inl (.int x6), .inl (.int (y0 + 0))]) (fX5_canGive [.inr (5, (Int32.toNatClampNeg x6)), .inl (.int x4), .inl (.int (y0 + 0)), .inl (.int (M 9 0 8))] M)
  else none := (rfl)
theorem eX9_positionFor_34 {n : Nat} {x1 : Nat} {x2 : Int32} {x3 : Int32} {x4 : Int32} {x5 : Int32} {x6 : Int32} {y0 : Int32} {M : am_M} {res : am_O × am_M} (h : (if x6 = x3 then
   if am_in x6 8 then
    am_ret [] 67 [] (rX9_positionFor n 70 [.inr (9, 0), .inr (6, x1), .inl (.int x2), .inl (.int x3), .inl (.int x4), .inl (.int x5), .inl (.int x6), .inl (.int (y0 + (M 18 x1 2)))]) (fX5_canGive [.inr (5, (Int32.toNatClampNeg x6)), .inl (.int x4), .inl (.int (y0 + (M 18 x1 2))), .inl (.int (M 9 0 8))] M)
   else none
  else if am_in x6 8 then
   am_ret [] 67 [] (rX9_positionFor n 70 [.inr (9, 0), .inr (6, x1), .inl (.int x2), .inl (.int x3), .inl (.int x4), .inl (.int x5), .inl (.int x6), .inl (.int (y0 + 0))]) (fX5_canGive [.inr (5, (Int32.toNatClampNeg x6)), .inl (.int x4), .inl (.int (y0 + 0)), .inl (.int (M 9 0 8))] M)
  else none) = some res) : rX9_positionFor (n + 100) 34 [.inr (9, 0), .inr (6, x1), .inl (.int x2), .inl (.int x3), .inl (.int x4), .inl (.int x5), .inl (.int x6), am_D] [.inl (.int y0)] M = some res := uX9_positionFor ((gX9_positionFor_34 (rX9_positionFor n) x1 x2 x3 x4 x5 x6 y0 M).trans h)
set_option maxRecDepth 20000 in
theorem gX9_positionFor_70 (k : Nat → List am_V → List am_V → am_M → am_R) (x1 : Nat) (x2 : Int32) (x3 : Int32) (x4 : Int32) (x5 : Int32) (x6 : Int32) (x7 : Int32) (y0 : Int32) (M : am_M) : gX9_positionFor k 70 [.inr (9, 0), .inr (6, x1), .inl (.int x2), .inl (.int x3), .inl (.int x4), .inl (.int x5), .inl (.int x6), .inl (.int x7)] [.inl (.int y0)] M =
  if y0 = 0 then
   k 22 [.inr (9, 0), .inr (6, x1), .inl (.int x2), .inl (.int x3), .inl (.int x4), .inl (.int x5), .inl (.int (x6 + 1)), .inl (.int x7)] [] M
  else if x5 = (-1) then
   k 22 [.inr (9, 0), .inr (6, x1), .inl (.int x2), .inl (.int x3), .inl (.int x4), .inl (.int x6), .inl (.int (x6 + 1)), .inl (.int x7)] [] M
  else if am_in x6 8 then
   if am_in x5 8 then
    if (M 5 (Int32.toNatClampNeg x5) 3) ≤ (M 5 (Int32.toNatClampNeg x6) 3) then
     k 22 [.inr (9, 0), .inr (6, x1), .inl (.int x2), .inl (.int x3), .inl (.int x4), .inl (.int x5), .inl (.int (x6 + 1)), .inl (.int x7)] [] M
    else k 22 [.inr (9, 0), .inr (6, x1), .inl (.int x2), .inl (.int x3), .inl (.int x4), .inl (.int x6), .inl (.int (x6 + 1)), .inl (.int x7)] [] M
   else none
  else none := (rfl)
theorem eX9_positionFor_70 {n : Nat} {x1 : Nat} {x2 : Int32} {x3 : Int32} {x4 : Int32} {x5 : Int32} {x6 : Int32} {x7 : Int32} {y0 : Int32} {M : am_M} {res : am_O × am_M} (h : (if y0 = 0 then
   rX9_positionFor n 22 [.inr (9, 0), .inr (6, x1), .inl (.int x2), .inl (.int x3), .inl (.int x4), .inl (.int x5), .inl (.int (x6 + 1)), .inl (.int x7)] [] M
  else if x5 = (-1) then
   rX9_positionFor n 22 [.inr (9, 0), .inr (6, x1), .inl (.int x2), .inl (.int x3), .inl (.int x4), .inl (.int x6), .inl (.int (x6 + 1)), .inl (.int x7)] [] M
  else if am_in x6 8 then
   if am_in x5 8 then
    if (M 5 (Int32.toNatClampNeg x5) 3) ≤ (M 5 (Int32.toNatClampNeg x6) 3) then
     rX9_positionFor n 22 [.inr (9, 0), .inr (6, x1), .inl (.int x2), .inl (.int x3), .inl (.int x4), .inl (.int x5), .inl (.int (x6 + 1)), .inl (.int x7)] [] M
    else rX9_positionFor n 22 [.inr (9, 0), .inr (6, x1), .inl (.int x2), .inl (.int x3), .inl (.int x4), .inl (.int x6), .inl (.int (x6 + 1)), .inl (.int x7)] [] M
   else none
  else none) = some res) : rX9_positionFor (n + 100) 70 [.inr (9, 0), .inr (6, x1), .inl (.int x2), .inl (.int x3), .inl (.int x4), .inl (.int x5), .inl (.int x6), .inl (.int x7)] [.inl (.int y0)] M = some res := uX9_positionFor ((gX9_positionFor_70 (rX9_positionFor n) x1 x2 x3 x4 x5 x6 x7 y0 M).trans h)
set_option maxRecDepth 20000 in
theorem gX9_positionFor_22a (k : Nat → List am_V → List am_V → am_M → am_R) (x1 : Nat) (x2 : Int32) (x3 : Int32) (x4 : Int32) (x5 : Int32) (x6 : Int32) (x7 : Int32) (M : am_M) : gX9_positionFor k 22 [.inr (9, 0), .inr (6, x1), .inl (.int x2), .inl (.int x3), .inl (.int x4), .inl (.int x5), .inl (.int x6), .inl (.int x7)] [] M =
  if 8 ≤ x6 then
   some (.inl (some (.inl (.int x5))), M)
  else am_ret [] 31 [] (k 34 [.inr (9, 0), .inr (6, x1), .inl (.int x2), .inl (.int x3), .inl (.int x4), .inl (.int x5), .inl (.int x6), .inl (.int x7)]) (fX6_doseOf [.inr (6, x1), .inl (.int x2)] M) := (rfl)
theorem eX9_positionFor_22a {n : Nat} {x1 : Nat} {x2 : Int32} {x3 : Int32} {x4 : Int32} {x5 : Int32} {x6 : Int32} {x7 : Int32} {M : am_M} {res : am_O × am_M} (h : (if 8 ≤ x6 then
   some (.inl (some (.inl (.int x5))), M)
  else am_ret [] 31 [] (rX9_positionFor n 34 [.inr (9, 0), .inr (6, x1), .inl (.int x2), .inl (.int x3), .inl (.int x4), .inl (.int x5), .inl (.int x6), .inl (.int x7)]) (fX6_doseOf [.inr (6, x1), .inl (.int x2)] M)) = some res) : rX9_positionFor (n + 100) 22 [.inr (9, 0), .inr (6, x1), .inl (.int x2), .inl (.int x3), .inl (.int x4), .inl (.int x5), .inl (.int x6), .inl (.int x7)] [] M = some res := uX9_positionFor ((gX9_positionFor_22a (rX9_positionFor n) x1 x2 x3 x4 x5 x6 x7 M).trans h)
set_option maxRecDepth 20000 in
theorem gX9_positionFor_34a (k : Nat → List am_V → List am_V → am_M → am_R) (x1 : Nat) (x2 : Int32) (x3 : Int32) (x4 : Int32) (x5 : Int32) (x6 : Int32) (x7 : Int32) (y0 : Int32) (M : am_M) : gX9_positionFor k 34 [.inr (9, 0), .inr (6, x1), .inl (.int x2), .inl (.int x3), .inl (.int x4), .inl (.int x5), .inl (.int x6), .inl (.int x7)] [.inl (.int y0)] M =
  if x6 = x3 then
   if am_in x6 8 then
    am_ret [] 67 [] (k 70 [.inr (9, 0), .inr (6, x1), .inl (.int x2), .inl (.int x3), .inl (.int x4), .inl (.int x5), .inl (.int x6), .inl (.int (y0 + (M 18 x1 2)))]) (fX5_canGive [.inr (5, (Int32.toNatClampNeg x6)), .inl (.int x4), .inl (.int (y0 + (M 18 x1 2))), .inl (.int (M 9 0 8))] M)
   else none
  else if am_in x6 8 then
   am_ret [] 67 [] (k 70 [.inr (9, 0), .inr (6, x1), .inl (.int x2), .inl (.int x3), .inl (.int x4), .inl (.int x5), .inl (.int x6), .inl (.int (y0 + 0))]) (fX5_canGive [.inr (5, (Int32.toNatClampNeg x6)), .inl (.int x4), .inl (.int (y0 + 0)), .inl (.int (M 9 0 8))] M)
  else none := (rfl)
theorem eX9_positionFor_34a {n : Nat} {x1 : Nat} {x2 : Int32} {x3 : Int32} {x4 : Int32} {x5 : Int32} {x6 : Int32} {x7 : Int32} {y0 : Int32} {M : am_M} {res : am_O × am_M} (h : (if x6 = x3 then
   if am_in x6 8 then
    am_ret [] 67 [] (rX9_positionFor n 70 [.inr (9, 0), .inr (6, x1), .inl (.int x2), .inl (.int x3), .inl (.int x4), .inl (.int x5), .inl (.int x6), .inl (.int (y0 + (M 18 x1 2)))]) (fX5_canGive [.inr (5, (Int32.toNatClampNeg x6)), .inl (.int x4), .inl (.int (y0 + (M 18 x1 2))), .inl (.int (M 9 0 8))] M)
   else none
  else if am_in x6 8 then
   am_ret [] 67 [] (rX9_positionFor n 70 [.inr (9, 0), .inr (6, x1), .inl (.int x2), .inl (.int x3), .inl (.int x4), .inl (.int x5), .inl (.int x6), .inl (.int (y0 + 0))]) (fX5_canGive [.inr (5, (Int32.toNatClampNeg x6)), .inl (.int x4), .inl (.int (y0 + 0)), .inl (.int (M 9 0 8))] M)
  else none) = some res) : rX9_positionFor (n + 100) 34 [.inr (9, 0), .inr (6, x1), .inl (.int x2), .inl (.int x3), .inl (.int x4), .inl (.int x5), .inl (.int x6), .inl (.int x7)] [.inl (.int y0)] M = some res := uX9_positionFor ((gX9_positionFor_34a (rX9_positionFor n) x1 x2 x3 x4 x5 x6 x7 y0 M).trans h)
