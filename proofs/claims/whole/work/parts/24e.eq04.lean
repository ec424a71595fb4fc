/-! ===== the runs, piece by piece ===== -/
def rX9_cuvetteOf (n pc : Nat) (ls st : List am_V) (M : am_M) : am_R := am_run [fX9_isWithin] [] 4 am_X0 pX9_cuvetteOf n pc ls st M
def gX9_cuvetteOf (F0 : am_F) (k : Nat → List am_V → List am_V → am_M → am_R) (pc : Nat) (ls st : List am_V) (M : am_M) : am_R := am_go [F0] [] 4 am_X0 pX9_cuvetteOf [10] k 100 pc ls st M
theorem uX9_cuvetteOf {n pc : Nat} {ls st : List am_V} {M : am_M} {res : am_O × am_M} (h : gX9_cuvetteOf fX9_isWithin (rX9_cuvetteOf n) pc ls st M = some res) : rX9_cuvetteOf (n + 100) pc ls st M = some res := am_go_ok h
theorem eX9_cuvetteOf (x1 : Nat) (M : am_M) : fX9_cuvetteOf [.inr (9, 0), .inr (4, x1)] M = rX9_cuvetteOf 100000 0 [.inr (9, 0), .inr (4, x1)] [] M := am_meth_eq rfl rfl
set_option maxRecDepth 20000 in
theorem gX9_cuvetteOf_0 (F0 : am_F) (k : Nat → List am_V → List am_V → am_M → am_R) (x1 : Nat) (M : am_M) : gX9_cuvetteOf F0 k 0 [.inr (9, 0), .inr (4, x1)] [] M =
  am_ret [] 7 [] (k 10 [.inr (9, 0), .inr (4, x1)]) (F0 [.inl (.int (M 4 x1 7)), .inl (.int 0), .inl (.int 9)] M) := (rfl)
theorem eX9_cuvetteOf_0 {n : Nat} {x1 : Nat} {M : am_M} {res : am_O × am_M} (h : (am_ret [] 7 [] (rX9_cuvetteOf n 10 [.inr (9, 0), .inr (4, x1)]) (fX9_isWithin [.inl (.int (M 4 x1 7)), .inl (.int 0), .inl (.int 9)] M)) = some res) : rX9_cuvetteOf (n + 100) 0 [.inr (9, 0), .inr (4, x1)] [] M = some res := uX9_cuvetteOf ((gX9_cuvetteOf_0 fX9_isWithin (rX9_cuvetteOf n) x1 M).trans h)
set_option maxRecDepth 20000 in
theorem gX9_cuvetteOf_10 (F0 : am_F) (k : Nat → List am_V → List am_V → am_M → am_R) (x1 : Nat) (y0 : Int32) (M : am_M) : gX9_cuvetteOf F0 k 10 [.inr (9, 0), .inr (4, x1)] [.inl (.int y0)] M =
  if y0 = 0 then
   some (.inl (some (.inl .null)), M)
  else if am_in (M 4 x1 7) 10 then
   some (.inl (some (.inr (1, (Int32.toNatClampNeg (M 4 x1 7))))), M)
  else none := (rfl)
theorem eX9_cuvetteOf_10 {n : Nat} {x1 : Nat} {y0 : Int32} {M : am_M} {res : am_O × am_M} (h : (if y0 = 0 then
   some (.inl (some (.inl .null)), M)
  else if am_in (M 4 x1 7) 10 then
   some (.inl (some (.inr (1, (Int32.toNatClampNeg (M 4 x1 7))))), M)
  else none) = some res) : rX9_cuvetteOf (n + 100) 10 [.inr (9, 0), .inr (4, x1)] [.inl (.int y0)] M = some res := uX9_cuvetteOf ((gX9_cuvetteOf_10 fX9_isWithin (rX9_cuvetteOf n) x1 y0 M).trans h)
def rX9_takeReadings (n pc : Nat) (ls st : List am_V) (M : am_M) : am_R := am_run [fX9_absorbanceOf, fX9_cuvetteOf, fX6_isReadAt, fX1_addReading] [] 0 am_X0 pX9_takeReadings n pc ls st M
def gX9_takeReadings (F0 F1 F2 F3 : am_F) (k : Nat → List am_V → List am_V → am_M → am_R) (pc : Nat) (ls st : List am_V) (M : am_M) : am_R := am_go [F0, F1, F2, F3] [] 0 am_X0 pX9_takeReadings [7, 10, 28, 54, 62] k 100 pc ls st M
theorem uX9_takeReadings {n pc : Nat} {ls st : List am_V} {M : am_M} {res : am_O × am_M} (h : gX9_takeReadings fX9_absorbanceOf fX9_cuvetteOf fX6_isReadAt fX1_addReading (rX9_takeReadings n) pc ls st M = some res) : rX9_takeReadings (n + 100) pc ls st M = some res := am_go_ok h
theorem eX9_takeReadings (M : am_M) : fX9_takeReadings [.inr (9, 0)] M = rX9_takeReadings 100000 0 [.inr (9, 0), am_D, am_D, am_D] [] M := am_meth_eq rfl rfl
set_option maxRecDepth 20000 in
theorem gX9_takeReadings_0 (F0 F1 F2 F3 : am_F) (k : Nat → List am_V → List am_V → am_M → am_R) (M : am_M) : gX9_takeReadings F0 F1 F2 F3 k 0 [.inr (9, 0), am_D, am_D, am_D] [] M =
  am_ret [] 4 [] (k 7 [.inr (9, 0), am_D, am_D, am_D]) (F0 [.inl (.int (M 9 0 9))] M) := (rfl)
theorem eX9_takeReadings_0 {n : Nat} {M : am_M} {res : am_O × am_M} (h : (am_ret [] 4 [] (rX9_takeReadings n 7 [.inr (9, 0), am_D, am_D, am_D]) (fX9_absorbanceOf [.inl (.int (M 9 0 9))] M)) = some res) : rX9_takeReadings (n + 100) 0 [.inr (9, 0), am_D, am_D, am_D] [] M = some res := uX9_takeReadings ((gX9_takeReadings_0 fX9_absorbanceOf fX9_cuvetteOf fX6_isReadAt fX1_addReading (rX9_takeReadings n) M).trans h)
set_option maxRecDepth 20000 in
theorem gX9_takeReadings_7 (F0 F1 F2 F3 : am_F) (k : Nat → List am_V → List am_V → am_M → am_R) (y0 : Int32) (M : am_M) : gX9_takeReadings F0 F1 F2 F3 k 7 [.inr (9, 0), am_D, am_D, am_D] [.inl (.int y0)] M =
  k 10 [.inr (9, 0), .inl (.int y0), .inl (.int 0), am_D] [] M := (rfl)
theorem eX9_takeReadings_7 {n : Nat} {y0 : Int32} {M : am_M} {res : am_O × am_M} (h : (rX9_takeReadings n 10 [.inr (9, 0), .inl (.int y0), .inl (.int 0), am_D] [] M) = some res) : rX9_takeReadings (n + 100) 7 [.inr (9, 0), am_D, am_D, am_D] [.inl (.int y0)] M = some res := uX9_takeReadings ((gX9_takeReadings_7 fX9_absorbanceOf fX9_cuvetteOf fX6_isReadAt fX1_addReading (rX9_takeReadings n) y0 M).trans h)
set_option maxRecDepth 20000 in
theorem gX9_takeReadings_10 (F0 F1 F2 F3 : am_F) (k : Nat → List am_V → List am_V → am_M → am_R) (x1 : Int32) (x2 : Int32) (x3 : am_V) (M : am_M) : gX9_takeReadings F0 F1 F2 F3 k 10 [.inr (9, 0), .inl (.int x1), .inl (.int x2), x3] [] M =
  if (M 9 0 7) ≤ x2 then
   some (.inl none, M)
  else if am_in x2 40 then
   am_ret [] 25 [] (k 28 [.inr (9, 0), .inl (.int x1), .inl (.int x2), x3]) (F1 [.inr (9, 0), .inr (4, (Int32.toNatClampNeg x2))] M)
  else none := (rfl)
theorem eX9_takeReadings_10 {n : Nat} {x1 : Int32} {x2 : Int32} {x3 : am_V} {M : am_M} {res : am_O × am_M} (h : (if (M 9 0 7) ≤ x2 then
   some (.inl none, M)
  else if am_in x2 40 then
   am_ret [] 25 [] (rX9_takeReadings n 28 [.inr (9, 0), .inl (.int x1), .inl (.int x2), x3]) (fX9_cuvetteOf [.inr (9, 0), .inr (4, (Int32.toNatClampNeg x2))] M)
  else none) = some res) : rX9_takeReadings (n + 100) 10 [.inr (9, 0), .inl (.int x1), .inl (.int x2), x3] [] M = some res := uX9_takeReadings ((gX9_takeReadings_10 fX9_absorbanceOf fX9_cuvetteOf fX6_isReadAt fX1_addReading (rX9_takeReadings n) x1 x2 x3 M).trans h)
set_option maxRecDepth 20000 in
theorem gX9_takeReadings_28 (F0 F1 F2 F3 : am_F) (k : Nat → List am_V → List am_V → am_M → am_R) (x1 : Int32) (x2 : Int32) (x3 : am_V) (y0 : Nat) (M : am_M) : gX9_takeReadings F0 F1 F2 F3 k 28 [.inr (9, 0), .inl (.int x1), .inl (.int x2), x3] [.inr (1, y0)] M =
  if am_in x2 40 then
   if am_in (M 4 (Int32.toNatClampNeg x2) 1) 4 then
    am_ret [] 51 [] (k 54 [.inr (9, 0), .inl (.int x1), .inl (.int x2), .inr (1, y0)]) (F2 [.inr (6, (Int32.toNatClampNeg (M 4 (Int32.toNatClampNeg x2) 1))), .inl (.int (M 1 y0 7))] M)
   else none
  else none := (rfl)
theorem eX9_takeReadings_28 {n : Nat} {x1 : Int32} {x2 : Int32} {x3 : am_V} {y0 : Nat} {M : am_M} {res : am_O × am_M} (h : (if am_in x2 40 then
   if am_in (M 4 (Int32.toNatClampNeg x2) 1) 4 then
    am_ret [] 51 [] (rX9_takeReadings n 54 [.inr (9, 0), .inl (.int x1), .inl (.int x2), .inr (1, y0)]) (fX6_isReadAt [.inr (6, (Int32.toNatClampNeg (M 4 (Int32.toNatClampNeg x2) 1))), .inl (.int (M 1 y0 7))] M)
   else none
  else none) = some res) : rX9_takeReadings (n + 100) 28 [.inr (9, 0), .inl (.int x1), .inl (.int x2), x3] [.inr (1, y0)] M = some res := uX9_takeReadings ((gX9_takeReadings_28 fX9_absorbanceOf fX9_cuvetteOf fX6_isReadAt fX1_addReading (rX9_takeReadings n) x1 x2 x3 y0 M).trans h)
set_option maxRecDepth 20000 in
theorem gX9_takeReadings_28a (F0 F1 F2 F3 : am_F) (k : Nat → List am_V → List am_V → am_M → am_R) (x1 : Int32) (x2 : Int32) (x3 : am_V) (M : am_M) : gX9_takeReadings F0 F1 F2 F3 k 28 [.inr (9, 0), .inl (.int x1), .inl (.int x2), x3] [.inl .null] M =
  k 62 [.inr (9, 0), .inl (.int x1), .inl (.int x2), .inl .null] [] M := (rfl)
theorem eX9_takeReadings_28a {n : Nat} {x1 : Int32} {x2 : Int32} {x3 : am_V} {M : am_M} {res : am_O × am_M} (h : (rX9_takeReadings n 62 [.inr (9, 0), .inl (.int x1), .inl (.int x2), .inl .null] [] M) = some res) : rX9_takeReadings (n + 100) 28 [.inr (9, 0), .inl (.int x1), .inl (.int x2), x3] [.inl .null] M = some res := uX9_takeReadings ((gX9_takeReadings_28a fX9_absorbanceOf fX9_cuvetteOf fX6_isReadAt fX1_addReading (rX9_takeReadings n) x1 x2 x3 M).trans h)
set_option maxRecDepth 20000 in
theorem gX9_takeReadings_54 (F0 F1 F2 F3 : am_F) (k : Nat → List am_V → List am_V → am_M → am_R) (x1 : Int32) (x2 : Int32) (x3 : Nat) (y0 : Int32) (M : am_M) : gX9_takeReadings F0 F1 F2 F3 k 54 [.inr (9, 0), .inl (.int x1), .inl (.int x2), .inr (1, x3)] [.inl (.int y0)] M =
  if y0 = 0 then
   k 62 [.inr (9, 0), .inl (.int x1), .inl (.int x2), .inr (1, x3)] [] M
  else am_ret [] 59 [] (k 62 [.inr (9, 0), .inl (.int x1), .inl (.int x2), .inr (1, x3)]) (F3 [.inr (1, x3), .inl (.int x1)] M) := (rfl)
theorem eX9_takeReadings_54 {n : Nat} {x1 : Int32} {x2 : Int32} {x3 : Nat} {y0 : Int32} {M : am_M} {res : am_O × am_M} (h : (if y0 = 0 then
   rX9_takeReadings n 62 [.inr (9, 0), .inl (.int x1), .inl (.int x2), .inr (1, x3)] [] M
  else am_ret [] 59 [] (rX9_takeReadings n 62 [.inr (9, 0), .inl (.int x1), .inl (.int x2), .inr (1, x3)]) (fX1_addReading [.inr (1, x3), .inl (.int x1)] M)) = some res) : rX9_takeReadings (n + 100) 54 [.inr (9, 0), .inl (.int x1), .inl (.int x2), .inr (1, x3)] [.inl (.int y0)] M = some res := uX9_takeReadings ((gX9_takeReadings_54 fX9_absorbanceOf fX9_cuvetteOf fX6_isReadAt fX1_addReading (rX9_takeReadings n) x1 x2 x3 y0 M).trans h)
set_option maxRecDepth 20000 in
theorem gX9_takeReadings_62 (F0 F1 F2 F3 : am_F) (k : Nat → List am_V → List am_V → am_M → am_R) (x1 : Int32) (x2 : Int32) (M : am_M) : gX9_takeReadings F0 F1 F2 F3 k 62 [.inr (9, 0), .inl (.int x1), .inl (.int x2), .inl .null] [] M =
  k 10 [.inr (9, 0), .inl (.int x1), .inl (.int (x2 + 1)), .inl .null] [] M := (rfl)
theorem eX9_takeReadings_62 {n : Nat} {x1 : Int32} {x2 : Int32} {M : am_M} {res : am_O × am_M} (h : (rX9_takeReadings n 10 [.inr (9, 0), .inl (.int x1), .inl (.int (x2 + 1)), .inl .null] [] M) = some res) : rX9_takeReadings (n + 100) 62 [.inr (9, 0), .inl (.int x1), .inl (.int x2), .inl .null] [] M = some res := uX9_takeReadings ((gX9_takeReadings_62 fX9_absorbanceOf fX9_cuvetteOf fX6_isReadAt fX1_addReading (rX9_takeReadings n) x1 x2 M).trans h)
set_option maxRecDepth 20000 in
theorem gX9_takeReadings_62a (F0 F1 F2 F3 : am_F) (k : Nat → List am_V → List am_V → am_M → am_R) (x1 : Int32) (x2 : Int32) (x3 : Nat) (M : am_M) : gX9_takeReadings F0 F1 F2 F3 k 62 [.inr (9, 0), .inl (.int x1), .inl (.int x2), .inr (1, x3)] [] M =
  k 10 [.inr (9, 0), .inl (.int x1), .inl (.int (x2 + 1)), .inr (1, x3)] [] M := (rfl)
theorem eX9_takeReadings_62a {n : Nat} {x1 : Int32} {x2 : Int32} {x3 : Nat} {M : am_M} {res : am_O × am_M} (h : (rX9_takeReadings n 10 [.inr (9, 0), .inl (.int x1), .inl (.int (x2 + 1)), .inr (1, x3)] [] M) = some res) : rX9_takeReadings (n + 100) 62 [.inr (9, 0), .inl (.int x1), .inl (.int x2), .inr (1, x3)] [] M = some res := uX9_takeReadings ((gX9_takeReadings_62a fX9_absorbanceOf fX9_cuvetteOf fX6_isReadAt fX1_addReading (rX9_takeReadings n) x1 x2 x3 M).trans h)
def rJ9_min_f86c9 (n pc : Nat) (ls st : List am_V) (M : am_M) : am_R := am_run [] [] 3 am_X0 pJ9_min_f86c9 n pc ls st M
def gJ9_min_f86c9 (k : Nat → List am_V → List am_V → am_M → am_R) (pc : Nat) (ls st : List am_V) (M : am_M) : am_R := am_go [] [] 3 am_X0 pJ9_min_f86c9 [] k 100 pc ls st M
theorem uJ9_min_f86c9 {n pc : Nat} {ls st : List am_V} {M : am_M} {res : am_O × am_M} (h : gJ9_min_f86c9 (rJ9_min_f86c9 n) pc ls st M = some res) : rJ9_min_f86c9 (n + 100) pc ls st M = some res := am_go_ok h
theorem eJ9_min_f86c9 (x0 : Int64) (x1 : Int64) (M : am_M) : fJ9_min_f86c9 [.inl (.long x0), .inl (.long x1)] M = rJ9_min_f86c9 100000 0 [.inl (.long x0), am_D, .inl (.long x1), am_D] [] M := am_meth_eq rfl rfl
set_option maxRecDepth 20000 in
theorem gJ9_min_f86c9_0 (k : Nat → List am_V → List am_V → am_M → am_R) (x0 : Int64) (x2 : Int64) (M : am_M) : gJ9_min_f86c9 k 0 [.inl (.long x0), am_D, .inl (.long x2), am_D] [] M =
  if 0 < (lg_cmp x0 x2) then
   some (.inl (some (.inl (.long x2))), M)
  else some (.inl (some (.inl (.long x0))), M) := (rfl)
theorem eJ9_min_f86c9_0 {n : Nat} {x0 : Int64} {x2 : Int64} {M : am_M} {res : am_O × am_M} (h : (if 0 < (lg_cmp x0 x2) then
   some (.inl (some (.inl (.long x2))), M)
  else some (.inl (some (.inl (.long x0))), M)) = some res) : rJ9_min_f86c9 (n + 100) 0 [.inl (.long x0), am_D, .inl (.long x2), am_D] [] M = some res := uJ9_min_f86c9 ((gJ9_min_f86c9_0 (rJ9_min_f86c9 n) x0 x2 M).trans h)
def rJ9_max_f86c9 (n pc : Nat) (ls st : List am_V) (M : am_M) : am_R := am_run [] [] 3 am_X0 pJ9_max_f86c9 n pc ls st M
def gJ9_max_f86c9 (k : Nat → List am_V → List am_V → am_M → am_R) (pc : Nat) (ls st : List am_V) (M : am_M) : am_R := am_go [] [] 3 am_X0 pJ9_max_f86c9 [] k 100 pc ls st M
theorem uJ9_max_f86c9 {n pc : Nat} {ls st : List am_V} {M : am_M} {res : am_O × am_M} (h : gJ9_max_f86c9 (rJ9_max_f86c9 n) pc ls st M = some res) : rJ9_max_f86c9 (n + 100) pc ls st M = some res := am_go_ok h
theorem eJ9_max_f86c9 (x0 : Int64) (x1 : Int64) (M : am_M) : fJ9_max_f86c9 [.inl (.long x0), .inl (.long x1)] M = rJ9_max_f86c9 100000 0 [.inl (.long x0), am_D, .inl (.long x1), am_D] [] M := am_meth_eq rfl rfl
set_option maxRecDepth 20000 in
theorem gJ9_max_f86c9_0 (k : Nat → List am_V → List am_V → am_M → am_R) (x0 : Int64) (x2 : Int64) (M : am_M) : gJ9_max_f86c9 k 0 [.inl (.long x0), am_D, .inl (.long x2), am_D] [] M =
  if (lg_cmp x0 x2) < 0 then
   some (.inl (some (.inl (.long x2))), M)
  else some (.inl (some (.inl (.long x0))), M) := (rfl)
theorem eJ9_max_f86c9_0 {n : Nat} {x0 : Int64} {x2 : Int64} {M : am_M} {res : am_O × am_M} (h : (if (lg_cmp x0 x2) < 0 then
   some (.inl (some (.inl (.long x2))), M)
  else some (.inl (some (.inl (.long x0))), M)) = some res) : rJ9_max_f86c9 (n + 100) 0 [.inl (.long x0), am_D, .inl (.long x2), am_D] [] M = some res := uJ9_max_f86c9 ((gJ9_max_f86c9_0 (rJ9_max_f86c9 n) x0 x2 M).trans h)
def rX9_limited (n pc : Nat) (ls st : List am_V) (M : am_M) : am_R := am_run [fJ9_min_f86c9, fJ9_max_f86c9] [] 1 am_X0 pX9_limited n pc ls st M
def gX9_limited (F0 F1 : am_F) (k : Nat → List am_V → List am_V → am_M → am_R) (pc : Nat) (ls st : List am_V) (M : am_M) : am_R := am_go [F0, F1] [] 1 am_X0 pX9_limited [10, 13] k 100 pc ls st M
theorem uX9_limited {n pc : Nat} {ls st : List am_V} {M : am_M} {res : am_O × am_M} (h : gX9_limited fJ9_min_f86c9 fJ9_max_f86c9 (rX9_limited n) pc ls st M = some res) : rX9_limited (n + 100) pc ls st M = some res := am_go_ok h
theorem eX9_limited (x0 : Int64) (M : am_M) : fX9_limited [.inl (.long x0)] M = rX9_limited 100000 0 [.inl (.long x0), am_D] [] M := am_meth_eq rfl rfl
set_option maxRecDepth 20000 in
theorem gX9_limited_0 (F0 F1 : am_F) (k : Nat → List am_V → List am_V → am_M → am_R) (x0 : Int64) (M : am_M) : gX9_limited F0 F1 k 0 [.inl (.long x0), am_D] [] M =
  am_ret [] 7 [.inl (.long (-1000000000))] (k 10 [.inl (.long x0), am_D]) (F0 [.inl (.long 1000000000), .inl (.long x0)] M) := (rfl)
theorem eX9_limited_0 {n : Nat} {x0 : Int64} {M : am_M} {res : am_O × am_M} (h : (am_ret [] 7 [.inl (.long (-1000000000))] (rX9_limited n 10 [.inl (.long x0), am_D]) (fJ9_min_f86c9 [.inl (.long 1000000000), .inl (.long x0)] M)) = some res) : rX9_limited (n + 100) 0 [.inl (.long x0), am_D] [] M = some res := uX9_limited ((gX9_limited_0 fJ9_min_f86c9 fJ9_max_f86c9 (rX9_limited n) x0 M).trans h)
set_option maxRecDepth 20000 in
theorem gX9_limited_10 (F0 F1 : am_F) (k : Nat → List am_V → List am_V → am_M → am_R) (x0 : Int64) (y0 : Int64) (y1 : Int64) (M : am_M) : gX9_limited F0 F1 k 10 [.inl (.long x0), am_D] [.inl (.long y0), .inl (.long y1)] M =
  am_ret [] 10 [] (k 13 [.inl (.long x0), am_D]) (F1 [.inl (.long y1), .inl (.long y0)] M) := (rfl)
theorem eX9_limited_10 {n : Nat} {x0 : Int64} {y0 : Int64} {y1 : Int64} {M : am_M} {res : am_O × am_M} (h : (am_ret [] 10 [] (rX9_limited n 13 [.inl (.long x0), am_D]) (fJ9_max_f86c9 [.inl (.long y1), .inl (.long y0)] M)) = some res) : rX9_limited (n + 100) 10 [.inl (.long x0), am_D] [.inl (.long y0), .inl (.long y1)] M = some res := uX9_limited ((gX9_limited_10 fJ9_min_f86c9 fJ9_max_f86c9 (rX9_limited n) x0 y0 y1 M).trans h)
set_option maxRecDepth 20000 in
theorem gX9_limited_13 (F0 F1 : am_F) (k : Nat → List am_V → List am_V → am_M → am_R) (x0 : Int64) (y0 : Int64) (M : am_M) : gX9_limited F0 F1 k 13 [.inl (.long x0), am_D] [.inl (.long y0)] M =
  some (.inl (some (.inl (.int (Int64.toInt32 y0)))), M) := (rfl)
theorem eX9_limited_13 {n : Nat} {x0 : Int64} {y0 : Int64} {M : am_M} {res : am_O × am_M} (h : (some (.inl (some (.inl (.int (Int64.toInt32 y0)))), M)) = some res) : rX9_limited (n + 100) 13 [.inl (.long x0), am_D] [.inl (.long y0)] M = some res := uX9_limited ((gX9_limited_13 fJ9_min_f86c9 fJ9_max_f86c9 (rX9_limited n) x0 y0 M).trans h)
def rX9_judge (n pc : Nat) (ls st : List am_V) (M : am_M) : am_R := am_run [fX6_formulaOf, fX6_valueAt, fX9_limited, fX6_limitFlags, fX4_runFlags, fX1_sendToWash, fX6_asksAgain, fX6_dilutes, fX4_waitAgain, fX4_release, fX3_append, fX2_append] [] 0 am_X0 pX9_judge n pc ls st M
def gX9_judge (F0 F1 F2 F3 F4 F5 F6 F7 F8 F9 : am_F) (k : Nat → List am_V → List am_V → am_M → am_R) (pc : Nat) (ls st : List am_V) (M : am_M) : am_R := am_go [F0, F1, F2, F3, F4, fX1_sendToWash, F5, F6, F7, fX4_release, F8, F9] [] 0 am_X0 pX9_judge [37, 50, 57, 66, 70, 112, 121, 124, 141, 156] k 100 pc ls st M
theorem uX9_judge {n pc : Nat} {ls st : List am_V} {M : am_M} {res : am_O × am_M} (h : gX9_judge fX6_formulaOf fX6_valueAt fX9_limited fX6_limitFlags fX4_runFlags fX6_asksAgain fX6_dilutes fX4_waitAgain fX3_append fX2_append (rX9_judge n) pc ls st M = some res) : rX9_judge (n + 100) pc ls st M = some res := am_go_ok h
theorem eX9_judge (x1 : Int32) (x2 : Nat) (M : am_M) : fX9_judge [.inr (9, 0), .inl (.int x1), .inr (1, x2)] M = rX9_judge 100000 0 [.inr (9, 0), .inl (.int x1), .inr (1, x2), am_D, am_D, am_D, am_D, am_D, am_D, am_D, am_D, am_D] [] M := am_meth_eq rfl rfl
set_option maxRecDepth 20000 in
theorem gX9_judge_0 (F0 F1 F2 F3 F4 F5 F6 F7 F8 F9 : am_F) (k : Nat → List am_V → List am_V → am_M → am_R) (x1 : Int32) (x2 : Nat) (M : am_M) : gX9_judge F0 F1 F2 F3 F4 F5 F6 F7 F8 F9 k 0 [.inr (9, 0), .inl (.int x1), .inr (1, x2), am_D, am_D, am_D, am_D, am_D, am_D, am_D, am_D, am_D] [] M =
  if am_in x1 40 then
   if am_in (M 4 (Int32.toNatClampNeg x1) 1) 4 then
    am_ret [] 34 [] (k 37 [.inr (9, 0), .inl (.int x1), .inr (1, x2), .inr (4, (Int32.toNatClampNeg x1)), .inr (6, (Int32.toNatClampNeg (M 4 (Int32.toNatClampNeg x1) 1))), .inl (.int (am_b (M 1 x2 6))), am_D, am_D, am_D, am_D, am_D, am_D]) (F0 [.inr (6, (Int32.toNatClampNeg (M 4 (Int32.toNatClampNeg x1) 1))), .inr (13, x2), .inl (.int (M 1 x2 1))] M)
   else none
  else none := (rfl)
theorem eX9_judge_0 {n : Nat} {x1 : Int32} {x2 : Nat} {M : am_M} {res : am_O × am_M} (h : (if am_in x1 40 then
   if am_in (M 4 (Int32.toNatClampNeg x1) 1) 4 then
    am_ret [] 34 [] (rX9_judge n 37 [.inr (9, 0), .inl (.int x1), .inr (1, x2), .inr (4, (Int32.toNatClampNeg x1)), .inr (6, (Int32.toNatClampNeg (M 4 (Int32.toNatClampNeg x1) 1))), .inl (.int (am_b (M 1 x2 6))), am_D, am_D, am_D, am_D, am_D, am_D]) (fX6_formulaOf [.inr (6, (Int32.toNatClampNeg (M 4 (Int32.toNatClampNeg x1) 1))), .inr (13, x2), .inl (.int (M 1 x2 1))] M)
   else none
  else none) = some res) : rX9_judge (n + 100) 0 [.inr (9, 0), .inl (.int x1), .inr (1, x2), am_D, am_D, am_D, am_D, am_D, am_D, am_D, am_D, am_D] [] M = some res := uX9_judge ((gX9_judge_0 fX6_formulaOf fX6_valueAt fX9_limited fX6_limitFlags fX4_runFlags fX6_asksAgain fX6_dilutes fX4_waitAgain fX3_append fX2_append (rX9_judge n) x1 x2 M).trans h)
set_option maxRecDepth 20000 in
theorem gX9_judge_37 (F0 F1 F2 F3 F4 F5 F6 F7 F8 F9 : am_F) (k : Nat → List am_V → List am_V → am_M → am_R) (x1 : Int32) (x2 : Nat) (x3 : Nat) (x4 : Nat) (x5 : Int32) (y0 : Int64) (M : am_M) : gX9_judge F0 F1 F2 F3 F4 F5 F6 F7 F8 F9 k 37 [.inr (9, 0), .inl (.int x1), .inr (1, x2), .inr (4, x3), .inr (6, x4), .inl (.int x5), am_D, am_D, am_D, am_D, am_D, am_D] [.inl (.long y0)] M =
  am_ret [] 47 [] (k 50 [.inr (9, 0), .inl (.int x1), .inr (1, x2), .inr (4, x3), .inr (6, x4), .inl (.int x5), .inl (.long y0), am_D, am_D, am_D, am_D, am_D]) (F1 [.inr (6, x4), .inl (.long y0), .inl (.int (am_b (M 4 x3 6)))] M) := (rfl)
theorem eX9_judge_37 {n : Nat} {x1 : Int32} {x2 : Nat} {x3 : Nat} {x4 : Nat} {x5 : Int32} {y0 : Int64} {M : am_M} {res : am_O × am_M} (h : (am_ret [] 47 [] (rX9_judge n 50 [.inr (9, 0), .inl (.int x1), .inr (1, x2), .inr (4, x3), .inr (6, x4), .inl (.int x5), .inl (.long y0), am_D, am_D, am_D, am_D, am_D]) (fX6_valueAt [.inr (6, x4), .inl (.long y0), .inl (.int (am_b (M 4 x3 6)))] M)) = some res) : rX9_judge (n + 100) 37 [.inr (9, 0), .inl (.int x1), .inr (1, x2), .inr (4, x3), .inr (6, x4), .inl (.int x5), am_D, am_D, am_D, am_D, am_D, am_D] [.inl (.long y0)] M = some res := uX9_judge ((gX9_judge_37 fX6_formulaOf fX6_valueAt fX9_limited fX6_limitFlags fX4_runFlags fX6_asksAgain fX6_dilutes fX4_waitAgain fX3_append fX2_append (rX9_judge n) x1 x2 x3 x4 x5 y0 M).trans h)
set_option maxRecDepth 20000 in
theorem gX9_judge_50 (F0 F1 F2 F3 F4 F5 F6 F7 F8 F9 : am_F) (k : Nat → List am_V → List am_V → am_M → am_R) (x1 : Int32) (x2 : Nat) (x3 : Nat) (x4 : Nat) (x5 : Int32) (x6 : Int64) (y0 : Int64) (M : am_M) : gX9_judge F0 F1 F2 F3 F4 F5 F6 F7 F8 F9 k 50 [.inr (9, 0), .inl (.int x1), .inr (1, x2), .inr (4, x3), .inr (6, x4), .inl (.int x5), .inl (.long x6), am_D, am_D, am_D, am_D, am_D] [.inl (.long y0)] M =
  am_ret [] 54 [] (k 57 [.inr (9, 0), .inl (.int x1), .inr (1, x2), .inr (4, x3), .inr (6, x4), .inl (.int x5), .inl (.long x6), am_D, .inl (.long y0), am_D, am_D, am_D]) (F2 [.inl (.long y0)] M) := (rfl)
theorem eX9_judge_50 {n : Nat} {x1 : Int32} {x2 : Nat} {x3 : Nat} {x4 : Nat} {x5 : Int32} {x6 : Int64} {y0 : Int64} {M : am_M} {res : am_O × am_M} (h : (am_ret [] 54 [] (rX9_judge n 57 [.inr (9, 0), .inl (.int x1), .inr (1, x2), .inr (4, x3), .inr (6, x4), .inl (.int x5), .inl (.long x6), am_D, .inl (.long y0), am_D, am_D, am_D]) (fX9_limited [.inl (.long y0)] M)) = some res) : rX9_judge (n + 100) 50 [.inr (9, 0), .inl (.int x1), .inr (1, x2), .inr (4, x3), .inr (6, x4), .inl (.int x5), .inl (.long x6), am_D, am_D, am_D, am_D, am_D] [.inl (.long y0)] M = some res := uX9_judge ((gX9_judge_50 fX6_formulaOf fX6_valueAt fX9_limited fX6_limitFlags fX4_runFlags fX6_asksAgain fX6_dilutes fX4_waitAgain fX3_append fX2_append (rX9_judge n) x1 x2 x3 x4 x5 x6 y0 M).trans h)
set_option maxRecDepth 20000 in
theorem gX9_judge_57 (F0 F1 F2 F3 F4 F5 F6 F7 F8 F9 : am_F) (k : Nat → List am_V → List am_V → am_M → am_R) (x1 : Int32) (x2 : Nat) (x3 : Nat) (x4 : Nat) (x5 : Int32) (x6 : Int64) (x8 : Int64) (y0 : Int32) (M : am_M) : gX9_judge F0 F1 F2 F3 F4 F5 F6 F7 F8 F9 k 57 [.inr (9, 0), .inl (.int x1), .inr (1, x2), .inr (4, x3), .inr (6, x4), .inl (.int x5), .inl (.long x6), am_D, .inl (.long x8), am_D, am_D, am_D] [.inl (.int y0)] M =
  am_ret [] 63 [] (k 66 [.inr (9, 0), .inl (.int x1), .inr (1, x2), .inr (4, x3), .inr (6, x4), .inl (.int x5), .inl (.long x6), am_D, .inl (.long x8), am_D, .inl (.int y0), am_D]) (F3 [.inr (6, x4), .inl (.int y0)] M) := (rfl)
theorem eX9_judge_57 {n : Nat} {x1 : Int32} {x2 : Nat} {x3 : Nat} {x4 : Nat} {x5 : Int32} {x6 : Int64} {x8 : Int64} {y0 : Int32} {M : am_M} {res : am_O × am_M} (h : (am_ret [] 63 [] (rX9_judge n 66 [.inr (9, 0), .inl (.int x1), .inr (1, x2), .inr (4, x3), .inr (6, x4), .inl (.int x5), .inl (.long x6), am_D, .inl (.long x8), am_D, .inl (.int y0), am_D]) (fX6_limitFlags [.inr (6, x4), .inl (.int y0)] M)) = some res) : rX9_judge (n + 100) 57 [.inr (9, 0), .inl (.int x1), .inr (1, x2), .inr (4, x3), .inr (6, x4), .inl (.int x5), .inl (.long x6), am_D, .inl (.long x8), am_D, am_D, am_D] [.inl (.int y0)] M = some res := uX9_judge ((gX9_judge_57 fX6_formulaOf fX6_valueAt fX9_limited fX6_limitFlags fX4_runFlags fX6_asksAgain fX6_dilutes fX4_waitAgain fX3_append fX2_append (rX9_judge n) x1 x2 x3 x4 x5 x6 x8 y0 M).trans h)
set_option maxRecDepth 20000 in
theorem gX9_judge_66 (F0 F1 F2 F3 F4 F5 F6 F7 F8 F9 : am_F) (k : Nat → List am_V → List am_V → am_M → am_R) (x1 : Int32) (x2 : Nat) (x3 : Nat) (x4 : Nat) (x5 : Int32) (x6 : Int64) (x8 : Int64) (x10 : Int32) (y0 : Int32) (M : am_M) : gX9_judge F0 F1 F2 F3 F4 F5 F6 F7 F8 F9 k 66 [.inr (9, 0), .inl (.int x1), .inr (1, x2), .inr (4, x3), .inr (6, x4), .inl (.int x5), .inl (.long x6), am_D, .inl (.long x8), am_D, .inl (.int x10), am_D] [.inl (.int y0)] M =
  am_ret [] 67 [.inl (.int y0)] (k 70 [.inr (9, 0), .inl (.int x1), .inr (1, x2), .inr (4, x3), .inr (6, x4), .inl (.int x5), .inl (.long x6), am_D, .inl (.long x8), am_D, .inl (.int x10), am_D]) (F4 [.inr (4, x3)] M) := (rfl)
theorem eX9_judge_66 {n : Nat} {x1 : Int32} {x2 : Nat} {x3 : Nat} {x4 : Nat} {x5 : Int32} {x6 : Int64} {x8 : Int64} {x10 : Int32} {y0 : Int32} {M : am_M} {res : am_O × am_M} (h : (am_ret [] 67 [.inl (.int y0)] (rX9_judge n 70 [.inr (9, 0), .inl (.int x1), .inr (1, x2), .inr (4, x3), .inr (6, x4), .inl (.int x5), .inl (.long x6), am_D, .inl (.long x8), am_D, .inl (.int x10), am_D]) (fX4_runFlags [.inr (4, x3)] M)) = some res) : rX9_judge (n + 100) 66 [.inr (9, 0), .inl (.int x1), .inr (1, x2), .inr (4, x3), .inr (6, x4), .inl (.int x5), .inl (.long x6), am_D, .inl (.long x8), am_D, .inl (.int x10), am_D] [.inl (.int y0)] M = some res := uX9_judge ((gX9_judge_66 fX6_formulaOf fX6_valueAt fX9_limited fX6_limitFlags fX4_runFlags fX6_asksAgain fX6_dilutes fX4_waitAgain fX3_append fX2_append (rX9_judge n) x1 x2 x3 x4 x5 x6 x8 x10 y0 M).trans h)
set_option maxRecDepth 20000 in
theorem gX9_judge_70 (F0 F1 F2 F3 F4 F5 F6 F7 F8 F9 : am_F) (k : Nat → List am_V → List am_V → am_M → am_R) (x1 : Int32) (x2 : Nat) (x3 : Nat) (x4 : Nat) (x5 : Int32) (x6 : Int64) (x8 : Int64) (x10 : Int32) (y0 : Int32) (y1 : Int32) (M : am_M) : gX9_judge F0 F1 F2 F3 F4 F5 F6 F7 F8 F9 k 70 [.inr (9, 0), .inl (.int x1), .inr (1, x2), .inr (4, x3), .inr (6, x4), .inl (.int x5), .inl (.long x6), am_D, .inl (.long x8), am_D, .inl (.int x10), am_D] [.inl (.int y0), .inl (.int y1)] M =
  if (lg_cmp (Int32.toInt64 x10) x8) = 0 then
   if x5 = 0 then
    if (M 4 x3 5) = 1 then
     am_ret [] 109 [] (k 112 [.inr (9, 0), .inl (.int x1), .inr (1, x2), .inr (4, x3), .inr (6, x4), .inl (.int x5), .inl (.long x6), am_D, .inl (.long x8), am_D, .inl (.int x10), .inl (.int ((y1 ||| y0) ||| 0))]) (F5 [.inr (6, x4), .inl (.int ((y1 ||| y0) ||| 0))] (am_put (am_put (am_put M 1 x2 5 (-1)) 1 x2 9 0) 1 x2 8 3))
    else am_ret [] 138 [] (k 141 [.inr (9, 0), .inl (.int x1), .inr (1, x2), .inr (4, x3), .inr (6, x4), .inl (.int x5), .inl (.long x6), am_D, .inl (.long x8), am_D, .inl (.int x10), .inl (.int ((y1 ||| y0) ||| 0))]) (F8 [.inr (3, 0), .inl (.int x1)] (am_put (am_put (am_put (am_put (am_put (am_put (am_put M 1 x2 5 (-1)) 1 x2 9 0) 1 x2 8 3) 4 x3 3 2) 4 x3 7 (-1)) 4 x3 8 x10) 4 x3 9 ((y1 ||| y0) ||| 0)))
   else am_ret [] 138 [] (k 141 [.inr (9, 0), .inl (.int x1), .inr (1, x2), .inr (4, x3), .inr (6, x4), .inl (.int x5), .inl (.long x6), am_D, .inl (.long x8), am_D, .inl (.int x10), .inl (.int ((y1 ||| y0) ||| 0))]) (F8 [.inr (3, 0), .inl (.int x1)] (am_put (am_put (am_put (am_put (am_put (am_put (am_put M 1 x2 5 (-1)) 1 x2 9 0) 1 x2 8 3) 4 x3 3 2) 4 x3 7 (-1)) 4 x3 8 x10) 4 x3 9 ((y1 ||| y0) ||| 0)))
  else if x5 = 0 then
   if (M 4 x3 5) = 1 then
    am_ret [] 109 [] (k 112 [.inr (9, 0), .inl (.int x1), .inr (1, x2), .inr (4, x3), .inr (6, x4), .inl (.int x5), .inl (.long x6), am_D, .inl (.long x8), am_D, .inl (.int x10), .inl (.int ((y1 ||| y0) ||| 4))]) (F5 [.inr (6, x4), .inl (.int ((y1 ||| y0) ||| 4))] (am_put (am_put (am_put M 1 x2 5 (-1)) 1 x2 9 0) 1 x2 8 3))
   else am_ret [] 138 [] (k 141 [.inr (9, 0), .inl (.int x1), .inr (1, x2), .inr (4, x3), .inr (6, x4), .inl (.int x5), .inl (.long x6), am_D, .inl (.long x8), am_D, .inl (.int x10), .inl (.int ((y1 ||| y0) ||| 4))]) (F8 [.inr (3, 0), .inl (.int x1)] (am_put (am_put (am_put (am_put (am_put (am_put (am_put M 1 x2 5 (-1)) 1 x2 9 0) 1 x2 8 3) 4 x3 3 2) 4 x3 7 (-1)) 4 x3 8 x10) 4 x3 9 ((y1 ||| y0) ||| 4)))
  else am_ret [] 138 [] (k 141 [.inr (9, 0), .inl (.int x1), .inr (1, x2), .inr (4, x3), .inr (6, x4), .inl (.int x5), .inl (.long x6), am_D, .inl (.long x8), am_D, .inl (.int x10), .inl (.int ((y1 ||| y0) ||| 4))]) (F8 [.inr (3, 0), .inl (.int x1)] (am_put (am_put (am_put (am_put (am_put (am_put (am_put M 1 x2 5 (-1)) 1 x2 9 0) 1 x2 8 3) 4 x3 3 2) 4 x3 7 (-1)) 4 x3 8 x10) 4 x3 9 ((y1 ||| y0) ||| 4))) := (rfl)
theorem eX9_judge_70 {n : Nat} {x1 : Int32} {x2 : Nat} {x3 : Nat} {x4 : Nat} {x5 : Int32} {x6 : Int64} {x8 : Int64} {x10 : Int32} {y0 : Int32} {y1 : Int32} {M : am_M} {res : am_O × am_M} (h : (if (lg_cmp (Int32.toInt64 x10) x8) = 0 then
   if x5 = 0 then
    if (M 4 x3 5) = 1 then
     am_ret [] 109 [] (rX9_judge n 112 [.inr (9, 0), .inl (.int x1), .inr (1, x2), .inr (4, x3), .inr (6, x4), .inl (.int x5), .inl (.long x6), am_D, .inl (.long x8), am_D, .inl (.int x10), .inl (.int ((y1 ||| y0) ||| 0))]) (fX6_asksAgain [.inr (6, x4), .inl (.int ((y1 ||| y0) ||| 0))] (am_put (am_put (am_put M 1 x2 5 (-1)) 1 x2 9 0) 1 x2 8 3))
    else am_ret [] 138 [] (rX9_judge n 141 [.inr (9, 0), .inl (.int x1), .inr (1, x2), .inr (4, x3), .inr (6, x4), .inl (.int x5), .inl (.long x6), am_D, .inl (.long x8), am_D, .inl (.int x10), .inl (.int ((y1 ||| y0) ||| 0))]) (fX3_append [.inr (3, 0), .inl (.int x1)] (am_put (am_put (am_put (am_put (am_put (am_put (am_put M 1 x2 5 (-1)) 1 x2 9 0) 1 x2 8 3) 4 x3 3 2) 4 x3 7 (-1)) 4 x3 8 x10) 4 x3 9 ((y1 ||| y0) ||| 0)))
   else am_ret [] 138 [] (rX9_judge n 141 [.inr (9, 0), .inl (.int x1), .inr (1, x2), .inr (4, x3), .inr (6, x4), .inl (.int x5), .inl (.long x6), am_D, .inl (.long x8), am_D, .inl (.int x10), .inl (.int ((y1 ||| y0) ||| 0))]) (fX3_append [.inr (3, 0), .inl (.int x1)] (am_put (am_put (am_put (am_put (am_put (am_put (am_put M 1 x2 5 (-1)) 1 x2 9 0) 1 x2 8 3) 4 x3 3 2) 4 x3 7 (-1)) 4 x3 8 x10) 4 x3 9 ((y1 ||| y0) ||| 0)))
  else if x5 = 0 then
   if (M 4 x3 5) = 1 then
    am_ret [] 109 [] (rX9_judge n 112 [.inr (9, 0), .inl (.int x1), .inr (1, x2), .inr (4, x3), .inr (6, x4), .inl (.int x5), .inl (.long x6), am_D, .inl (.long x8), am_D, .inl (.int x10), .inl (.int ((y1 ||| y0) ||| 4))]) (fX6_asksAgain [.inr (6, x4), .inl (.int ((y1 ||| y0) ||| 4))] (am_put (am_put (am_put M 1 x2 5 (-1)) 1 x2 9 0) 1 x2 8 3))
   else am_ret [] 138 [] (rX9_judge n 141 [.inr (9, 0), .inl (.int x1), .inr (1, x2), .inr (4, x3), .inr (6, x4), .inl (.int x5), .inl (.long x6), am_D, .inl (.long x8), am_D, .inl (.int x10), .inl (.int ((y1 ||| y0) ||| 4))]) (fX3_append [.inr (3, 0), .inl (.int x1)] (am_put (am_put (am_put (am_put (am_put (am_put (am_put M 1 x2 5 (-1)) 1 x2 9 0) 1 x2 8 3) 4 x3 3 2) 4 x3 7 (-1)) 4 x3 8 x10) 4 x3 9 ((y1 ||| y0) ||| 4)))
  else am_ret [] 138 [] (rX9_judge n 141 [.inr (9, 0), .inl (.int x1), .inr (1, x2), .inr (4, x3), .inr (6, x4), .inl (.int x5), .inl (.long x6), am_D, .inl (.long x8), am_D, .inl (.int x10), .inl (.int ((y1 ||| y0) ||| 4))]) (fX3_append [.inr (3, 0), .inl (.int x1)] (am_put (am_put (am_put (am_put (am_put (am_put (am_put M 1 x2 5 (-1)) 1 x2 9 0) 1 x2 8 3) 4 x3 3 2) 4 x3 7 (-1)) 4 x3 8 x10) 4 x3 9 ((y1 ||| y0) ||| 4)))) = some res) : rX9_judge (n + 100) 70 [.inr (9, 0), .inl (.int x1), .inr (1, x2), .inr (4, x3), .inr (6, x4), .inl (.int x5), .inl (.long x6), am_D, .inl (.long x8), am_D, .inl (.int x10), am_D] [.inl (.int y0), .inl (.int y1)] M = some res := uX9_judge ((gX9_judge_70 fX6_formulaOf fX6_valueAt fX9_limited fX6_limitFlags fX4_runFlags fX6_asksAgain fX6_dilutes fX4_waitAgain fX3_append fX2_append (rX9_judge n) x1 x2 x3 x4 x5 x6 x8 x10 y0 y1 M).trans h)
set_option maxRecDepth 20000 in
theorem gX9_judge_112 (F0 F1 F2 F3 F4 F5 F6 F7 F8 F9 : am_F) (k : Nat → List am_V → List am_V → am_M → am_R) (x1 : Int32) (x2 : Nat) (x3 : Nat) (x4 : Nat) (x5 : Int32) (x6 : Int64) (x8 : Int64) (x10 : Int32) (x11 : Int32) (y0 : Int32) (M : am_M) : gX9_judge F0 F1 F2 F3 F4 F5 F6 F7 F8 F9 k 112 [.inr (9, 0), .inl (.int x1), .inr (1, x2), .inr (4, x3), .inr (6, x4), .inl (.int x5), .inl (.long x6), am_D, .inl (.long x8), am_D, .inl (.int x10), .inl (.int x11)] [.inl (.int y0)] M =
  if y0 = 0 then
   am_ret [] 138 [] (k 141 [.inr (9, 0), .inl (.int x1), .inr (1, x2), .inr (4, x3), .inr (6, x4), .inl (.int x5), .inl (.long x6), am_D, .inl (.long x8), am_D, .inl (.int x10), .inl (.int x11)]) (F8 [.inr (3, 0), .inl (.int x1)] (am_put (am_put (am_put (am_put M 4 x3 3 2) 4 x3 7 (-1)) 4 x3 8 x10) 4 x3 9 x11))
  else am_ret [] 118 [.inr (4, x3)] (k 121 [.inr (9, 0), .inl (.int x1), .inr (1, x2), .inr (4, x3), .inr (6, x4), .inl (.int x5), .inl (.long x6), am_D, .inl (.long x8), am_D, .inl (.int x10), .inl (.int x11)]) (F6 [.inr (6, x4)] M) := (rfl)
theorem eX9_judge_112 {n : Nat} {x1 : Int32} {x2 : Nat} {x3 : Nat} {x4 : Nat} {x5 : Int32} {x6 : Int64} {x8 : Int64} {x10 : Int32} {x11 : Int32} {y0 : Int32} {M : am_M} {res : am_O × am_M} (h : (if y0 = 0 then
   am_ret [] 138 [] (rX9_judge n 141 [.inr (9, 0), .inl (.int x1), .inr (1, x2), .inr (4, x3), .inr (6, x4), .inl (.int x5), .inl (.long x6), am_D, .inl (.long x8), am_D, .inl (.int x10), .inl (.int x11)]) (fX3_append [.inr (3, 0), .inl (.int x1)] (am_put (am_put (am_put (am_put M 4 x3 3 2) 4 x3 7 (-1)) 4 x3 8 x10) 4 x3 9 x11))
  else am_ret [] 118 [.inr (4, x3)] (rX9_judge n 121 [.inr (9, 0), .inl (.int x1), .inr (1, x2), .inr (4, x3), .inr (6, x4), .inl (.int x5), .inl (.long x6), am_D, .inl (.long x8), am_D, .inl (.int x10), .inl (.int x11)]) (fX6_dilutes [.inr (6, x4)] M)) = some res) : rX9_judge (n + 100) 112 [.inr (9, 0), .inl (.int x1), .inr (1, x2), .inr (4, x3), .inr (6, x4), .inl (.int x5), .inl (.long x6), am_D, .inl (.long x8), am_D, .inl (.int x10), .inl (.int x11)] [.inl (.int y0)] M = some res := uX9_judge ((gX9_judge_112 fX6_formulaOf fX6_valueAt fX9_limited fX6_limitFlags fX4_runFlags fX6_asksAgain fX6_dilutes fX4_waitAgain fX3_append fX2_append (rX9_judge n) x1 x2 x3 x4 x5 x6 x8 x10 x11 y0 M).trans h)
set_option maxRecDepth 20000 in
theorem gX9_judge_141 (F0 F1 F2 F3 F4 F5 F6 F7 F8 F9 : am_F) (k : Nat → List am_V → List am_V → am_M → am_R) (x1 : Int32) (x2 : Nat) (x3 : Nat) (x4 : Nat) (x5 : Int32) (x6 : Int64) (x8 : Int64) (x10 : Int32) (x11 : Int32) (M : am_M) : gX9_judge F0 F1 F2 F3 F4 F5 F6 F7 F8 F9 k 141 [.inr (9, 0), .inl (.int x1), .inr (1, x2), .inr (4, x3), .inr (6, x4), .inl (.int x5), .inl (.long x6), am_D, .inl (.long x8), am_D, .inl (.int x10), .inl (.int x11)] [] M =
  if x5 = 0 then
   k 156 [.inr (9, 0), .inl (.int x1), .inr (1, x2), .inr (4, x3), .inr (6, x4), .inl (.int x5), .inl (.long x6), am_D, .inl (.long x8), am_D, .inl (.int x10), .inl (.int x11)] [] M
  else am_ret [] 153 [] (k 156 [.inr (9, 0), .inl (.int x1), .inr (1, x2), .inr (4, x3), .inr (6, x4), .inl (.int x5), .inl (.long x6), am_D, .inl (.long x8), am_D, .inl (.int x10), .inl (.int x11)]) (F9 [.inr (2, x4), .inl (.int x10)] M) := (rfl)
theorem eX9_judge_141 {n : Nat} {x1 : Int32} {x2 : Nat} {x3 : Nat} {x4 : Nat} {x5 : Int32} {x6 : Int64} {x8 : Int64} {x10 : Int32} {x11 : Int32} {M : am_M} {res : am_O × am_M} (h : (if x5 = 0 then
   rX9_judge n 156 [.inr (9, 0), .inl (.int x1), .inr (1, x2), .inr (4, x3), .inr (6, x4), .inl (.int x5), .inl (.long x6), am_D, .inl (.long x8), am_D, .inl (.int x10), .inl (.int x11)] [] M
  else am_ret [] 153 [] (rX9_judge n 156 [.inr (9, 0), .inl (.int x1), .inr (1, x2), .inr (4, x3), .inr (6, x4), .inl (.int x5), .inl (.long x6), am_D, .inl (.long x8), am_D, .inl (.int x10), .inl (.int x11)]) (fX2_append [.inr (2, x4), .inl (.int x10)] M)) = some res) : rX9_judge (n + 100) 141 [.inr (9, 0), .inl (.int x1), .inr (1, x2), .inr (4, x3), .inr (6, x4), .inl (.int x5), .inl (.long x6), am_D, .inl (.long x8), am_D, .inl (.int x10), .inl (.int x11)] [] M = some res := uX9_judge ((gX9_judge_141 fX6_formulaOf fX6_valueAt fX9_limited fX6_limitFlags fX4_runFlags fX6_asksAgain fX6_dilutes fX4_waitAgain fX3_append fX2_append (rX9_judge n) x1 x2 x3 x4 x5 x6 x8 x10 x11 M).trans h)
set_option maxRecDepth 20000 in
theorem gX9_judge_121 (F0 F1 F2 F3 F4 F5 F6 F7 F8 F9 : am_F) (k : Nat → List am_V → List am_V → am_M → am_R) (x1 : Int32) (x2 : Nat) (x3 : Nat) (x4 : Nat) (x5 : Int32) (x6 : Int64) (x8 : Int64) (x10 : Int32) (x11 : Int32) (y0 : Int32) (y1 : Nat) (M : am_M) : gX9_judge F0 F1 F2 F3 F4 F5 F6 F7 F8 F9 k 121 [.inr (9, 0), .inl (.int x1), .inr (1, x2), .inr (4, x3), .inr (6, x4), .inl (.int x5), .inl (.long x6), am_D, .inl (.long x8), am_D, .inl (.int x10), .inl (.int x11)] [.inl (.int y0), .inr (4, y1)] M =
  am_ret [] 121 [] (k 124 [.inr (9, 0), .inl (.int x1), .inr (1, x2), .inr (4, x3), .inr (6, x4), .inl (.int x5), .inl (.long x6), am_D, .inl (.long x8), am_D, .inl (.int x10), .inl (.int x11)]) (F7 [.inr (4, y1), .inl (.int y0)] M) := (rfl)
theorem eX9_judge_121 {n : Nat} {x1 : Int32} {x2 : Nat} {x3 : Nat} {x4 : Nat} {x5 : Int32} {x6 : Int64} {x8 : Int64} {x10 : Int32} {x11 : Int32} {y0 : Int32} {y1 : Nat} {M : am_M} {res : am_O × am_M} (h : (am_ret [] 121 [] (rX9_judge n 124 [.inr (9, 0), .inl (.int x1), .inr (1, x2), .inr (4, x3), .inr (6, x4), .inl (.int x5), .inl (.long x6), am_D, .inl (.long x8), am_D, .inl (.int x10), .inl (.int x11)]) (fX4_waitAgain [.inr (4, y1), .inl (.int y0)] M)) = some res) : rX9_judge (n + 100) 121 [.inr (9, 0), .inl (.int x1), .inr (1, x2), .inr (4, x3), .inr (6, x4), .inl (.int x5), .inl (.long x6), am_D, .inl (.long x8), am_D, .inl (.int x10), .inl (.int x11)] [.inl (.int y0), .inr (4, y1)] M = some res := uX9_judge ((gX9_judge_121 fX6_formulaOf fX6_valueAt fX9_limited fX6_limitFlags fX4_runFlags fX6_asksAgain fX6_dilutes fX4_waitAgain fX3_append fX2_append (rX9_judge n) x1 x2 x3 x4 x5 x6 x8 x10 x11 y0 y1 M).trans h)
set_option maxRecDepth 20000 in
theorem gX9_judge_156 (F0 F1 F2 F3 F4 F5 F6 F7 F8 F9 : am_F) (k : Nat → List am_V → List am_V → am_M → am_R) (x1 : Int32) (x2 : Nat) (x3 : Nat) (x4 : Nat) (x5 : Int32) (x6 : Int64) (x8 : Int64) (x10 : Int32) (x11 : Int32) (M : am_M) : gX9_judge F0 F1 F2 F3 F4 F5 F6 F7 F8 F9 k 156 [.inr (9, 0), .inl (.int x1), .inr (1, x2), .inr (4, x3), .inr (6, x4), .inl (.int x5), .inl (.long x6), am_D, .inl (.long x8), am_D, .inl (.int x10), .inl (.int x11)] [] M =
  some (.inl none, M) := (rfl)
theorem eX9_judge_156 {n : Nat} {x1 : Int32} {x2 : Nat} {x3 : Nat} {x4 : Nat} {x5 : Int32} {x6 : Int64} {x8 : Int64} {x10 : Int32} {x11 : Int32} {M : am_M} {res : am_O × am_M} (h : (some (.inl none, M)) = some res) : rX9_judge (n + 100) 156 [.inr (9, 0), .inl (.int x1), .inr (1, x2), .inr (4, x3), .inr (6, x4), .inl (.int x5), .inl (.long x6), am_D, .inl (.long x8), am_D, .inl (.int x10), .inl (.int x11)] [] M = some res := uX9_judge ((gX9_judge_156 fX6_formulaOf fX6_valueAt fX9_limited fX6_limitFlags fX4_runFlags fX6_asksAgain fX6_dilutes fX4_waitAgain fX3_append fX2_append (rX9_judge n) x1 x2 x3 x4 x5 x6 x8 x10 x11 M).trans h)
set_option maxRecDepth 20000 in
theorem gX9_judge_124 (F0 F1 F2 F3 F4 F5 F6 F7 F8 F9 : am_F) (k : Nat → List am_V → List am_V → am_M → am_R) (x1 : Int32) (x2 : Nat) (x3 : Nat) (x4 : Nat) (x5 : Int32) (x6 : Int64) (x8 : Int64) (x10 : Int32) (x11 : Int32) (M : am_M) : gX9_judge F0 F1 F2 F3 F4 F5 F6 F7 F8 F9 k 124 [.inr (9, 0), .inl (.int x1), .inr (1, x2), .inr (4, x3), .inr (6, x4), .inl (.int x5), .inl (.long x6), am_D, .inl (.long x8), am_D, .inl (.int x10), .inl (.int x11)] [] M =
  some (.inl none, M) := (rfl)
theorem eX9_judge_124 {n : Nat} {x1 : Int32} {x2 : Nat} {x3 : Nat} {x4 : Nat} {x5 : Int32} {x6 : Int64} {x8 : Int64} {x10 : Int32} {x11 : Int32} {M : am_M} {res : am_O × am_M} (h : (some (.inl none, M)) = some res) : rX9_judge (n + 100) 124 [.inr (9, 0), .inl (.int x1), .inr (1, x2), .inr (4, x3), .inr (6, x4), .inl (.int x5), .inl (.long x6), am_D, .inl (.long x8), am_D, .inl (.int x10), .inl (.int x11)] [] M = some res := uX9_judge ((gX9_judge_124 fX6_formulaOf fX6_valueAt fX9_limited fX6_limitFlags fX4_runFlags fX6_asksAgain fX6_dilutes fX4_waitAgain fX3_append fX2_append (rX9_judge n) x1 x2 x3 x4 x5 x6 x8 x10 x11 M).trans h)
def rX9_judgeEndedRuns (n pc : Nat) (ls st : List am_V) (M : am_M) : am_R := am_run [fX9_cuvetteOf, fX6_isOverAt, fX9_judge] [] 0 am_X0 pX9_judgeEndedRuns n pc ls st M
def gX9_judgeEndedRuns (F0 F1 F2 : am_F) (k : Nat → List am_V → List am_V → am_M → am_R) (pc : Nat) (ls st : List am_V) (M : am_M) : am_R := am_go [F0, F1, F2] [] 0 am_X0 pX9_judgeEndedRuns [2, 20, 46, 55] k 100 pc ls st M
theorem uX9_judgeEndedRuns {n pc : Nat} {ls st : List am_V} {M : am_M} {res : am_O × am_M} (h : gX9_judgeEndedRuns fX9_cuvetteOf fX6_isOverAt fX9_judge (rX9_judgeEndedRuns n) pc ls st M = some res) : rX9_judgeEndedRuns (n + 100) pc ls st M = some res := am_go_ok h
theorem eX9_judgeEndedRuns (M : am_M) : fX9_judgeEndedRuns [.inr (9, 0)] M = rX9_judgeEndedRuns 100000 0 [.inr (9, 0), am_D, am_D] [] M := am_meth_eq rfl rfl
set_option maxRecDepth 20000 in
theorem gX9_judgeEndedRuns_0 (F0 F1 F2 : am_F) (k : Nat → List am_V → List am_V → am_M → am_R) (M : am_M) : gX9_judgeEndedRuns F0 F1 F2 k 0 [.inr (9, 0), am_D, am_D] [] M =
  k 2 [.inr (9, 0), .inl (.int 0), am_D] [] M := (rfl)
theorem eX9_judgeEndedRuns_0 {n : Nat} {M : am_M} {res : am_O × am_M} (h : (rX9_judgeEndedRuns n 2 [.inr (9, 0), .inl (.int 0), am_D] [] M) = some res) : rX9_judgeEndedRuns (n + 100) 0 [.inr (9, 0), am_D, am_D] [] M = some res := uX9_judgeEndedRuns ((gX9_judgeEndedRuns_0 fX9_cuvetteOf fX6_isOverAt fX9_judge (rX9_judgeEndedRuns n) M).trans h)
set_option maxRecDepth 20000 in
theorem gX9_judgeEndedRuns_2 (F0 F1 F2 : am_F) (k : Nat → List am_V → List am_V → am_M → am_R) (x1 : Int32) (x2 : am_V) (M : am_M) : gX9_judgeEndedRuns F0 F1 F2 k 2 [.inr (9, 0), .inl (.int x1), x2] [] M =
  if (M 9 0 7) ≤ x1 then
   some (.inl none, M)
  else if am_in x1 40 then
   am_ret [] 17 [] (k 20 [.inr (9, 0), .inl (.int x1), x2]) (F0 [.inr (9, 0), .inr (4, (Int32.toNatClampNeg x1))] M)
  else none := (rfl)
theorem eX9_judgeEndedRuns_2 {n : Nat} {x1 : Int32} {x2 : am_V} {M : am_M} {res : am_O × am_M} (h : (if (M 9 0 7) ≤ x1 then
   some (.inl none, M)
  else if am_in x1 40 then
   am_ret [] 17 [] (rX9_judgeEndedRuns n 20 [.inr (9, 0), .inl (.int x1), x2]) (fX9_cuvetteOf [.inr (9, 0), .inr (4, (Int32.toNatClampNeg x1))] M)
  else none) = some res) : rX9_judgeEndedRuns (n + 100) 2 [.inr (9, 0), .inl (.int x1), x2] [] M = some res := uX9_judgeEndedRuns ((gX9_judgeEndedRuns_2 fX9_cuvetteOf fX6_isOverAt fX9_judge (rX9_judgeEndedRuns n) x1 x2 M).trans h)
set_option maxRecDepth 20000 in
theorem gX9_judgeEndedRuns_20 (F0 F1 F2 : am_F) (k : Nat → List am_V → List am_V → am_M → am_R) (x1 : Int32) (x2 : am_V) (y0 : Nat) (M : am_M) : gX9_judgeEndedRuns F0 F1 F2 k 20 [.inr (9, 0), .inl (.int x1), x2] [.inr (1, y0)] M =
  if am_in x1 40 then
   if am_in (M 4 (Int32.toNatClampNeg x1) 1) 4 then
    am_ret [] 43 [] (k 46 [.inr (9, 0), .inl (.int x1), .inr (1, y0)]) (F1 [.inr (6, (Int32.toNatClampNeg (M 4 (Int32.toNatClampNeg x1) 1))), .inl (.int (M 1 y0 7))] M)
   else none
  else none := (rfl)
theorem eX9_judgeEndedRuns_20 {n : Nat} {x1 : Int32} {x2 : am_V} {y0 : Nat} {M : am_M} {res : am_O × am_M} (h : (if am_in x1 40 then
   if am_in (M 4 (Int32.toNatClampNeg x1) 1) 4 then
    am_ret [] 43 [] (rX9_judgeEndedRuns n 46 [.inr (9, 0), .inl (.int x1), .inr (1, y0)]) (fX6_isOverAt [.inr (6, (Int32.toNatClampNeg (M 4 (Int32.toNatClampNeg x1) 1))), .inl (.int (M 1 y0 7))] M)
   else none
  else none) = some res) : rX9_judgeEndedRuns (n + 100) 20 [.inr (9, 0), .inl (.int x1), x2] [.inr (1, y0)] M = some res := uX9_judgeEndedRuns ((gX9_judgeEndedRuns_20 fX9_cuvetteOf fX6_isOverAt fX9_judge (rX9_judgeEndedRuns n) x1 x2 y0 M).trans h)
set_option maxRecDepth 20000 in
theorem gX9_judgeEndedRuns_20a (F0 F1 F2 : am_F) (k : Nat → List am_V → List am_V → am_M → am_R) (x1 : Int32) (x2 : am_V) (M : am_M) : gX9_judgeEndedRuns F0 F1 F2 k 20 [.inr (9, 0), .inl (.int x1), x2] [.inl .null] M =
  k 55 [.inr (9, 0), .inl (.int x1), .inl .null] [] M := (rfl)
theorem eX9_judgeEndedRuns_20a {n : Nat} {x1 : Int32} {x2 : am_V} {M : am_M} {res : am_O × am_M} (h : (rX9_judgeEndedRuns n 55 [.inr (9, 0), .inl (.int x1), .inl .null] [] M) = some res) : rX9_judgeEndedRuns (n + 100) 20 [.inr (9, 0), .inl (.int x1), x2] [.inl .null] M = some res := uX9_judgeEndedRuns ((gX9_judgeEndedRuns_20a fX9_cuvetteOf fX6_isOverAt fX9_judge (rX9_judgeEndedRuns n) x1 x2 M).trans h)
set_option maxRecDepth 20000 in
theorem gX9_judgeEndedRuns_46 (F0 F1 F2 : am_F) (k : Nat → List am_V → List am_V → am_M → am_R) (x1 : Int32) (x2 : Nat) (y0 : Int32) (M : am_M) : gX9_judgeEndedRuns F0 F1 F2 k 46 [.inr (9, 0), .inl (.int x1), .inr (1, x2)] [.inl (.int y0)] M =
  if y0 = 0 then
   k 55 [.inr (9, 0), .inl (.int x1), .inr (1, x2)] [] M
  else am_ret [] 52 [] (k 55 [.inr (9, 0), .inl (.int x1), .inr (1, x2)]) (F2 [.inr (9, 0), .inl (.int x1), .inr (1, x2)] M) := (rfl)
theorem eX9_judgeEndedRuns_46 {n : Nat} {x1 : Int32} {x2 : Nat} {y0 : Int32} {M : am_M} {res : am_O × am_M} (h : (if y0 = 0 then
   rX9_judgeEndedRuns n 55 [.inr (9, 0), .inl (.int x1), .inr (1, x2)] [] M
  else am_ret [] 52 [] (rX9_judgeEndedRuns n 55 [.inr (9, 0), .inl (.int x1), .inr (1, x2)]) (fX9_judge [.inr (9, 0), .inl (.int x1), .inr (1, x2)] M)) = some res) : rX9_judgeEndedRuns (n + 100) 46 [.inr (9, 0), .inl (.int x1), .inr (1, x2)] [.inl (.int y0)] M = some res := uX9_judgeEndedRuns ((gX9_judgeEndedRuns_46 fX9_cuvetteOf fX6_isOverAt fX9_judge (rX9_judgeEndedRuns n) x1 x2 y0 M).trans h)
set_option maxRecDepth 20000 in
theorem gX9_judgeEndedRuns_55 (F0 F1 F2 : am_F) (k : Nat → List am_V → List am_V → am_M → am_R) (x1 : Int32) (M : am_M) : gX9_judgeEndedRuns F0 F1 F2 k 55 [.inr (9, 0), .inl (.int x1), .inl .null] [] M =
  k 2 [.inr (9, 0), .inl (.int (x1 + 1)), .inl .null] [] M := (rfl)
theorem eX9_judgeEndedRuns_55 {n : Nat} {x1 : Int32} {M : am_M} {res : am_O × am_M} (h : (rX9_judgeEndedRuns n 2 [.inr (9, 0), .inl (.int (x1 + 1)), .inl .null] [] M) = some res) : rX9_judgeEndedRuns (n + 100) 55 [.inr (9, 0), .inl (.int x1), .inl .null] [] M = some res := uX9_judgeEndedRuns ((gX9_judgeEndedRuns_55 fX9_cuvetteOf fX6_isOverAt fX9_judge (rX9_judgeEndedRuns n) x1 M).trans h)
set_option maxRecDepth 20000 in
theorem gX9_judgeEndedRuns_55a (F0 F1 F2 : am_F) (k : Nat → List am_V → List am_V → am_M → am_R) (x1 : Int32) (x2 : Nat) (M : am_M) : gX9_judgeEndedRuns F0 F1 F2 k 55 [.inr (9, 0), .inl (.int x1), .inr (1, x2)] [] M =
  k 2 [.inr (9, 0), .inl (.int (x1 + 1)), .inr (1, x2)] [] M := (rfl)
theorem eX9_judgeEndedRuns_55a {n : Nat} {x1 : Int32} {x2 : Nat} {M : am_M} {res : am_O × am_M} (h : (rX9_judgeEndedRuns n 2 [.inr (9, 0), .inl (.int (x1 + 1)), .inr (1, x2)] [] M) = some res) : rX9_judgeEndedRuns (n + 100) 55 [.inr (9, 0), .inl (.int x1), .inr (1, x2)] [] M = some res := uX9_judgeEndedRuns ((gX9_judgeEndedRuns_55a fX9_cuvetteOf fX6_isOverAt fX9_judge (rX9_judgeEndedRuns n) x1 x2 M).trans h)
def rX9_positionFor (n pc : Nat) (ls st : List am_V) (M : am_M) : am_R := am_run [fX6_kindOf, fX6_doseOf, fX5_canGive] [] 1 am_X0 pX9_positionFor n pc ls st M
def gX9_positionFor (F0 F1 : am_F) (k : Nat → List am_V → List am_V → am_M → am_R) (pc : Nat) (ls st : List am_V) (M : am_M) : am_R := am_go [F0, fX6_doseOf, F1] [] 1 am_X0 pX9_positionFor [5, 22, 34, 70] k 100 pc ls st M
theorem uX9_positionFor {n pc : Nat} {ls st : List am_V} {M : am_M} {res : am_O × am_M} (h : gX9_positionFor fX6_kindOf fX5_canGive (rX9_positionFor n) pc ls st M = some res) : rX9_positionFor (n + 100) pc ls st M = some res := am_go_ok h
theorem eX9_positionFor (x1 : Nat) (x2 : Int32) (x3 : Int32) (M : am_M) : fX9_positionFor [.inr (9, 0), .inr (6, x1), .inl (.int x2), .inl (.int x3)] M = rX9_positionFor 100000 0 [.inr (9, 0), .inr (6, x1), .inl (.int x2), .inl (.int x3), am_D, am_D, am_D, am_D] [] M := am_meth_eq rfl rfl
set_option maxRecDepth 20000 in
theorem gX9_positionFor_0 (F0 F1 : am_F) (k : Nat → List am_V → List am_V → am_M → am_R) (x1 : Nat) (x2 : Int32) (x3 : Int32) (M : am_M) : gX9_positionFor F0 F1 k 0 [.inr (9, 0), .inr (6, x1), .inl (.int x2), .inl (.int x3), am_D, am_D, am_D, am_D] [] M =
  am_ret [] 2 [] (k 5 [.inr (9, 0), .inr (6, x1), .inl (.int x2), .inl (.int x3), am_D, am_D, am_D, am_D]) (F0 [.inr (6, x1), .inl (.int x2)] M) := (rfl)
theorem eX9_positionFor_0 {n : Nat} {x1 : Nat} {x2 : Int32} {x3 : Int32} {M : am_M} {res : am_O × am_M} (h : (am_ret [] 2 [] (rX9_positionFor n 5 [.inr (9, 0), .inr (6, x1), .inl (.int x2), .inl (.int x3), am_D, am_D, am_D, am_D]) (fX6_kindOf [.inr (6, x1), .inl (.int x2)] M)) = some res) : rX9_positionFor (n + 100) 0 [.inr (9, 0), .inr (6, x1), .inl (.int x2), .inl (.int x3), am_D, am_D, am_D, am_D] [] M = some res := uX9_positionFor ((gX9_positionFor_0 fX6_kindOf fX5_canGive (rX9_positionFor n) x1 x2 x3 M).trans h)
set_option maxRecDepth 20000 in
theorem gX9_positionFor_5 (F0 F1 : am_F) (k : Nat → List am_V → List am_V → am_M → am_R) (x1 : Nat) (x2 : Int32) (x3 : Int32) (y0 : Int32) (M : am_M) : gX9_positionFor F0 F1 k 5 [.inr (9, 0), .inr (6, x1), .inl (.int x2), .inl (.int x3), am_D, am_D, am_D, am_D] [.inl (.int y0)] M =
  if y0 = (-1) then
   some (.inl (some (.inl (.int (-1)))), M)
  else k 22 [.inr (9, 0), .inr (6, x1), .inl (.int x2), .inl (.int x3), .inl (.int y0), .inl (.int (-1)), .inl (.int 0), am_D] [] M := (rfl)
theorem eX9_positionFor_5 {n : Nat} {x1 : Nat} {x2 : Int32} {x3 : Int32} {y0 : Int32} {M : am_M} {res : am_O × am_M} (h : (if y0 = (-1) then
   some (.inl (some (.inl (.int (-1)))), M)
  else rX9_positionFor n 22 [.inr (9, 0), .inr (6, x1), .inl (.int x2), .inl (.int x3), .inl (.int y0), .inl (.int (-1)), .inl (.int 0), am_D] [] M) = some res) : rX9_positionFor (n + 100) 5 [.inr (9, 0), .inr (6, x1), .inl (.int x2), .inl (.int x3), am_D, am_D, am_D, am_D] [.inl (.int y0)] M = some res := uX9_positionFor ((gX9_positionFor_5 fX6_kindOf fX5_canGive (rX9_positionFor n) x1 x2 x3 y0 M).trans h)
set_option maxRecDepth 20000 in
theorem gX9_positionFor_22 (F0 F1 : am_F) (k : Nat → List am_V → List am_V → am_M → am_R) (x1 : Nat) (x2 : Int32) (x3 : Int32) (x4 : Int32) (x5 : Int32) (x6 : Int32) (x7 : am_V) (M : am_M) : gX9_positionFor F0 F1 k 22 [.inr (9, 0), .inr (6, x1), .inl (.int x2), .inl (.int x3), .inl (.int x4), .inl (.int x5), .inl (.int x6), x7] [] M =
  if 8 ≤ x6 then
   some (.inl (some (.inl (.int x5))), M)
  else am_ret [] 31 [] (k 34 [.inr (9, 0), .inr (6, x1), .inl (.int x2), .inl (.int x3), .inl (.int x4), .inl (.int x5), .inl (.int x6), x7]) (fX6_doseOf [.inr (6, x1), .inl (.int x2)] M) := (rfl)
theorem eX9_positionFor_22 {n : Nat} {x1 : Nat} {x2 : Int32} {x3 : Int32} {x4 : Int32} {x5 : Int32} {x6 : Int32} {x7 : am_V} {M : am_M} {res : am_O × am_M} (h : (if 8 ≤ x6 then
   some (.inl (some (.inl (.int x5))), M)
  else am_ret [] 31 [] (rX9_positionFor n 34 [.inr (9, 0), .inr (6, x1), .inl (.int x2), .inl (.int x3), .inl (.int x4), .inl (.int x5), .inl (.int x6), x7]) (fX6_doseOf [.inr (6, x1), .inl (.int x2)] M)) = some res) : rX9_positionFor (n + 100) 22 [.inr (9, 0), .inr (6, x1), .inl (.int x2), .inl (.int x3), .inl (.int x4), .inl (.int x5), .inl (.int x6), x7] [] M = some res := uX9_positionFor ((gX9_positionFor_22 fX6_kindOf fX5_canGive (rX9_positionFor n) x1 x2 x3 x4 x5 x6 x7 M).trans h)
set_option maxRecDepth 20000 in
theorem gX9_positionFor_34 (F0 F1 : am_F) (k : Nat → List am_V → List am_V → am_M → am_R) (x1 : Nat) (x2 : Int32) (x3 : Int32) (x4 : Int32) (x5 : Int32) (x6 : Int32) (x7 : am_V) (y0 : Int32) (M : am_M) : gX9_positionFor F0 F1 k 34 [.inr (9, 0), .inr (6, x1), .inl (.int x2), .inl (.int x3), .inl (.int x4), .inl (.int x5), .inl (.int x6), x7] [.inl (.int y0)] M =
  if x6 = x3 then
   if am_in x6 8 then
    am_ret [] 67 [] (k 70 [.inr (9, 0), .inr (6, x1), .inl (.int x2), .inl (.int x3), .inl (.int x4), .inl (.int x5), .inl (.int x6), .inl (.int (y0 + (M 18 x1 2)))]) (F1 [.inr (5, (Int32.toNatClampNeg x6)), .inl (.int x4), .inl (.int (y0 + (M 18 x1 2))), .inl (.int (M 9 0 8))] M)
   else none
  else if am_in x6 8 then
   am_ret [] 67 [] (k 70 [.inr (9, 0), .inr (6, x1), .inl (.int x2), .inl (.int x3), .inl (.int x4), .inl (.int x5), .inl (.int x6), .inl (.int (y0 + 0))]) (F1 [.inr (5, (Int32.toNatClampNeg x6)), .inl (.int x4), .inl (.int (y0 + 0)), .inl (.int (M 9 0 8))] M)
  else none := (rfl)
theorem eX9_positionFor_34 {n : Nat} {x1 : Nat} {x2 : Int32} {x3 : Int32} {x4 : Int32} {x5 : Int32} {x6 : Int32} {x7 : am_V} {y0 : Int32} {M : am_M} {res : am_O × am_M} (h : (if x6 = x3 then
   if am_in x6 8 then
    am_ret [] 67 [] (rX9_positionFor n 70 [.inr (9, 0), .inr (6, x1), .inl (.int x2), .inl (.int x3), .inl (.int x4), .inl (.int x5), .inl (.int x6), .inl (.int (y0 + (M 18 x1 2)))]) (fX5_canGive [.inr (5, (Int32.toNatClampNeg x6)), .inl (.int x4), .inl (.int (y0 + (M 18 x1 2))), .inl (.int (M 9 0 8))] M)
   else none
  else if am_in x6 8 then
   am_ret [] 67 [] (rX9_positionFor n 70 [.inr (9, 0), .inr (6, x1), .inl (.int x2), .inl (.int x3), .inl (.int x4), .inl (.int x5), .inl (.int x6), .inl (.int (y0 + 0))]) (fX5_canGive [.inr (5, (Int32.toNatClampNeg x6)), .inl (.int x4), .inl (.int (y0 + 0)), .inl (.int (M 9 0 8))] M)
  else none) = some res) : rX9_positionFor (n + 100) 34 [.inr (9, 0), .inr (6, x1), .inl (.int x2), .inl (.int x3), .inl (.int x4), .inl (.int x5), .inl (.int x6), x7] [.inl (.int y0)] M = some res := uX9_positionFor ((gX9_positionFor_34 fX6_kindOf fX5_canGive (rX9_positionFor n) x1 x2 x3 x4 x5 x6 x7 y0 M).trans h)
set_option maxRecDepth 20000 in
theorem gX9_positionFor_70 (F0 F1 : am_F) (k : Nat → List am_V → List am_V → am_M → am_R) (x1 : Nat) (x2 : Int32) (x3 : Int32) (x4 : Int32) (x5 : Int32) (x6 : Int32) (x7 : Int32) (y0 : Int32) (M : am_M) : gX9_positionFor F0 F1 k 70 [.inr (9, 0), .inr (6, x1), .inl (.int x2), .inl (.int x3), .inl (.int x4), .inl (.int x5), .inl (.int x6), .inl (.int x7)] [.inl (.int y0)] M =
  if y0 = 0 then
   k 22 [.inr (9, 0), .inr (6, x1), .inl (.int x2), .inl (.int x3), .inl (.int x4), .inl (.int x5), .inl (.int (x6 + 1)), .inl (.int x7)] [] M
  else if x5 = (-1) then
   k 22 [.inr (9, 0), .inr (6, x1), .inl (.int x2), .inl (.int x3), .inl (.int x4), .inl (.int x6), .inl (.int (x6 + 1)), .inl (.int x7)] [] M
  else if am_in x6 8 then
   if am_in x5 8 then
    if (M 5 (Int32.toNatClampNeg x5) 3) ≤ (M 5 (Int32.toNatClampNeg x6) 3) then
     k 22 [.inr (9, 0), .inr (6, x1), .inl (.int x2), .inl (.int x3), .inl (.int x4), .inl (.int x5), .inl (.int (x6 + 1)), .inl (.int x7)] [] M
    else k 22 [.inr (9, 0), .inr (6, x1), .inl (.int x2), .inl (.int x3), .inl (.int x4), .inl (.int x6), .inl (.int (x6 + 1)), .inl (.int x7)] [] M
   else none
  else none := (rfl)
theorem eX9_positionFor_70 {n : Nat} {x1 : Nat} {x2 : Int32} {x3 : Int32} {x4 : Int32} {x5 : Int32} {x6 : Int32} {x7 : Int32} {y0 : Int32} {M : am_M} {res : am_O × am_M} (h : (if y0 = 0 then
   rX9_positionFor n 22 [.inr (9, 0), .inr (6, x1), .inl (.int x2), .inl (.int x3), .inl (.int x4), .inl (.int x5), .inl (.int (x6 + 1)), .inl (.int x7)] [] M
  else if x5 = (-1) then
   rX9_positionFor n 22 [.inr (9, 0), .inr (6, x1), .inl (.int x2), .inl (.int x3), .inl (.int x4), .inl (.int x6), .inl (.int (x6 + 1)), .inl (.int x7)] [] M
  else if am_in x6 8 then
   if am_in x5 8 then
    if (M 5 (Int32.toNatClampNeg x5) 3) ≤ (M 5 (Int32.toNatClampNeg x6) 3) then
     rX9_positionFor n 22 [.inr (9, 0), .inr (6, x1), .inl (.int x2), .inl (.int x3), .inl (.int x4), .inl (.int x5), .inl (.int (x6 + 1)), .inl (.int x7)] [] M
    else rX9_positionFor n 22 [.inr (9, 0), .inr (6, x1), .inl (.int x2), .inl (.int x3), .inl (.int x4), .inl (.int x6), .inl (.int (x6 + 1)), .inl (.int x7)] [] M
   else none
  else none) = some res) : rX9_positionFor (n + 100) 70 [.inr (9, 0), .inr (6, x1), .inl (.int x2), .inl (.int x3), .inl (.int x4), .inl (.int x5), .inl (.int x6), .inl (.int x7)] [.inl (.int y0)] M = some res := uX9_positionFor ((gX9_positionFor_70 fX6_kindOf fX5_canGive (rX9_positionFor n) x1 x2 x3 x4 x5 x6 x7 y0 M).trans h)
def rX9_cleanCuvette (n pc : Nat) (ls st : List am_V) (M : am_M) : am_R := am_run [fX1_isClean] [] 1 am_X0 pX9_cleanCuvette n pc ls st M
def gX9_cleanCuvette (F0 : am_F) (k : Nat → List am_V → List am_V → am_M → am_R) (pc : Nat) (ls st : List am_V) (M : am_M) : am_R := am_go [F0] [] 1 am_X0 pX9_cleanCuvette [2, 17] k 100 pc ls st M
theorem uX9_cleanCuvette {n pc : Nat} {ls st : List am_V} {M : am_M} {res : am_O × am_M} (h : gX9_cleanCuvette fX1_isClean (rX9_cleanCuvette n) pc ls st M = some res) : rX9_cleanCuvette (n + 100) pc ls st M = some res := am_go_ok h
theorem eX9_cleanCuvette (M : am_M) : fX9_cleanCuvette [.inr (9, 0)] M = rX9_cleanCuvette 100000 0 [.inr (9, 0), am_D] [] M := am_meth_eq rfl rfl
set_option maxRecDepth 20000 in
theorem gX9_cleanCuvette_0 (F0 : am_F) (k : Nat → List am_V → List am_V → am_M → am_R) (M : am_M) : gX9_cleanCuvette F0 k 0 [.inr (9, 0), am_D] [] M =
  k 2 [.inr (9, 0), .inl (.int 0)] [] M := (rfl)
theorem eX9_cleanCuvette_0 {n : Nat} {M : am_M} {res : am_O × am_M} (h : (rX9_cleanCuvette n 2 [.inr (9, 0), .inl (.int 0)] [] M) = some res) : rX9_cleanCuvette (n + 100) 0 [.inr (9, 0), am_D] [] M = some res := uX9_cleanCuvette ((gX9_cleanCuvette_0 fX1_isClean (rX9_cleanCuvette n) M).trans h)
set_option maxRecDepth 20000 in
theorem gX9_cleanCuvette_2 (F0 : am_F) (k : Nat → List am_V → List am_V → am_M → am_R) (x1 : Int32) (M : am_M) : gX9_cleanCuvette F0 k 2 [.inr (9, 0), .inl (.int x1)] [] M =
  if 10 ≤ x1 then
   some (.inl (some (.inl (.int (-1)))), M)
  else if am_in x1 10 then
   am_ret [] 14 [] (k 17 [.inr (9, 0), .inl (.int x1)]) (F0 [.inr (1, (Int32.toNatClampNeg x1))] M)
  else none := (rfl)
theorem eX9_cleanCuvette_2 {n : Nat} {x1 : Int32} {M : am_M} {res : am_O × am_M} (h : (if 10 ≤ x1 then
   some (.inl (some (.inl (.int (-1)))), M)
  else if am_in x1 10 then
   am_ret [] 14 [] (rX9_cleanCuvette n 17 [.inr (9, 0), .inl (.int x1)]) (fX1_isClean [.inr (1, (Int32.toNatClampNeg x1))] M)
  else none) = some res) : rX9_cleanCuvette (n + 100) 2 [.inr (9, 0), .inl (.int x1)] [] M = some res := uX9_cleanCuvette ((gX9_cleanCuvette_2 fX1_isClean (rX9_cleanCuvette n) x1 M).trans h)
set_option maxRecDepth 20000 in
theorem gX9_cleanCuvette_17 (F0 : am_F) (k : Nat → List am_V → List am_V → am_M → am_R) (x1 : Int32) (y0 : Int32) (M : am_M) : gX9_cleanCuvette F0 k 17 [.inr (9, 0), .inl (.int x1)] [.inl (.int y0)] M =
  if y0 = 0 then
   k 2 [.inr (9, 0), .inl (.int (x1 + 1))] [] M
  else some (.inl (some (.inl (.int x1))), M) := (rfl)
theorem eX9_cleanCuvette_17 {n : Nat} {x1 : Int32} {y0 : Int32} {M : am_M} {res : am_O × am_M} (h : (if y0 = 0 then
   rX9_cleanCuvette n 2 [.inr (9, 0), .inl (.int (x1 + 1))] [] M
  else some (.inl (some (.inl (.int x1))), M)) = some res) : rX9_cleanCuvette (n + 100) 17 [.inr (9, 0), .inl (.int x1)] [.inl (.int y0)] M = some res := uX9_cleanCuvette ((gX9_cleanCuvette_17 fX1_isClean (rX9_cleanCuvette n) x1 y0 M).trans h)
def rX9_reserve (n pc : Nat) (ls st : List am_V) (M : am_M) : am_R := am_run [] [] 0 am_X0 pX9_reserve n pc ls st M
def gX9_reserve (k : Nat → List am_V → List am_V → am_M → am_R) (pc : Nat) (ls st : List am_V) (M : am_M) : am_R := am_go [] [] 0 am_X0 pX9_reserve [] k 100 pc ls st M
theorem uX9_reserve {n pc : Nat} {ls st : List am_V} {M : am_M} {res : am_O × am_M} (h : gX9_reserve (rX9_reserve n) pc ls st M = some res) : rX9_reserve (n + 100) pc ls st M = some res := am_go_ok h
theorem eX9_reserve (x1 : Nat) (x2 : Int32) (x3 : Int32) (x4 : Int32) (M : am_M) : fX9_reserve [.inr (9, 0), .inr (1, x1), .inl (.int x2), .inl (.int x3), .inl (.int x4)] M = rX9_reserve 100000 0 [.inr (9, 0), .inr (1, x1), .inl (.int x2), .inl (.int x3), .inl (.int x4)] [] M := am_meth_eq rfl rfl
set_option maxRecDepth 20000 in
theorem gX9_reserve_0 (k : Nat → List am_V → List am_V → am_M → am_R) (x1 : Nat) (x2 : Int32) (x3 : Int32) (x4 : Int32) (M : am_M) : gX9_reserve k 0 [.inr (9, 0), .inr (1, x1), .inl (.int x2), .inl (.int x3), .inl (.int x4)] [] M =
  if am_in x2 2 then
   if am_in x2 2 then
    if x3 = (-1) then
     some (.inl none, (am_put (am_put M 14 x1 (Int32.toNatClampNeg x2) x3) 15 x1 (Int32.toNatClampNeg x2) x4))
    else if am_in x3 8 then
     some (.inl none, (am_put (am_put (am_put M 14 x1 (Int32.toNatClampNeg x2) x3) 15 x1 (Int32.toNatClampNeg x2) x4) 5 (Int32.toNatClampNeg x3) 2 ((M 5 (Int32.toNatClampNeg x3) 2) + x4)))
    else none
   else none
  else none := (rfl)
theorem eX9_reserve_0 {n : Nat} {x1 : Nat} {x2 : Int32} {x3 : Int32} {x4 : Int32} {M : am_M} {res : am_O × am_M} (h : (if am_in x2 2 then
   if am_in x2 2 then
    if x3 = (-1) then
     some (.inl none, (am_put (am_put M 14 x1 (Int32.toNatClampNeg x2) x3) 15 x1 (Int32.toNatClampNeg x2) x4))
    else if am_in x3 8 then
     some (.inl none, (am_put (am_put (am_put M 14 x1 (Int32.toNatClampNeg x2) x3) 15 x1 (Int32.toNatClampNeg x2) x4) 5 (Int32.toNatClampNeg x3) 2 ((M 5 (Int32.toNatClampNeg x3) 2) + x4)))
    else none
   else none
  else none) = some res) : rX9_reserve (n + 100) 0 [.inr (9, 0), .inr (1, x1), .inl (.int x2), .inl (.int x3), .inl (.int x4)] [] M = some res := uX9_reserve ((gX9_reserve_0 (rX9_reserve n) x1 x2 x3 x4 M).trans h)
def rX9_takeSample (n pc : Nat) (ls st : List am_V) (M : am_M) : am_R := am_run [fX9_breakOff] [] 0 am_X0 pX9_takeSample n pc ls st M
def gX9_takeSample (F0 : am_F) (k : Nat → List am_V → List am_V → am_M → am_R) (pc : Nat) (ls st : List am_V) (M : am_M) : am_R := am_go [F0] [] 0 am_X0 pX9_takeSample [18] k 100 pc ls st M
theorem uX9_takeSample {n pc : Nat} {ls st : List am_V} {M : am_M} {res : am_O × am_M} (h : gX9_takeSample fX9_breakOff (rX9_takeSample n) pc ls st M = some res) : rX9_takeSample (n + 100) pc ls st M = some res := am_go_ok h
theorem eX9_takeSample (x1 : Nat) (x2 : Int32) (x3 : Int32) (M : am_M) : fX9_takeSample [.inr (9, 0), .inr (8, x1), .inl (.int x2), .inl (.int x3)] M = rX9_takeSample 100000 0 [.inr (9, 0), .inr (8, x1), .inl (.int x2), .inl (.int x3)] [] M := am_meth_eq rfl rfl
set_option maxRecDepth 20000 in
theorem gX9_takeSample_0 (F0 : am_F) (k : Nat → List am_V → List am_V → am_M → am_R) (x1 : Nat) (x2 : Int32) (x3 : Int32) (M : am_M) : gX9_takeSample F0 k 0 [.inr (9, 0), .inr (8, x1), .inl (.int x2), .inl (.int x3)] [] M =
  if (am_b (M 9 0 10)) = 0 then
   if am_in x2 10 then
    some (.inl none, (am_put (am_put M 8 x1 2 ((M 8 x1 2) - x3)) 1 (Int32.toNatClampNeg x2) 9 x3))
   else none
  else am_ret [] 15 [] (k 18 [.inr (9, 0), .inr (8, x1), .inl (.int x2), .inl (.int x3)]) (F0 [.inr (9, 0), .inl (.int x2), .inl (.int 3)] (am_put M 9 0 10 0)) := (rfl)
theorem eX9_takeSample_0 {n : Nat} {x1 : Nat} {x2 : Int32} {x3 : Int32} {M : am_M} {res : am_O × am_M} (h : (if (am_b (M 9 0 10)) = 0 then
   if am_in x2 10 then
    some (.inl none, (am_put (am_put M 8 x1 2 ((M 8 x1 2) - x3)) 1 (Int32.toNatClampNeg x2) 9 x3))
   else none
  else am_ret [] 15 [] (rX9_takeSample n 18 [.inr (9, 0), .inr (8, x1), .inl (.int x2), .inl (.int x3)]) (fX9_breakOff [.inr (9, 0), .inl (.int x2), .inl (.int 3)] (am_put M 9 0 10 0))) = some res) : rX9_takeSample (n + 100) 0 [.inr (9, 0), .inr (8, x1), .inl (.int x2), .inl (.int x3)] [] M = some res := uX9_takeSample ((gX9_takeSample_0 fX9_breakOff (rX9_takeSample n) x1 x2 x3 M).trans h)
set_option maxRecDepth 20000 in
theorem gX9_takeSample_18 (F0 : am_F) (k : Nat → List am_V → List am_V → am_M → am_R) (x1 : Nat) (x2 : Int32) (x3 : Int32) (M : am_M) : gX9_takeSample F0 k 18 [.inr (9, 0), .inr (8, x1), .inl (.int x2), .inl (.int x3)] [] M =
  some (.inl none, M) := (rfl)
theorem eX9_takeSample_18 {n : Nat} {x1 : Nat} {x2 : Int32} {x3 : Int32} {M : am_M} {res : am_O × am_M} (h : (some (.inl none, M)) = some res) : rX9_takeSample (n + 100) 18 [.inr (9, 0), .inr (8, x1), .inl (.int x2), .inl (.int x3)] [] M = some res := uX9_takeSample ((gX9_takeSample_18 fX9_breakOff (rX9_takeSample n) x1 x2 x3 M).trans h)
def rX9_tryStart (n pc : Nat) (ls st : List am_V) (M : am_M) : am_R := am_run [fX9_slotOf, fX6_sampleVolume, fX4_fail, fX9_positionFor, fX6_lacks, fX9_cleanCuvette, fX7_book, fX1_start, fX6_doseOf, fX9_reserve, fX4_startRun, fX9_takeSample] [] 2 am_X0 pX9_tryStart n pc ls st M
def gX9_tryStart (F0 F1 F2 F3 F4 F5 F6 F7 F8 : am_F) (k : Nat → List am_V → List am_V → am_M → am_R) (pc : Nat) (ls st : List am_V) (M : am_M) : am_R := am_go [F0, F1, fX4_fail, F2, F3, F4, F5, F6, fX6_doseOf, F7, fX4_startRun, F8] [] 2 am_X0 pX9_tryStart [25, 53, 70, 80, 89, 99, 113, 131, 157, 176, 195, 219, 222] k 100 pc ls st M
theorem uX9_tryStart {n pc : Nat} {ls st : List am_V} {M : am_M} {res : am_O × am_M} (h : gX9_tryStart fX9_slotOf fX6_sampleVolume fX9_positionFor fX6_lacks fX9_cleanCuvette fX7_book fX1_start fX9_reserve fX9_takeSample (rX9_tryStart n) pc ls st M = some res) : rX9_tryStart (n + 100) pc ls st M = some res := am_go_ok h
theorem eX9_tryStart (x1 : Int32) (M : am_M) : fX9_tryStart [.inr (9, 0), .inl (.int x1)] M = rX9_tryStart 100000 0 [.inr (9, 0), .inl (.int x1), am_D, am_D, am_D, am_D, am_D, am_D] [] M := am_meth_eq rfl rfl
set_option maxRecDepth 20000 in
theorem gX9_tryStart_0 (F0 F1 F2 F3 F4 F5 F6 F7 F8 : am_F) (k : Nat → List am_V → List am_V → am_M → am_R) (x1 : Int32) (M : am_M) : gX9_tryStart F0 F1 F2 F3 F4 F5 F6 F7 F8 k 0 [.inr (9, 0), .inl (.int x1), am_D, am_D, am_D, am_D, am_D, am_D] [] M =
  if am_in x1 40 then
   if am_in (M 4 (Int32.toNatClampNeg x1) 1) 4 then
    am_ret [] 22 [] (k 25 [.inr (9, 0), .inl (.int x1), .inr (4, (Int32.toNatClampNeg x1)), .inr (6, (Int32.toNatClampNeg (M 4 (Int32.toNatClampNeg x1) 1))), am_D, am_D, am_D, am_D]) (F0 [.inr (9, 0), .inl (.int (M 4 (Int32.toNatClampNeg x1) 0))] M)
   else none
  else none := (rfl)
theorem eX9_tryStart_0 {n : Nat} {x1 : Int32} {M : am_M} {res : am_O × am_M} (h : (if am_in x1 40 then
   if am_in (M 4 (Int32.toNatClampNeg x1) 1) 4 then
    am_ret [] 22 [] (rX9_tryStart n 25 [.inr (9, 0), .inl (.int x1), .inr (4, (Int32.toNatClampNeg x1)), .inr (6, (Int32.toNatClampNeg (M 4 (Int32.toNatClampNeg x1) 1))), am_D, am_D, am_D, am_D]) (fX9_slotOf [.inr (9, 0), .inl (.int (M 4 (Int32.toNatClampNeg x1) 0))] M)
   else none
  else none) = some res) : rX9_tryStart (n + 100) 0 [.inr (9, 0), .inl (.int x1), am_D, am_D, am_D, am_D, am_D, am_D] [] M = some res := uX9_tryStart ((gX9_tryStart_0 fX9_slotOf fX6_sampleVolume fX9_positionFor fX6_lacks fX9_cleanCuvette fX7_book fX1_start fX9_reserve fX9_takeSample (rX9_tryStart n) x1 M).trans h)
set_option maxRecDepth 20000 in
theorem gX9_tryStart_25 (F0 F1 F2 F3 F4 F5 F6 F7 F8 : am_F) (k : Nat → List am_V → List am_V → am_M → am_R) (x1 : Int32) (x2 : Nat) (x3 : Nat) (y0 : Int32) (M : am_M) : gX9_tryStart F0 F1 F2 F3 F4 F5 F6 F7 F8 k 25 [.inr (9, 0), .inl (.int x1), .inr (4, x2), .inr (6, x3), am_D, am_D, am_D, am_D] [.inl (.int y0)] M =
  if y0 = (-1) then
   some (.inl (some (.inl (.int 0))), M)
  else if am_in y0 6 then
   am_ret [] 50 [.inl (.int (M 8 (Int32.toNatClampNeg y0) 2))] (k 53 [.inr (9, 0), .inl (.int x1), .inr (4, x2), .inr (6, x3), .inl (.int y0), am_D, am_D, am_D]) (F1 [.inr (6, x3), .inl (.int (am_b (M 4 x2 6)))] M)
  else none := (rfl)
theorem eX9_tryStart_25 {n : Nat} {x1 : Int32} {x2 : Nat} {x3 : Nat} {y0 : Int32} {M : am_M} {res : am_O × am_M} (h : (if y0 = (-1) then
   some (.inl (some (.inl (.int 0))), M)
  else if am_in y0 6 then
   am_ret [] 50 [.inl (.int (M 8 (Int32.toNatClampNeg y0) 2))] (rX9_tryStart n 53 [.inr (9, 0), .inl (.int x1), .inr (4, x2), .inr (6, x3), .inl (.int y0), am_D, am_D, am_D]) (fX6_sampleVolume [.inr (6, x3), .inl (.int (am_b (M 4 x2 6)))] M)
  else none) = some res) : rX9_tryStart (n + 100) 25 [.inr (9, 0), .inl (.int x1), .inr (4, x2), .inr (6, x3), am_D, am_D, am_D, am_D] [.inl (.int y0)] M = some res := uX9_tryStart ((gX9_tryStart_25 fX9_slotOf fX6_sampleVolume fX9_positionFor fX6_lacks fX9_cleanCuvette fX7_book fX1_start fX9_reserve fX9_takeSample (rX9_tryStart n) x1 x2 x3 y0 M).trans h)
set_option maxRecDepth 20000 in
theorem gX9_tryStart_53 (F0 F1 F2 F3 F4 F5 F6 F7 F8 : am_F) (k : Nat → List am_V → List am_V → am_M → am_R) (x1 : Int32) (x2 : Nat) (x3 : Nat) (x4 : Int32) (y0 : Int32) (y1 : Int32) (M : am_M) : gX9_tryStart F0 F1 F2 F3 F4 F5 F6 F7 F8 k 53 [.inr (9, 0), .inl (.int x1), .inr (4, x2), .inr (6, x3), .inl (.int x4), am_D, am_D, am_D] [.inl (.int y0), .inl (.int y1)] M =
  if y0 ≤ y1 then
   am_ret [] 67 [] (k 70 [.inr (9, 0), .inl (.int x1), .inr (4, x2), .inr (6, x3), .inl (.int x4), am_D, am_D, am_D]) (F2 [.inr (9, 0), .inr (6, x3), .inl (.int 0), .inl (.int (-1))] M)
  else some (.inl (some (.inl (.int 0))), (am_put (am_put (am_put M 4 x2 3 3) 4 x2 4 1) 4 x2 7 (-1))) := (rfl)
theorem eX9_tryStart_53 {n : Nat} {x1 : Int32} {x2 : Nat} {x3 : Nat} {x4 : Int32} {y0 : Int32} {y1 : Int32} {M : am_M} {res : am_O × am_M} (h : (if y0 ≤ y1 then
   am_ret [] 67 [] (rX9_tryStart n 70 [.inr (9, 0), .inl (.int x1), .inr (4, x2), .inr (6, x3), .inl (.int x4), am_D, am_D, am_D]) (fX9_positionFor [.inr (9, 0), .inr (6, x3), .inl (.int 0), .inl (.int (-1))] M)
  else some (.inl (some (.inl (.int 0))), (am_put (am_put (am_put M 4 x2 3 3) 4 x2 4 1) 4 x2 7 (-1)))) = some res) : rX9_tryStart (n + 100) 53 [.inr (9, 0), .inl (.int x1), .inr (4, x2), .inr (6, x3), .inl (.int x4), am_D, am_D, am_D] [.inl (.int y0), .inl (.int y1)] M = some res := uX9_tryStart ((gX9_tryStart_53 fX9_slotOf fX6_sampleVolume fX9_positionFor fX6_lacks fX9_cleanCuvette fX7_book fX1_start fX9_reserve fX9_takeSample (rX9_tryStart n) x1 x2 x3 x4 y0 y1 M).trans h)
set_option maxRecDepth 20000 in
theorem gX9_tryStart_70 (F0 F1 F2 F3 F4 F5 F6 F7 F8 : am_F) (k : Nat → List am_V → List am_V → am_M → am_R) (x1 : Int32) (x2 : Nat) (x3 : Nat) (x4 : Int32) (y0 : Int32) (M : am_M) : gX9_tryStart F0 F1 F2 F3 F4 F5 F6 F7 F8 k 70 [.inr (9, 0), .inl (.int x1), .inr (4, x2), .inr (6, x3), .inl (.int x4), am_D, am_D, am_D] [.inl (.int y0)] M =
  am_ret [] 77 [] (k 80 [.inr (9, 0), .inl (.int x1), .inr (4, x2), .inr (6, x3), .inl (.int x4), .inl (.int y0), am_D, am_D]) (F2 [.inr (9, 0), .inr (6, x3), .inl (.int 1), .inl (.int y0)] M) := (rfl)
theorem eX9_tryStart_70 {n : Nat} {x1 : Int32} {x2 : Nat} {x3 : Nat} {x4 : Int32} {y0 : Int32} {M : am_M} {res : am_O × am_M} (h : (am_ret [] 77 [] (rX9_tryStart n 80 [.inr (9, 0), .inl (.int x1), .inr (4, x2), .inr (6, x3), .inl (.int x4), .inl (.int y0), am_D, am_D]) (fX9_positionFor [.inr (9, 0), .inr (6, x3), .inl (.int 1), .inl (.int y0)] M)) = some res) : rX9_tryStart (n + 100) 70 [.inr (9, 0), .inl (.int x1), .inr (4, x2), .inr (6, x3), .inl (.int x4), am_D, am_D, am_D] [.inl (.int y0)] M = some res := uX9_tryStart ((gX9_tryStart_70 fX9_slotOf fX6_sampleVolume fX9_positionFor fX6_lacks fX9_cleanCuvette fX7_book fX1_start fX9_reserve fX9_takeSample (rX9_tryStart n) x1 x2 x3 x4 y0 M).trans h)
set_option maxRecDepth 20000 in
theorem gX9_tryStart_80 (F0 F1 F2 F3 F4 F5 F6 F7 F8 : am_F) (k : Nat → List am_V → List am_V → am_M → am_R) (x1 : Int32) (x2 : Nat) (x3 : Nat) (x4 : Int32) (x5 : Int32) (y0 : Int32) (M : am_M) : gX9_tryStart F0 F1 F2 F3 F4 F5 F6 F7 F8 k 80 [.inr (9, 0), .inl (.int x1), .inr (4, x2), .inr (6, x3), .inl (.int x4), .inl (.int x5), am_D, am_D] [.inl (.int y0)] M =
  am_ret [] 86 [] (k 89 [.inr (9, 0), .inl (.int x1), .inr (4, x2), .inr (6, x3), .inl (.int x4), .inl (.int x5), .inl (.int y0), am_D]) (F3 [.inr (6, x3), .inl (.int 0), .inl (.int x5)] M) := (rfl)
theorem eX9_tryStart_80 {n : Nat} {x1 : Int32} {x2 : Nat} {x3 : Nat} {x4 : Int32} {x5 : Int32} {y0 : Int32} {M : am_M} {res : am_O × am_M} (h : (am_ret [] 86 [] (rX9_tryStart n 89 [.inr (9, 0), .inl (.int x1), .inr (4, x2), .inr (6, x3), .inl (.int x4), .inl (.int x5), .inl (.int y0), am_D]) (fX6_lacks [.inr (6, x3), .inl (.int 0), .inl (.int x5)] M)) = some res) : rX9_tryStart (n + 100) 80 [.inr (9, 0), .inl (.int x1), .inr (4, x2), .inr (6, x3), .inl (.int x4), .inl (.int x5), am_D, am_D] [.inl (.int y0)] M = some res := uX9_tryStart ((gX9_tryStart_80 fX9_slotOf fX6_sampleVolume fX9_positionFor fX6_lacks fX9_cleanCuvette fX7_book fX1_start fX9_reserve fX9_takeSample (rX9_tryStart n) x1 x2 x3 x4 x5 y0 M).trans h)
set_option maxRecDepth 20000 in
theorem gX9_tryStart_89 (F0 F1 F2 F3 F4 F5 F6 F7 F8 : am_F) (k : Nat → List am_V → List am_V → am_M → am_R) (x1 : Int32) (x2 : Nat) (x3 : Nat) (x4 : Int32) (x5 : Int32) (x6 : Int32) (y0 : Int32) (M : am_M) : gX9_tryStart F0 F1 F2 F3 F4 F5 F6 F7 F8 k 89 [.inr (9, 0), .inl (.int x1), .inr (4, x2), .inr (6, x3), .inl (.int x4), .inl (.int x5), .inl (.int x6), am_D] [.inl (.int y0)] M =
  if y0 = 0 then
   am_ret [] 96 [] (k 99 [.inr (9, 0), .inl (.int x1), .inr (4, x2), .inr (6, x3), .inl (.int x4), .inl (.int x5), .inl (.int x6), am_D]) (F3 [.inr (6, x3), .inl (.int 1), .inl (.int x6)] M)
  else some (.inl (some (.inl (.int 0))), (am_put (am_put (am_put M 4 x2 3 3) 4 x2 4 2) 4 x2 7 (-1))) := (rfl)
theorem eX9_tryStart_89 {n : Nat} {x1 : Int32} {x2 : Nat} {x3 : Nat} {x4 : Int32} {x5 : Int32} {x6 : Int32} {y0 : Int32} {M : am_M} {res : am_O × am_M} (h : (if y0 = 0 then
   am_ret [] 96 [] (rX9_tryStart n 99 [.inr (9, 0), .inl (.int x1), .inr (4, x2), .inr (6, x3), .inl (.int x4), .inl (.int x5), .inl (.int x6), am_D]) (fX6_lacks [.inr (6, x3), .inl (.int 1), .inl (.int x6)] M)
  else some (.inl (some (.inl (.int 0))), (am_put (am_put (am_put M 4 x2 3 3) 4 x2 4 2) 4 x2 7 (-1)))) = some res) : rX9_tryStart (n + 100) 89 [.inr (9, 0), .inl (.int x1), .inr (4, x2), .inr (6, x3), .inl (.int x4), .inl (.int x5), .inl (.int x6), am_D] [.inl (.int y0)] M = some res := uX9_tryStart ((gX9_tryStart_89 fX9_slotOf fX6_sampleVolume fX9_positionFor fX6_lacks fX9_cleanCuvette fX7_book fX1_start fX9_reserve fX9_takeSample (rX9_tryStart n) x1 x2 x3 x4 x5 x6 y0 M).trans h)
set_option maxRecDepth 20000 in
theorem gX9_tryStart_99 (F0 F1 F2 F3 F4 F5 F6 F7 F8 : am_F) (k : Nat → List am_V → List am_V → am_M → am_R) (x1 : Int32) (x2 : Nat) (x3 : Nat) (x4 : Int32) (x5 : Int32) (x6 : Int32) (y0 : Int32) (M : am_M) : gX9_tryStart F0 F1 F2 F3 F4 F5 F6 F7 F8 k 99 [.inr (9, 0), .inl (.int x1), .inr (4, x2), .inr (6, x3), .inl (.int x4), .inl (.int x5), .inl (.int x6), am_D] [.inl (.int y0)] M =
  if y0 = 0 then
   am_ret [] 110 [] (k 113 [.inr (9, 0), .inl (.int x1), .inr (4, x2), .inr (6, x3), .inl (.int x4), .inl (.int x5), .inl (.int x6), am_D]) (F4 [.inr (9, 0)] M)
  else some (.inl (some (.inl (.int 0))), (am_put (am_put (am_put M 4 x2 3 3) 4 x2 4 2) 4 x2 7 (-1))) := (rfl)
theorem eX9_tryStart_99 {n : Nat} {x1 : Int32} {x2 : Nat} {x3 : Nat} {x4 : Int32} {x5 : Int32} {x6 : Int32} {y0 : Int32} {M : am_M} {res : am_O × am_M} (h : (if y0 = 0 then
   am_ret [] 110 [] (rX9_tryStart n 113 [.inr (9, 0), .inl (.int x1), .inr (4, x2), .inr (6, x3), .inl (.int x4), .inl (.int x5), .inl (.int x6), am_D]) (fX9_cleanCuvette [.inr (9, 0)] M)
  else some (.inl (some (.inl (.int 0))), (am_put (am_put (am_put M 4 x2 3 3) 4 x2 4 2) 4 x2 7 (-1)))) = some res) : rX9_tryStart (n + 100) 99 [.inr (9, 0), .inl (.int x1), .inr (4, x2), .inr (6, x3), .inl (.int x4), .inl (.int x5), .inl (.int x6), am_D] [.inl (.int y0)] M = some res := uX9_tryStart ((gX9_tryStart_99 fX9_slotOf fX6_sampleVolume fX9_positionFor fX6_lacks fX9_cleanCuvette fX7_book fX1_start fX9_reserve fX9_takeSample (rX9_tryStart n) x1 x2 x3 x4 x5 x6 y0 M).trans h)
set_option maxRecDepth 20000 in
theorem gX9_tryStart_113 (F0 F1 F2 F3 F4 F5 F6 F7 F8 : am_F) (k : Nat → List am_V → List am_V → am_M → am_R) (x1 : Int32) (x2 : Nat) (x3 : Nat) (x4 : Int32) (x5 : Int32) (x6 : Int32) (y0 : Int32) (M : am_M) : gX9_tryStart F0 F1 F2 F3 F4 F5 F6 F7 F8 k 113 [.inr (9, 0), .inl (.int x1), .inr (4, x2), .inr (6, x3), .inl (.int x4), .inl (.int x5), .inl (.int x6), am_D] [.inl (.int y0)] M =
  if y0 = (-1) then
   some (.inl (some (.inl (.int 0))), M)
  else am_ret [] 128 [] (k 131 [.inr (9, 0), .inl (.int x1), .inr (4, x2), .inr (6, x3), .inl (.int x4), .inl (.int x5), .inl (.int x6), .inl (.int y0)]) (F5 [.inr (7, 0), .inr (6, x3), .inl (.int y0)] M) := (rfl)
theorem eX9_tryStart_113 {n : Nat} {x1 : Int32} {x2 : Nat} {x3 : Nat} {x4 : Int32} {x5 : Int32} {x6 : Int32} {y0 : Int32} {M : am_M} {res : am_O × am_M} (h : (if y0 = (-1) then
   some (.inl (some (.inl (.int 0))), M)
  else am_ret [] 128 [] (rX9_tryStart n 131 [.inr (9, 0), .inl (.int x1), .inr (4, x2), .inr (6, x3), .inl (.int x4), .inl (.int x5), .inl (.int x6), .inl (.int y0)]) (fX7_book [.inr (7, 0), .inr (6, x3), .inl (.int y0)] M)) = some res) : rX9_tryStart (n + 100) 113 [.inr (9, 0), .inl (.int x1), .inr (4, x2), .inr (6, x3), .inl (.int x4), .inl (.int x5), .inl (.int x6), am_D] [.inl (.int y0)] M = some res := uX9_tryStart ((gX9_tryStart_113 fX9_slotOf fX6_sampleVolume fX9_positionFor fX6_lacks fX9_cleanCuvette fX7_book fX1_start fX9_reserve fX9_takeSample (rX9_tryStart n) x1 x2 x3 x4 x5 x6 y0 M).trans h)
set_option maxRecDepth 20000 in
theorem gX9_tryStart_131 (F0 F1 F2 F3 F4 F5 F6 F7 F8 : am_F) (k : Nat → List am_V → List am_V → am_M → am_R) (x1 : Int32) (x2 : Nat) (x3 : Nat) (x4 : Int32) (x5 : Int32) (x6 : Int32) (x7 : Int32) (y0 : Int32) (M : am_M) : gX9_tryStart F0 F1 F2 F3 F4 F5 F6 F7 F8 k 131 [.inr (9, 0), .inl (.int x1), .inr (4, x2), .inr (6, x3), .inl (.int x4), .inl (.int x5), .inl (.int x6), .inl (.int x7)] [.inl (.int y0)] M =
  if y0 = 0 then
   some (.inl (some (.inl (.int 0))), M)
  else if am_in x7 10 then
   if am_in x4 6 then
    am_ret [] 154 [] (k 157 [.inr (9, 0), .inl (.int x1), .inr (4, x2), .inr (6, x3), .inl (.int x4), .inl (.int x5), .inl (.int x6), .inl (.int x7)]) (F6 [.inr (1, (Int32.toNatClampNeg x7)), .inl (.int x1), .inl (.int (am_b (M 8 (Int32.toNatClampNeg x4) 1)))] M)
   else none
  else none := (rfl)
theorem eX9_tryStart_131 {n : Nat} {x1 : Int32} {x2 : Nat} {x3 : Nat} {x4 : Int32} {x5 : Int32} {x6 : Int32} {x7 : Int32} {y0 : Int32} {M : am_M} {res : am_O × am_M} (h : (if y0 = 0 then
   some (.inl (some (.inl (.int 0))), M)
  else if am_in x7 10 then
   if am_in x4 6 then
    am_ret [] 154 [] (rX9_tryStart n 157 [.inr (9, 0), .inl (.int x1), .inr (4, x2), .inr (6, x3), .inl (.int x4), .inl (.int x5), .inl (.int x6), .inl (.int x7)]) (fX1_start [.inr (1, (Int32.toNatClampNeg x7)), .inl (.int x1), .inl (.int (am_b (M 8 (Int32.toNatClampNeg x4) 1)))] M)
   else none
  else none) = some res) : rX9_tryStart (n + 100) 131 [.inr (9, 0), .inl (.int x1), .inr (4, x2), .inr (6, x3), .inl (.int x4), .inl (.int x5), .inl (.int x6), .inl (.int x7)] [.inl (.int y0)] M = some res := uX9_tryStart ((gX9_tryStart_131 fX9_slotOf fX6_sampleVolume fX9_positionFor fX6_lacks fX9_cleanCuvette fX7_book fX1_start fX9_reserve fX9_takeSample (rX9_tryStart n) x1 x2 x3 x4 x5 x6 x7 y0 M).trans h)
set_option maxRecDepth 20000 in
theorem gX9_tryStart_157 (F0 F1 F2 F3 F4 F5 F6 F7 F8 : am_F) (k : Nat → List am_V → List am_V → am_M → am_R) (x1 : Int32) (x2 : Nat) (x3 : Nat) (x4 : Int32) (x5 : Int32) (x6 : Int32) (x7 : Int32) (M : am_M) : gX9_tryStart F0 F1 F2 F3 F4 F5 F6 F7 F8 k 157 [.inr (9, 0), .inl (.int x1), .inr (4, x2), .inr (6, x3), .inl (.int x4), .inl (.int x5), .inl (.int x6), .inl (.int x7)] [] M =
  if am_in x7 10 then
   am_ret [] 173 [] (k 176 [.inr (9, 0), .inl (.int x1), .inr (4, x2), .inr (6, x3), .inl (.int x4), .inl (.int x5), .inl (.int x6), .inl (.int x7)]) (F7 [.inr (9, 0), .inr (1, (Int32.toNatClampNeg x7)), .inl (.int 0), .inl (.int x5), .inl (.int (M 18 x3 2))] M)
  else none := (rfl)
theorem eX9_tryStart_157 {n : Nat} {x1 : Int32} {x2 : Nat} {x3 : Nat} {x4 : Int32} {x5 : Int32} {x6 : Int32} {x7 : Int32} {M : am_M} {res : am_O × am_M} (h : (if am_in x7 10 then
   am_ret [] 173 [] (rX9_tryStart n 176 [.inr (9, 0), .inl (.int x1), .inr (4, x2), .inr (6, x3), .inl (.int x4), .inl (.int x5), .inl (.int x6), .inl (.int x7)]) (fX9_reserve [.inr (9, 0), .inr (1, (Int32.toNatClampNeg x7)), .inl (.int 0), .inl (.int x5), .inl (.int (M 18 x3 2))] M)
  else none) = some res) : rX9_tryStart (n + 100) 157 [.inr (9, 0), .inl (.int x1), .inr (4, x2), .inr (6, x3), .inl (.int x4), .inl (.int x5), .inl (.int x6), .inl (.int x7)] [] M = some res := uX9_tryStart ((gX9_tryStart_157 fX9_slotOf fX6_sampleVolume fX9_positionFor fX6_lacks fX9_cleanCuvette fX7_book fX1_start fX9_reserve fX9_takeSample (rX9_tryStart n) x1 x2 x3 x4 x5 x6 x7 M).trans h)
set_option maxRecDepth 20000 in
theorem gX9_tryStart_176 (F0 F1 F2 F3 F4 F5 F6 F7 F8 : am_F) (k : Nat → List am_V → List am_V → am_M → am_R) (x1 : Int32) (x2 : Nat) (x3 : Nat) (x4 : Int32) (x5 : Int32) (x6 : Int32) (x7 : Int32) (M : am_M) : gX9_tryStart F0 F1 F2 F3 F4 F5 F6 F7 F8 k 176 [.inr (9, 0), .inl (.int x1), .inr (4, x2), .inr (6, x3), .inl (.int x4), .inl (.int x5), .inl (.int x6), .inl (.int x7)] [] M =
  if am_in x7 10 then
   am_ret [] 192 [] (k 195 [.inr (9, 0), .inl (.int x1), .inr (4, x2), .inr (6, x3), .inl (.int x4), .inl (.int x5), .inl (.int x6), .inl (.int x7)]) (F7 [.inr (9, 0), .inr (1, (Int32.toNatClampNeg x7)), .inl (.int 1), .inl (.int x6), .inl (.int (M 18 x3 5))] M)
  else none := (rfl)
theorem eX9_tryStart_176 {n : Nat} {x1 : Int32} {x2 : Nat} {x3 : Nat} {x4 : Int32} {x5 : Int32} {x6 : Int32} {x7 : Int32} {M : am_M} {res : am_O × am_M} (h : (if am_in x7 10 then
   am_ret [] 192 [] (rX9_tryStart n 195 [.inr (9, 0), .inl (.int x1), .inr (4, x2), .inr (6, x3), .inl (.int x4), .inl (.int x5), .inl (.int x6), .inl (.int x7)]) (fX9_reserve [.inr (9, 0), .inr (1, (Int32.toNatClampNeg x7)), .inl (.int 1), .inl (.int x6), .inl (.int (M 18 x3 5))] M)
  else none) = some res) : rX9_tryStart (n + 100) 176 [.inr (9, 0), .inl (.int x1), .inr (4, x2), .inr (6, x3), .inl (.int x4), .inl (.int x5), .inl (.int x6), .inl (.int x7)] [] M = some res := uX9_tryStart ((gX9_tryStart_176 fX9_slotOf fX6_sampleVolume fX9_positionFor fX6_lacks fX9_cleanCuvette fX7_book fX1_start fX9_reserve fX9_takeSample (rX9_tryStart n) x1 x2 x3 x4 x5 x6 x7 M).trans h)
set_option maxRecDepth 20000 in
theorem gX9_tryStart_195 (F0 F1 F2 F3 F4 F5 F6 F7 F8 : am_F) (k : Nat → List am_V → List am_V → am_M → am_R) (x1 : Int32) (x2 : Nat) (x3 : Nat) (x4 : Int32) (x5 : Int32) (x6 : Int32) (x7 : Int32) (M : am_M) : gX9_tryStart F0 F1 F2 F3 F4 F5 F6 F7 F8 k 195 [.inr (9, 0), .inl (.int x1), .inr (4, x2), .inr (6, x3), .inl (.int x4), .inl (.int x5), .inl (.int x6), .inl (.int x7)] [] M =
  if am_in x4 6 then
   am_ret [] 216 [.inl (.int x7), .inr (8, (Int32.toNatClampNeg x4)), .inr (9, 0)] (k 219 [.inr (9, 0), .inl (.int x1), .inr (4, x2), .inr (6, x3), .inl (.int x4), .inl (.int x5), .inl (.int x6), .inl (.int x7)]) (F1 [.inr (6, x3), .inl (.int (am_b ((am_put (am_put (am_put M 4 x2 3 1) 4 x2 5 (((am_put M 4 x2 3 1) 4 x2 5) + 1)) 4 x2 7 x7) 4 x2 6)))] (am_put (am_put (am_put M 4 x2 3 1) 4 x2 5 (((am_put M 4 x2 3 1) 4 x2 5) + 1)) 4 x2 7 x7))
  else none := (rfl)
theorem eX9_tryStart_195 {n : Nat} {x1 : Int32} {x2 : Nat} {x3 : Nat} {x4 : Int32} {x5 : Int32} {x6 : Int32} {x7 : Int32} {M : am_M} {res : am_O × am_M} (h : (if am_in x4 6 then
   am_ret [] 216 [.inl (.int x7), .inr (8, (Int32.toNatClampNeg x4)), .inr (9, 0)] (rX9_tryStart n 219 [.inr (9, 0), .inl (.int x1), .inr (4, x2), .inr (6, x3), .inl (.int x4), .inl (.int x5), .inl (.int x6), .inl (.int x7)]) (fX6_sampleVolume [.inr (6, x3), .inl (.int (am_b ((am_put (am_put (am_put M 4 x2 3 1) 4 x2 5 (((am_put M 4 x2 3 1) 4 x2 5) + 1)) 4 x2 7 x7) 4 x2 6)))] (am_put (am_put (am_put M 4 x2 3 1) 4 x2 5 (((am_put M 4 x2 3 1) 4 x2 5) + 1)) 4 x2 7 x7))
  else none) = some res) : rX9_tryStart (n + 100) 195 [.inr (9, 0), .inl (.int x1), .inr (4, x2), .inr (6, x3), .inl (.int x4), .inl (.int x5), .inl (.int x6), .inl (.int x7)] [] M = some res := uX9_tryStart ((gX9_tryStart_195 fX9_slotOf fX6_sampleVolume fX9_positionFor fX6_lacks fX9_cleanCuvette fX7_book fX1_start fX9_reserve fX9_takeSample (rX9_tryStart n) x1 x2 x3 x4 x5 x6 x7 M).trans h)
set_option maxRecDepth 20000 in
theorem gX9_tryStart_219 (F0 F1 F2 F3 F4 F5 F6 F7 F8 : am_F) (k : Nat → List am_V → List am_V → am_M → am_R) (x1 : Int32) (x2 : Nat) (x3 : Nat) (x4 : Int32) (x5 : Int32) (x6 : Int32) (x7 : Int32) (y0 : Int32) (y1 : Int32) (y2 : Nat) (M : am_M) : gX9_tryStart F0 F1 F2 F3 F4 F5 F6 F7 F8 k 219 [.inr (9, 0), .inl (.int x1), .inr (4, x2), .inr (6, x3), .inl (.int x4), .inl (.int x5), .inl (.int x6), .inl (.int x7)] [.inl (.int y0), .inl (.int y1), .inr (8, y2), .inr (9, 0)] M =
  am_ret [] 219 [] (k 222 [.inr (9, 0), .inl (.int x1), .inr (4, x2), .inr (6, x3), .inl (.int x4), .inl (.int x5), .inl (.int x6), .inl (.int x7)]) (F8 [.inr (9, 0), .inr (8, y2), .inl (.int y1), .inl (.int y0)] M) := (rfl)
theorem eX9_tryStart_219 {n : Nat} {x1 : Int32} {x2 : Nat} {x3 : Nat} {x4 : Int32} {x5 : Int32} {x6 : Int32} {x7 : Int32} {y0 : Int32} {y1 : Int32} {y2 : Nat} {M : am_M} {res : am_O × am_M} (h : (am_ret [] 219 [] (rX9_tryStart n 222 [.inr (9, 0), .inl (.int x1), .inr (4, x2), .inr (6, x3), .inl (.int x4), .inl (.int x5), .inl (.int x6), .inl (.int x7)]) (fX9_takeSample [.inr (9, 0), .inr (8, y2), .inl (.int y1), .inl (.int y0)] M)) = some res) : rX9_tryStart (n + 100) 219 [.inr (9, 0), .inl (.int x1), .inr (4, x2), .inr (6, x3), .inl (.int x4), .inl (.int x5), .inl (.int x6), .inl (.int x7)] [.inl (.int y0), .inl (.int y1), .inr (8, y2), .inr (9, 0)] M = some res := uX9_tryStart ((gX9_tryStart_219 fX9_slotOf fX6_sampleVolume fX9_positionFor fX6_lacks fX9_cleanCuvette fX7_book fX1_start fX9_reserve fX9_takeSample (rX9_tryStart n) x1 x2 x3 x4 x5 x6 x7 y0 y1 y2 M).trans h)
set_option maxRecDepth 20000 in
theorem gX9_tryStart_222 (F0 F1 F2 F3 F4 F5 F6 F7 F8 : am_F) (k : Nat → List am_V → List am_V → am_M → am_R) (x1 : Int32) (x2 : Nat) (x3 : Nat) (x4 : Int32) (x5 : Int32) (x6 : Int32) (x7 : Int32) (M : am_M) : gX9_tryStart F0 F1 F2 F3 F4 F5 F6 F7 F8 k 222 [.inr (9, 0), .inl (.int x1), .inr (4, x2), .inr (6, x3), .inl (.int x4), .inl (.int x5), .inl (.int x6), .inl (.int x7)] [] M =
  some (.inl (some (.inl (.int 1))), M) := (rfl)
theorem eX9_tryStart_222 {n : Nat} {x1 : Int32} {x2 : Nat} {x3 : Nat} {x4 : Int32} {x5 : Int32} {x6 : Int32} {x7 : Int32} {M : am_M} {res : am_O × am_M} (h : (some (.inl (some (.inl (.int 1))), M)) = some res) : rX9_tryStart (n + 100) 222 [.inr (9, 0), .inl (.int x1), .inr (4, x2), .inr (6, x3), .inl (.int x4), .inl (.int x5), .inl (.int x6), .inl (.int x7)] [] M = some res := uX9_tryStart ((gX9_tryStart_222 fX9_slotOf fX6_sampleVolume fX9_positionFor fX6_lacks fX9_cleanCuvette fX7_book fX1_start fX9_reserve fX9_takeSample (rX9_tryStart n) x1 x2 x3 x4 x5 x6 x7 M).trans h)
def rX9_startFirst (n pc : Nat) (ls st : List am_V) (M : am_M) : am_R := am_run [fX9_tryStart] [] 1 am_X0 pX9_startFirst n pc ls st M
def gX9_startFirst (F0 : am_F) (k : Nat → List am_V → List am_V → am_M → am_R) (pc : Nat) (ls st : List am_V) (M : am_M) : am_R := am_go [F0] [] 1 am_X0 pX9_startFirst [2, 40] k 100 pc ls st M
theorem uX9_startFirst {n pc : Nat} {ls st : List am_V} {M : am_M} {res : am_O × am_M} (h : gX9_startFirst fX9_tryStart (rX9_startFirst n) pc ls st M = some res) : rX9_startFirst (n + 100) pc ls st M = some res := am_go_ok h
theorem eX9_startFirst (x1 : Int32) (M : am_M) : fX9_startFirst [.inr (9, 0), .inl (.int x1)] M = rX9_startFirst 100000 0 [.inr (9, 0), .inl (.int x1), am_D] [] M := am_meth_eq rfl rfl
set_option maxRecDepth 20000 in
theorem gX9_startFirst_0 (F0 : am_F) (k : Nat → List am_V → List am_V → am_M → am_R) (x1 : Int32) (M : am_M) : gX9_startFirst F0 k 0 [.inr (9, 0), .inl (.int x1), am_D] [] M =
  k 2 [.inr (9, 0), .inl (.int x1), .inl (.int 0)] [] M := (rfl)
theorem eX9_startFirst_0 {n : Nat} {x1 : Int32} {M : am_M} {res : am_O × am_M} (h : (rX9_startFirst n 2 [.inr (9, 0), .inl (.int x1), .inl (.int 0)] [] M) = some res) : rX9_startFirst (n + 100) 0 [.inr (9, 0), .inl (.int x1), am_D] [] M = some res := uX9_startFirst ((gX9_startFirst_0 fX9_tryStart (rX9_startFirst n) x1 M).trans h)
set_option maxRecDepth 20000 in
theorem gX9_startFirst_2 (F0 : am_F) (k : Nat → List am_V → List am_V → am_M → am_R) (x1 : Int32) (x2 : Int32) (M : am_M) : gX9_startFirst F0 k 2 [.inr (9, 0), .inl (.int x1), .inl (.int x2)] [] M =
  if (M 9 0 7) ≤ x2 then
   some (.inl (some (.inl (.int (-1)))), M)
  else if am_in x2 40 then
   if (M 4 (Int32.toNatClampNeg x2) 3) = 0 then
    if am_in x2 40 then
     if (am_b (M 4 (Int32.toNatClampNeg x2) 2)) = x1 then
      am_ret [] 37 [] (k 40 [.inr (9, 0), .inl (.int x1), .inl (.int x2)]) (F0 [.inr (9, 0), .inl (.int x2)] M)
     else k 2 [.inr (9, 0), .inl (.int x1), .inl (.int (x2 + 1))] [] M
    else none
   else k 2 [.inr (9, 0), .inl (.int x1), .inl (.int (x2 + 1))] [] M
  else none := (rfl)
theorem eX9_startFirst_2 {n : Nat} {x1 : Int32} {x2 : Int32} {M : am_M} {res : am_O × am_M} (h : (if (M 9 0 7) ≤ x2 then
   some (.inl (some (.inl (.int (-1)))), M)
  else if am_in x2 40 then
   if (M 4 (Int32.toNatClampNeg x2) 3) = 0 then
    if am_in x2 40 then
     if (am_b (M 4 (Int32.toNatClampNeg x2) 2)) = x1 then
      am_ret [] 37 [] (rX9_startFirst n 40 [.inr (9, 0), .inl (.int x1), .inl (.int x2)]) (fX9_tryStart [.inr (9, 0), .inl (.int x2)] M)
     else rX9_startFirst n 2 [.inr (9, 0), .inl (.int x1), .inl (.int (x2 + 1))] [] M
    else none
   else rX9_startFirst n 2 [.inr (9, 0), .inl (.int x1), .inl (.int (x2 + 1))] [] M
  else none) = some res) : rX9_startFirst (n + 100) 2 [.inr (9, 0), .inl (.int x1), .inl (.int x2)] [] M = some res := uX9_startFirst ((gX9_startFirst_2 fX9_tryStart (rX9_startFirst n) x1 x2 M).trans h)
set_option maxRecDepth 20000 in
theorem gX9_startFirst_40 (F0 : am_F) (k : Nat → List am_V → List am_V → am_M → am_R) (x1 : Int32) (x2 : Int32) (y0 : Int32) (M : am_M) : gX9_startFirst F0 k 40 [.inr (9, 0), .inl (.int x1), .inl (.int x2)] [.inl (.int y0)] M =
  if y0 = 0 then
   k 2 [.inr (9, 0), .inl (.int x1), .inl (.int (x2 + 1))] [] M
  else some (.inl (some (.inl (.int x2))), M) := (rfl)
theorem eX9_startFirst_40 {n : Nat} {x1 : Int32} {x2 : Int32} {y0 : Int32} {M : am_M} {res : am_O × am_M} (h : (if y0 = 0 then
   rX9_startFirst n 2 [.inr (9, 0), .inl (.int x1), .inl (.int (x2 + 1))] [] M
  else some (.inl (some (.inl (.int x2))), M)) = some res) : rX9_startFirst (n + 100) 40 [.inr (9, 0), .inl (.int x1), .inl (.int x2)] [.inl (.int y0)] M = some res := uX9_startFirst ((gX9_startFirst_40 fX9_tryStart (rX9_startFirst n) x1 x2 y0 M).trans h)
def rX9_step (n pc : Nat) (ls st : List am_V) (M : am_M) : am_R := am_run [fX9_turnDisc, fX9_giveReagent, fX9_takeReadings, fX9_judgeEndedRuns, fX9_startFirst] [] 1 am_X0 pX9_step n pc ls st M
def gX9_step (F0 F1 F2 F3 F4 : am_F) (k : Nat → List am_V → List am_V → am_M → am_R) (pc : Nat) (ls st : List am_V) (M : am_M) : am_R := am_go [F0, F1, F2, F3, F4] [] 1 am_X0 pX9_step [4, 8, 12, 16, 21, 32] k 100 pc ls st M
theorem uX9_step {n pc : Nat} {ls st : List am_V} {M : am_M} {res : am_O × am_M} (h : gX9_step fX9_turnDisc fX9_giveReagent fX9_takeReadings fX9_judgeEndedRuns fX9_startFirst (rX9_step n) pc ls st M = some res) : rX9_step (n + 100) pc ls st M = some res := am_go_ok h
theorem eX9_step (M : am_M) : fX9_step [.inr (9, 0)] M = rX9_step 100000 0 [.inr (9, 0), am_D] [] M := am_meth_eq rfl rfl
set_option maxRecDepth 20000 in
theorem gX9_step_0 (F0 F1 F2 F3 F4 : am_F) (k : Nat → List am_V → List am_V → am_M → am_R) (M : am_M) : gX9_step F0 F1 F2 F3 F4 k 0 [.inr (9, 0), am_D] [] M =
  am_ret [] 1 [] (k 4 [.inr (9, 0), am_D]) (F0 [.inr (9, 0)] M) := (rfl)
theorem eX9_step_0 {n : Nat} {M : am_M} {res : am_O × am_M} (h : (am_ret [] 1 [] (rX9_step n 4 [.inr (9, 0), am_D]) (fX9_turnDisc [.inr (9, 0)] M)) = some res) : rX9_step (n + 100) 0 [.inr (9, 0), am_D] [] M = some res := uX9_step ((gX9_step_0 fX9_turnDisc fX9_giveReagent fX9_takeReadings fX9_judgeEndedRuns fX9_startFirst (rX9_step n) M).trans h)
set_option maxRecDepth 20000 in
theorem gX9_step_4 (F0 F1 F2 F3 F4 : am_F) (k : Nat → List am_V → List am_V → am_M → am_R) (M : am_M) : gX9_step F0 F1 F2 F3 F4 k 4 [.inr (9, 0), am_D] [] M =
  am_ret [] 5 [] (k 8 [.inr (9, 0), am_D]) (F1 [.inr (9, 0)] M) := (rfl)
theorem eX9_step_4 {n : Nat} {M : am_M} {res : am_O × am_M} (h : (am_ret [] 5 [] (rX9_step n 8 [.inr (9, 0), am_D]) (fX9_giveReagent [.inr (9, 0)] M)) = some res) : rX9_step (n + 100) 4 [.inr (9, 0), am_D] [] M = some res := uX9_step ((gX9_step_4 fX9_turnDisc fX9_giveReagent fX9_takeReadings fX9_judgeEndedRuns fX9_startFirst (rX9_step n) M).trans h)
set_option maxRecDepth 20000 in
theorem gX9_step_8 (F0 F1 F2 F3 F4 : am_F) (k : Nat → List am_V → List am_V → am_M → am_R) (M : am_M) : gX9_step F0 F1 F2 F3 F4 k 8 [.inr (9, 0), am_D] [] M =
  am_ret [] 9 [] (k 12 [.inr (9, 0), am_D]) (F2 [.inr (9, 0)] M) := (rfl)
theorem eX9_step_8 {n : Nat} {M : am_M} {res : am_O × am_M} (h : (am_ret [] 9 [] (rX9_step n 12 [.inr (9, 0), am_D]) (fX9_takeReadings [.inr (9, 0)] M)) = some res) : rX9_step (n + 100) 8 [.inr (9, 0), am_D] [] M = some res := uX9_step ((gX9_step_8 fX9_turnDisc fX9_giveReagent fX9_takeReadings fX9_judgeEndedRuns fX9_startFirst (rX9_step n) M).trans h)
set_option maxRecDepth 20000 in
theorem gX9_step_12 (F0 F1 F2 F3 F4 : am_F) (k : Nat → List am_V → List am_V → am_M → am_R) (M : am_M) : gX9_step F0 F1 F2 F3 F4 k 12 [.inr (9, 0), am_D] [] M =
  am_ret [] 13 [] (k 16 [.inr (9, 0), am_D]) (F3 [.inr (9, 0)] M) := (rfl)
theorem eX9_step_12 {n : Nat} {M : am_M} {res : am_O × am_M} (h : (am_ret [] 13 [] (rX9_step n 16 [.inr (9, 0), am_D]) (fX9_judgeEndedRuns [.inr (9, 0)] M)) = some res) : rX9_step (n + 100) 12 [.inr (9, 0), am_D] [] M = some res := uX9_step ((gX9_step_12 fX9_turnDisc fX9_giveReagent fX9_takeReadings fX9_judgeEndedRuns fX9_startFirst (rX9_step n) M).trans h)
set_option maxRecDepth 20000 in
theorem gX9_step_16 (F0 F1 F2 F3 F4 : am_F) (k : Nat → List am_V → List am_V → am_M → am_R) (M : am_M) : gX9_step F0 F1 F2 F3 F4 k 16 [.inr (9, 0), am_D] [] M =
  am_ret [] 18 [] (k 21 [.inr (9, 0), am_D]) (F4 [.inr (9, 0), .inl (.int 1)] M) := (rfl)
theorem eX9_step_16 {n : Nat} {M : am_M} {res : am_O × am_M} (h : (am_ret [] 18 [] (rX9_step n 21 [.inr (9, 0), am_D]) (fX9_startFirst [.inr (9, 0), .inl (.int 1)] M)) = some res) : rX9_step (n + 100) 16 [.inr (9, 0), am_D] [] M = some res := uX9_step ((gX9_step_16 fX9_turnDisc fX9_giveReagent fX9_takeReadings fX9_judgeEndedRuns fX9_startFirst (rX9_step n) M).trans h)
set_option maxRecDepth 20000 in
theorem gX9_step_21 (F0 F1 F2 F3 F4 : am_F) (k : Nat → List am_V → List am_V → am_M → am_R) (y0 : Int32) (M : am_M) : gX9_step F0 F1 F2 F3 F4 k 21 [.inr (9, 0), am_D] [.inl (.int y0)] M =
  if y0 = (-1) then
   am_ret [] 29 [] (k 32 [.inr (9, 0), .inl (.int y0)]) (F4 [.inr (9, 0), .inl (.int 0)] M)
  else if y0 = (-1) then
   some (.inl (some (.inl (.int y0))), (am_put M 9 0 12 ((M 9 0 12) + 1)))
  else some (.inl (some (.inl (.int y0))), M) := (rfl)
theorem eX9_step_21 {n : Nat} {y0 : Int32} {M : am_M} {res : am_O × am_M} (h : (if y0 = (-1) then
   am_ret [] 29 [] (rX9_step n 32 [.inr (9, 0), .inl (.int y0)]) (fX9_startFirst [.inr (9, 0), .inl (.int 0)] M)
  else if y0 = (-1) then
   some (.inl (some (.inl (.int y0))), (am_put M 9 0 12 ((M 9 0 12) + 1)))
  else some (.inl (some (.inl (.int y0))), M)) = some res) : rX9_step (n + 100) 21 [.inr (9, 0), am_D] [.inl (.int y0)] M = some res := uX9_step ((gX9_step_21 fX9_turnDisc fX9_giveReagent fX9_takeReadings fX9_judgeEndedRuns fX9_startFirst (rX9_step n) y0 M).trans h)
set_option maxRecDepth 20000 in
theorem gX9_step_32 (F0 F1 F2 F3 F4 : am_F) (k : Nat → List am_V → List am_V → am_M → am_R) (x1 : Int32) (y0 : Int32) (M : am_M) : gX9_step F0 F1 F2 F3 F4 k 32 [.inr (9, 0), .inl (.int x1)] [.inl (.int y0)] M =
  if y0 = (-1) then
   some (.inl (some (.inl (.int y0))), (am_put M 9 0 12 ((M 9 0 12) + 1)))
  else some (.inl (some (.inl (.int y0))), M) := (rfl)
theorem eX9_step_32 {n : Nat} {x1 : Int32} {y0 : Int32} {M : am_M} {res : am_O × am_M} (h : (if y0 = (-1) then
   some (.inl (some (.inl (.int y0))), (am_put M 9 0 12 ((M 9 0 12) + 1)))
  else some (.inl (some (.inl (.int y0))), M)) = some res) : rX9_step (n + 100) 32 [.inr (9, 0), .inl (.int x1)] [.inl (.int y0)] M = some res := uX9_step ((gX9_step_32 fX9_turnDisc fX9_giveReagent fX9_takeReadings fX9_judgeEndedRuns fX9_startFirst (rX9_step n) x1 y0 M).trans h)
def rX9_idle (n pc : Nat) (ls st : List am_V) (M : am_M) : am_R := am_run [] [] 1 am_X0 pX9_idle n pc ls st M
def gX9_idle (k : Nat → List am_V → List am_V → am_M → am_R) (pc : Nat) (ls st : List am_V) (M : am_M) : am_R := am_go [] [] 1 am_X0 pX9_idle [] k 100 pc ls st M
theorem uX9_idle {n pc : Nat} {ls st : List am_V} {M : am_M} {res : am_O × am_M} (h : gX9_idle (rX9_idle n) pc ls st M = some res) : rX9_idle (n + 100) pc ls st M = some res := am_go_ok h
theorem eX9_idle (M : am_M) : fX9_idle [.inr (9, 0)] M = rX9_idle 100000 0 [.inr (9, 0)] [] M := am_meth_eq rfl rfl
set_option maxRecDepth 20000 in
theorem gX9_idle_0 (k : Nat → List am_V → List am_V → am_M → am_R) (M : am_M) : gX9_idle k 0 [.inr (9, 0)] [] M =
  some (.inl (some (.inl (.int (M 9 0 12)))), M) := (rfl)
theorem eX9_idle_0 {n : Nat} {M : am_M} {res : am_O × am_M} (h : (some (.inl (some (.inl (.int (M 9 0 12)))), M)) = some res) : rX9_idle (n + 100) 0 [.inr (9, 0)] [] M = some res := uX9_idle ((gX9_idle_0 (rX9_idle n) M).trans h)
def rX9_state (n pc : Nat) (ls st : List am_V) (M : am_M) : am_R := am_run [fX9_isWithin, fX9_demandArgument, fX9_cuvetteOf] [] 1 am_X0 pX9_state n pc ls st M
def gX9_state (F0 F1 F2 : am_F) (k : Nat → List am_V → List am_V → am_M → am_R) (pc : Nat) (ls st : List am_V) (M : am_M) : am_R := am_go [F0, F1, F2] [] 1 am_X0 pX9_state [11, 21, 32, 44] k 100 pc ls st M
theorem uX9_state {n pc : Nat} {ls st : List am_V} {M : am_M} {res : am_O × am_M} (h : gX9_state fX9_isWithin fX9_demandArgument fX9_cuvetteOf (rX9_state n) pc ls st M = some res) : rX9_state (n + 100) pc ls st M = some res := am_go_ok h
theorem eX9_state (x1 : Int32) (x2 : Int32) (M : am_M) : fX9_state [.inr (9, 0), .inl (.int x1), .inl (.int x2)] M = rX9_state 100000 0 [.inr (9, 0), .inl (.int x1), .inl (.int x2), am_D, am_D] [] M := am_meth_eq rfl rfl
set_option maxRecDepth 20000 in
theorem gX9_state_0 (F0 F1 F2 : am_F) (k : Nat → List am_V → List am_V → am_M → am_R) (x1 : Int32) (x2 : Int32) (M : am_M) : gX9_state F0 F1 F2 k 0 [.inr (9, 0), .inl (.int x1), .inl (.int x2), am_D, am_D] [] M =
  am_ret [] 8 [] (k 11 [.inr (9, 0), .inl (.int x1), .inl (.int x2), am_D, am_D]) (F0 [.inl (.int x1), .inl (.int 0), .inl (.int ((M 9 0 7) - 1))] M) := (rfl)
theorem eX9_state_0 {n : Nat} {x1 : Int32} {x2 : Int32} {M : am_M} {res : am_O × am_M} (h : (am_ret [] 8 [] (rX9_state n 11 [.inr (9, 0), .inl (.int x1), .inl (.int x2), am_D, am_D]) (fX9_isWithin [.inl (.int x1), .inl (.int 0), .inl (.int ((M 9 0 7) - 1))] M)) = some res) : rX9_state (n + 100) 0 [.inr (9, 0), .inl (.int x1), .inl (.int x2), am_D, am_D] [] M = some res := uX9_state ((gX9_state_0 fX9_isWithin fX9_demandArgument fX9_cuvetteOf (rX9_state n) x1 x2 M).trans h)
set_option maxRecDepth 20000 in
theorem gX9_state_11 (F0 F1 F2 : am_F) (k : Nat → List am_V → List am_V → am_M → am_R) (x1 : Int32) (x2 : Int32) (y0 : Int32) (M : am_M) : gX9_state F0 F1 F2 k 11 [.inr (9, 0), .inl (.int x1), .inl (.int x2), am_D, am_D] [.inl (.int y0)] M =
  if y0 = 0 then
   am_ret [] 29 [] (k 32 [.inr (9, 0), .inl (.int x1), .inl (.int x2), am_D, am_D]) (F1 [.inl (.int 0)] M)
  else am_ret [] 18 [] (k 21 [.inr (9, 0), .inl (.int x1), .inl (.int x2), am_D, am_D]) (F0 [.inl (.int x2), .inl (.int 0), .inl (.int 6)] M) := (rfl)
theorem eX9_state_11 {n : Nat} {x1 : Int32} {x2 : Int32} {y0 : Int32} {M : am_M} {res : am_O × am_M} (h : (if y0 = 0 then
   am_ret [] 29 [] (rX9_state n 32 [.inr (9, 0), .inl (.int x1), .inl (.int x2), am_D, am_D]) (fX9_demandArgument [.inl (.int 0)] M)
  else am_ret [] 18 [] (rX9_state n 21 [.inr (9, 0), .inl (.int x1), .inl (.int x2), am_D, am_D]) (fX9_isWithin [.inl (.int x2), .inl (.int 0), .inl (.int 6)] M)) = some res) : rX9_state (n + 100) 11 [.inr (9, 0), .inl (.int x1), .inl (.int x2), am_D, am_D] [.inl (.int y0)] M = some res := uX9_state ((gX9_state_11 fX9_isWithin fX9_demandArgument fX9_cuvetteOf (rX9_state n) x1 x2 y0 M).trans h)
set_option maxRecDepth 20000 in
theorem gX9_state_32 (F0 F1 F2 : am_F) (k : Nat → List am_V → List am_V → am_M → am_R) (x1 : Int32) (x2 : Int32) (M : am_M) : gX9_state F0 F1 F2 k 32 [.inr (9, 0), .inl (.int x1), .inl (.int x2), am_D, am_D] [] M =
  if am_in x1 40 then
   am_ret [] 41 [] (k 44 [.inr (9, 0), .inl (.int x1), .inl (.int x2), .inr (4, (Int32.toNatClampNeg x1)), am_D]) (F2 [.inr (9, 0), .inr (4, (Int32.toNatClampNeg x1))] M)
  else none := (rfl)
theorem eX9_state_32 {n : Nat} {x1 : Int32} {x2 : Int32} {M : am_M} {res : am_O × am_M} (h : (if am_in x1 40 then
   am_ret [] 41 [] (rX9_state n 44 [.inr (9, 0), .inl (.int x1), .inl (.int x2), .inr (4, (Int32.toNatClampNeg x1)), am_D]) (fX9_cuvetteOf [.inr (9, 0), .inr (4, (Int32.toNatClampNeg x1))] M)
  else none) = some res) : rX9_state (n + 100) 32 [.inr (9, 0), .inl (.int x1), .inl (.int x2), am_D, am_D] [] M = some res := uX9_state ((gX9_state_32 fX9_isWithin fX9_demandArgument fX9_cuvetteOf (rX9_state n) x1 x2 M).trans h)
set_option maxRecDepth 20000 in
theorem gX9_state_21 (F0 F1 F2 : am_F) (k : Nat → List am_V → List am_V → am_M → am_R) (x1 : Int32) (x2 : Int32) (y0 : Int32) (M : am_M) : gX9_state F0 F1 F2 k 21 [.inr (9, 0), .inl (.int x1), .inl (.int x2), am_D, am_D] [.inl (.int y0)] M =
  if y0 = 0 then
   am_ret [] 29 [] (k 32 [.inr (9, 0), .inl (.int x1), .inl (.int x2), am_D, am_D]) (F1 [.inl (.int 0)] M)
  else am_ret [] 29 [] (k 32 [.inr (9, 0), .inl (.int x1), .inl (.int x2), am_D, am_D]) (F1 [.inl (.int 1)] M) := (rfl)
theorem eX9_state_21 {n : Nat} {x1 : Int32} {x2 : Int32} {y0 : Int32} {M : am_M} {res : am_O × am_M} (h : (if y0 = 0 then
   am_ret [] 29 [] (rX9_state n 32 [.inr (9, 0), .inl (.int x1), .inl (.int x2), am_D, am_D]) (fX9_demandArgument [.inl (.int 0)] M)
  else am_ret [] 29 [] (rX9_state n 32 [.inr (9, 0), .inl (.int x1), .inl (.int x2), am_D, am_D]) (fX9_demandArgument [.inl (.int 1)] M)) = some res) : rX9_state (n + 100) 21 [.inr (9, 0), .inl (.int x1), .inl (.int x2), am_D, am_D] [.inl (.int y0)] M = some res := uX9_state ((gX9_state_21 fX9_isWithin fX9_demandArgument fX9_cuvetteOf (rX9_state n) x1 x2 y0 M).trans h)
set_option maxRecDepth 20000 in
theorem gX9_state_44 (F0 F1 F2 : am_F) (k : Nat → List am_V → List am_V → am_M → am_R) (x1 : Int32) (x2 : Int32) (x3 : Nat) (y0 : Nat) (M : am_M) : gX9_state F0 F1 F2 k 44 [.inr (9, 0), .inl (.int x1), .inl (.int x2), .inr (4, x3), am_D] [.inr (1, y0)] M =
  if x2 = 0 then
   some (.inl (some (.inl (.int (M 4 x3 3)))), M)
  else if x2 = 1 then
   some (.inl (some (.inl (.int (M 4 x3 4)))), M)
  else if x2 = 2 then
   some (.inl (some (.inl (.int (M 4 x3 5)))), M)
  else if x2 = 3 then
   some (.inl (some (.inl (.int (M 4 x3 7)))), M)
  else if x2 = 4 then
   some (.inl (some (.inl (.int (M 1 y0 7)))), M)
  else if x2 = 5 then
   some (.inl (some (.inl (.int (M 4 x3 8)))), M)
  else some (.inl (some (.inl (.int (M 4 x3 9)))), M) := (rfl)
theorem eX9_state_44 {n : Nat} {x1 : Int32} {x2 : Int32} {x3 : Nat} {y0 : Nat} {M : am_M} {res : am_O × am_M} (h : (if x2 = 0 then
   some (.inl (some (.inl (.int (M 4 x3 3)))), M)
  else if x2 = 1 then
   some (.inl (some (.inl (.int (M 4 x3 4)))), M)
  else if x2 = 2 then
   some (.inl (some (.inl (.int (M 4 x3 5)))), M)
  else if x2 = 3 then
   some (.inl (some (.inl (.int (M 4 x3 7)))), M)
  else if x2 = 4 then
   some (.inl (some (.inl (.int (M 1 y0 7)))), M)
  else if x2 = 5 then
   some (.inl (some (.inl (.int (M 4 x3 8)))), M)
  else some (.inl (some (.inl (.int (M 4 x3 9)))), M)) = some res) : rX9_state (n + 100) 44 [.inr (9, 0), .inl (.int x1), .inl (.int x2), .inr (4, x3), am_D] [.inr (1, y0)] M = some res := uX9_state ((gX9_state_44 fX9_isWithin fX9_demandArgument fX9_cuvetteOf (rX9_state n) x1 x2 x3 y0 M).trans h)
set_option maxRecDepth 20000 in
theorem gX9_state_44a (F0 F1 F2 : am_F) (k : Nat → List am_V → List am_V → am_M → am_R) (x1 : Int32) (x2 : Int32) (x3 : Nat) (M : am_M) : gX9_state F0 F1 F2 k 44 [.inr (9, 0), .inl (.int x1), .inl (.int x2), .inr (4, x3), am_D] [.inl .null] M =
  if x2 = 0 then
   some (.inl (some (.inl (.int (M 4 x3 3)))), M)
  else if x2 = 1 then
   some (.inl (some (.inl (.int (M 4 x3 4)))), M)
  else if x2 = 2 then
   some (.inl (some (.inl (.int (M 4 x3 5)))), M)
  else if x2 = 3 then
   some (.inl (some (.inl (.int (M 4 x3 7)))), M)
  else if x2 = 4 then
   some (.inl (some (.inl (.int (-1)))), M)
  else if x2 = 5 then
   some (.inl (some (.inl (.int (M 4 x3 8)))), M)
  else some (.inl (some (.inl (.int (M 4 x3 9)))), M) := (rfl)
theorem eX9_state_44a {n : Nat} {x1 : Int32} {x2 : Int32} {x3 : Nat} {M : am_M} {res : am_O × am_M} (h : (if x2 = 0 then
   some (.inl (some (.inl (.int (M 4 x3 3)))), M)
  else if x2 = 1 then
   some (.inl (some (.inl (.int (M 4 x3 4)))), M)
  else if x2 = 2 then
   some (.inl (some (.inl (.int (M 4 x3 5)))), M)
  else if x2 = 3 then
   some (.inl (some (.inl (.int (M 4 x3 7)))), M)
  else if x2 = 4 then
   some (.inl (some (.inl (.int (-1)))), M)
  else if x2 = 5 then
   some (.inl (some (.inl (.int (M 4 x3 8)))), M)
  else some (.inl (some (.inl (.int (M 4 x3 9)))), M)) = some res) : rX9_state (n + 100) 44 [.inr (9, 0), .inl (.int x1), .inl (.int x2), .inr (4, x3), am_D] [.inl .null] M = some res := uX9_state ((gX9_state_44a fX9_isWithin fX9_demandArgument fX9_cuvetteOf (rX9_state n) x1 x2 x3 M).trans h)
def rX9_cuvette (n pc : Nat) (ls st : List am_V) (M : am_M) : am_R := am_run [fX9_isWithin, fX9_demandArgument] [] 1 am_X0 pX9_cuvette n pc ls st M
def gX9_cuvette (F0 F1 : am_F) (k : Nat → List am_V → List am_V → am_M → am_R) (pc : Nat) (ls st : List am_V) (M : am_M) : am_R := am_go [F0, F1] [] 1 am_X0 pX9_cuvette [7, 16, 27] k 100 pc ls st M
theorem uX9_cuvette {n pc : Nat} {ls st : List am_V} {M : am_M} {res : am_O × am_M} (h : gX9_cuvette fX9_isWithin fX9_demandArgument (rX9_cuvette n) pc ls st M = some res) : rX9_cuvette (n + 100) pc ls st M = some res := am_go_ok h
theorem eX9_cuvette (x1 : Int32) (x2 : Int32) (M : am_M) : fX9_cuvette [.inr (9, 0), .inl (.int x1), .inl (.int x2)] M = rX9_cuvette 100000 0 [.inr (9, 0), .inl (.int x1), .inl (.int x2), am_D] [] M := am_meth_eq rfl rfl
set_option maxRecDepth 20000 in
theorem gX9_cuvette_0 (F0 F1 : am_F) (k : Nat → List am_V → List am_V → am_M → am_R) (x1 : Int32) (x2 : Int32) (M : am_M) : gX9_cuvette F0 F1 k 0 [.inr (9, 0), .inl (.int x1), .inl (.int x2), am_D] [] M =
  am_ret [] 4 [] (k 7 [.inr (9, 0), .inl (.int x1), .inl (.int x2), am_D]) (F0 [.inl (.int x1), .inl (.int 0), .inl (.int 9)] M) := (rfl)
theorem eX9_cuvette_0 {n : Nat} {x1 : Int32} {x2 : Int32} {M : am_M} {res : am_O × am_M} (h : (am_ret [] 4 [] (rX9_cuvette n 7 [.inr (9, 0), .inl (.int x1), .inl (.int x2), am_D]) (fX9_isWithin [.inl (.int x1), .inl (.int 0), .inl (.int 9)] M)) = some res) : rX9_cuvette (n + 100) 0 [.inr (9, 0), .inl (.int x1), .inl (.int x2), am_D] [] M = some res := uX9_cuvette ((gX9_cuvette_0 fX9_isWithin fX9_demandArgument (rX9_cuvette n) x1 x2 M).trans h)
set_option maxRecDepth 20000 in
theorem gX9_cuvette_7 (F0 F1 : am_F) (k : Nat → List am_V → List am_V → am_M → am_R) (x1 : Int32) (x2 : Int32) (y0 : Int32) (M : am_M) : gX9_cuvette F0 F1 k 7 [.inr (9, 0), .inl (.int x1), .inl (.int x2), am_D] [.inl (.int y0)] M =
  if y0 = 0 then
   am_ret [] 24 [] (k 27 [.inr (9, 0), .inl (.int x1), .inl (.int x2), am_D]) (F1 [.inl (.int 0)] M)
  else am_ret [] 13 [] (k 16 [.inr (9, 0), .inl (.int x1), .inl (.int x2), am_D]) (F0 [.inl (.int x2), .inl (.int 0), .inl (.int 2)] M) := (rfl)
theorem eX9_cuvette_7 {n : Nat} {x1 : Int32} {x2 : Int32} {y0 : Int32} {M : am_M} {res : am_O × am_M} (h : (if y0 = 0 then
   am_ret [] 24 [] (rX9_cuvette n 27 [.inr (9, 0), .inl (.int x1), .inl (.int x2), am_D]) (fX9_demandArgument [.inl (.int 0)] M)
  else am_ret [] 13 [] (rX9_cuvette n 16 [.inr (9, 0), .inl (.int x1), .inl (.int x2), am_D]) (fX9_isWithin [.inl (.int x2), .inl (.int 0), .inl (.int 2)] M)) = some res) : rX9_cuvette (n + 100) 7 [.inr (9, 0), .inl (.int x1), .inl (.int x2), am_D] [.inl (.int y0)] M = some res := uX9_cuvette ((gX9_cuvette_7 fX9_isWithin fX9_demandArgument (rX9_cuvette n) x1 x2 y0 M).trans h)
set_option maxRecDepth 20000 in
theorem gX9_cuvette_27 (F0 F1 : am_F) (k : Nat → List am_V → List am_V → am_M → am_R) (x1 : Int32) (x2 : Int32) (M : am_M) : gX9_cuvette F0 F1 k 27 [.inr (9, 0), .inl (.int x1), .inl (.int x2), am_D] [] M =
  if am_in x1 10 then
   if x2 = 0 then
    some (.inl (some (.inl (.int (M 1 (Int32.toNatClampNeg x1) 5)))), M)
   else if x2 = 1 then
    some (.inl (some (.inl (.int (M 1 (Int32.toNatClampNeg x1) 8)))), M)
   else some (.inl (some (.inl (.int (M 1 (Int32.toNatClampNeg x1) 9)))), M)
  else none := (rfl)
theorem eX9_cuvette_27 {n : Nat} {x1 : Int32} {x2 : Int32} {M : am_M} {res : am_O × am_M} (h : (if am_in x1 10 then
   if x2 = 0 then
    some (.inl (some (.inl (.int (M 1 (Int32.toNatClampNeg x1) 5)))), M)
   else if x2 = 1 then
    some (.inl (some (.inl (.int (M 1 (Int32.toNatClampNeg x1) 8)))), M)
   else some (.inl (some (.inl (.int (M 1 (Int32.toNatClampNeg x1) 9)))), M)
  else none) = some res) : rX9_cuvette (n + 100) 27 [.inr (9, 0), .inl (.int x1), .inl (.int x2), am_D] [] M = some res := uX9_cuvette ((gX9_cuvette_27 fX9_isWithin fX9_demandArgument (rX9_cuvette n) x1 x2 M).trans h)
set_option maxRecDepth 20000 in
theorem gX9_cuvette_16 (F0 F1 : am_F) (k : Nat → List am_V → List am_V → am_M → am_R) (x1 : Int32) (x2 : Int32) (y0 : Int32) (M : am_M) : gX9_cuvette F0 F1 k 16 [.inr (9, 0), .inl (.int x1), .inl (.int x2), am_D] [.inl (.int y0)] M =
  if y0 = 0 then
   am_ret [] 24 [] (k 27 [.inr (9, 0), .inl (.int x1), .inl (.int x2), am_D]) (F1 [.inl (.int 0)] M)
  else am_ret [] 24 [] (k 27 [.inr (9, 0), .inl (.int x1), .inl (.int x2), am_D]) (F1 [.inl (.int 1)] M) := (rfl)
theorem eX9_cuvette_16 {n : Nat} {x1 : Int32} {x2 : Int32} {y0 : Int32} {M : am_M} {res : am_O × am_M} (h : (if y0 = 0 then
   am_ret [] 24 [] (rX9_cuvette n 27 [.inr (9, 0), .inl (.int x1), .inl (.int x2), am_D]) (fX9_demandArgument [.inl (.int 0)] M)
  else am_ret [] 24 [] (rX9_cuvette n 27 [.inr (9, 0), .inl (.int x1), .inl (.int x2), am_D]) (fX9_demandArgument [.inl (.int 1)] M)) = some res) : rX9_cuvette (n + 100) 16 [.inr (9, 0), .inl (.int x1), .inl (.int x2), am_D] [.inl (.int y0)] M = some res := uX9_cuvette ((gX9_cuvette_16 fX9_isWithin fX9_demandArgument (rX9_cuvette n) x1 x2 y0 M).trans h)
def rX9_volume (n pc : Nat) (ls st : List am_V) (M : am_M) : am_R := am_run [fX9_isWithin, fX9_demandArgument, fX8_isEmpty, fX9_demandElement, fX5_isEmpty] [] 1 am_X0 pX9_volume n pc ls st M
def gX9_volume (F0 F1 F2 F3 F4 : am_F) (k : Nat → List am_V → List am_V → am_M → am_R) (pc : Nat) (ls st : List am_V) (M : am_M) : am_R := am_go [F0, F1, F2, F3, F4] [] 1 am_X0 pX9_volume [6, 27, 38, 51, 62, 81, 92] k 100 pc ls st M
theorem uX9_volume {n pc : Nat} {ls st : List am_V} {M : am_M} {res : am_O × am_M} (h : gX9_volume fX9_isWithin fX9_demandArgument fX8_isEmpty fX9_demandElement fX5_isEmpty (rX9_volume n) pc ls st M = some res) : rX9_volume (n + 100) pc ls st M = some res := am_go_ok h
theorem eX9_volume (x1 : Int32) (x2 : Int32) (M : am_M) : fX9_volume [.inr (9, 0), .inl (.int x1), .inl (.int x2)] M = rX9_volume 100000 0 [.inr (9, 0), .inl (.int x1), .inl (.int x2)] [] M := am_meth_eq rfl rfl
set_option maxRecDepth 20000 in
theorem gX9_volume_0 (F0 F1 F2 F3 F4 : am_F) (k : Nat → List am_V → List am_V → am_M → am_R) (x1 : Int32) (x2 : Int32) (M : am_M) : gX9_volume F0 F1 F2 F3 F4 k 0 [.inr (9, 0), .inl (.int x1), .inl (.int x2)] [] M =
  am_ret [] 3 [] (k 6 [.inr (9, 0), .inl (.int x1), .inl (.int x2)]) (F0 [.inl (.int x1), .inl (.int 0), .inl (.int 2)] M) := (rfl)
theorem eX9_volume_0 {n : Nat} {x1 : Int32} {x2 : Int32} {M : am_M} {res : am_O × am_M} (h : (am_ret [] 3 [] (rX9_volume n 6 [.inr (9, 0), .inl (.int x1), .inl (.int x2)]) (fX9_isWithin [.inl (.int x1), .inl (.int 0), .inl (.int 2)] M)) = some res) : rX9_volume (n + 100) 0 [.inr (9, 0), .inl (.int x1), .inl (.int x2)] [] M = some res := uX9_volume ((gX9_volume_0 fX9_isWithin fX9_demandArgument fX8_isEmpty fX9_demandElement fX5_isEmpty (rX9_volume n) x1 x2 M).trans h)
set_option maxRecDepth 20000 in
theorem gX9_volume_6 (F0 F1 F2 F3 F4 : am_F) (k : Nat → List am_V → List am_V → am_M → am_R) (x1 : Int32) (x2 : Int32) (y0 : Int32) (M : am_M) : gX9_volume F0 F1 F2 F3 F4 k 6 [.inr (9, 0), .inl (.int x1), .inl (.int x2)] [.inl (.int y0)] M =
  if y0 = 0 then
   am_ret [] 35 [] (k 38 [.inr (9, 0), .inl (.int x1), .inl (.int x2)]) (F1 [.inl (.int 0)] M)
  else if x1 = 0 then
   am_ret [] 24 [] (k 27 [.inr (9, 0), .inl (.int x1), .inl (.int x2)]) (F0 [.inl (.int x2), .inl (.int 0), .inl (.int 5)] M)
  else am_ret [] 24 [] (k 27 [.inr (9, 0), .inl (.int x1), .inl (.int x2)]) (F0 [.inl (.int x2), .inl (.int 0), .inl (.int 7)] M) := (rfl)
theorem eX9_volume_6 {n : Nat} {x1 : Int32} {x2 : Int32} {y0 : Int32} {M : am_M} {res : am_O × am_M} (h : (if y0 = 0 then
   am_ret [] 35 [] (rX9_volume n 38 [.inr (9, 0), .inl (.int x1), .inl (.int x2)]) (fX9_demandArgument [.inl (.int 0)] M)
  else if x1 = 0 then
   am_ret [] 24 [] (rX9_volume n 27 [.inr (9, 0), .inl (.int x1), .inl (.int x2)]) (fX9_isWithin [.inl (.int x2), .inl (.int 0), .inl (.int 5)] M)
  else am_ret [] 24 [] (rX9_volume n 27 [.inr (9, 0), .inl (.int x1), .inl (.int x2)]) (fX9_isWithin [.inl (.int x2), .inl (.int 0), .inl (.int 7)] M)) = some res) : rX9_volume (n + 100) 6 [.inr (9, 0), .inl (.int x1), .inl (.int x2)] [.inl (.int y0)] M = some res := uX9_volume ((gX9_volume_6 fX9_isWithin fX9_demandArgument fX8_isEmpty fX9_demandElement fX5_isEmpty (rX9_volume n) x1 x2 y0 M).trans h)
set_option maxRecDepth 20000 in
theorem gX9_volume_38 (F0 F1 F2 F3 F4 : am_F) (k : Nat → List am_V → List am_V → am_M → am_R) (x1 : Int32) (x2 : Int32) (M : am_M) : gX9_volume F0 F1 F2 F3 F4 k 38 [.inr (9, 0), .inl (.int x1), .inl (.int x2)] [] M =
  if x1 = 0 then
   if am_in x2 6 then
    am_ret [] 48 [] (k 51 [.inr (9, 0), .inl (.int x1), .inl (.int x2)]) (F2 [.inr (8, (Int32.toNatClampNeg x2))] M)
   else none
  else if am_in x2 8 then
   am_ret [] 78 [] (k 81 [.inr (9, 0), .inl (.int x1), .inl (.int x2)]) (F4 [.inr (5, (Int32.toNatClampNeg x2))] M)
  else none := (rfl)
theorem eX9_volume_38 {n : Nat} {x1 : Int32} {x2 : Int32} {M : am_M} {res : am_O × am_M} (h : (if x1 = 0 then
   if am_in x2 6 then
    am_ret [] 48 [] (rX9_volume n 51 [.inr (9, 0), .inl (.int x1), .inl (.int x2)]) (fX8_isEmpty [.inr (8, (Int32.toNatClampNeg x2))] M)
   else none
  else if am_in x2 8 then
   am_ret [] 78 [] (rX9_volume n 81 [.inr (9, 0), .inl (.int x1), .inl (.int x2)]) (fX5_isEmpty [.inr (5, (Int32.toNatClampNeg x2))] M)
  else none) = some res) : rX9_volume (n + 100) 38 [.inr (9, 0), .inl (.int x1), .inl (.int x2)] [] M = some res := uX9_volume ((gX9_volume_38 fX9_isWithin fX9_demandArgument fX8_isEmpty fX9_demandElement fX5_isEmpty (rX9_volume n) x1 x2 M).trans h)
set_option maxRecDepth 20000 in
theorem gX9_volume_27 (F0 F1 F2 F3 F4 : am_F) (k : Nat → List am_V → List am_V → am_M → am_R) (x1 : Int32) (x2 : Int32) (y0 : Int32) (M : am_M) : gX9_volume F0 F1 F2 F3 F4 k 27 [.inr (9, 0), .inl (.int x1), .inl (.int x2)] [.inl (.int y0)] M =
  if y0 = 0 then
   am_ret [] 35 [] (k 38 [.inr (9, 0), .inl (.int x1), .inl (.int x2)]) (F1 [.inl (.int 0)] M)
  else am_ret [] 35 [] (k 38 [.inr (9, 0), .inl (.int x1), .inl (.int x2)]) (F1 [.inl (.int 1)] M) := (rfl)
theorem eX9_volume_27 {n : Nat} {x1 : Int32} {x2 : Int32} {y0 : Int32} {M : am_M} {res : am_O × am_M} (h : (if y0 = 0 then
   am_ret [] 35 [] (rX9_volume n 38 [.inr (9, 0), .inl (.int x1), .inl (.int x2)]) (fX9_demandArgument [.inl (.int 0)] M)
  else am_ret [] 35 [] (rX9_volume n 38 [.inr (9, 0), .inl (.int x1), .inl (.int x2)]) (fX9_demandArgument [.inl (.int 1)] M)) = some res) : rX9_volume (n + 100) 27 [.inr (9, 0), .inl (.int x1), .inl (.int x2)] [.inl (.int y0)] M = some res := uX9_volume ((gX9_volume_27 fX9_isWithin fX9_demandArgument fX8_isEmpty fX9_demandElement fX5_isEmpty (rX9_volume n) x1 x2 y0 M).trans h)
set_option maxRecDepth 20000 in
theorem gX9_volume_51 (F0 F1 F2 F3 F4 : am_F) (k : Nat → List am_V → List am_V → am_M → am_R) (x1 : Int32) (x2 : Int32) (y0 : Int32) (M : am_M) : gX9_volume F0 F1 F2 F3 F4 k 51 [.inr (9, 0), .inl (.int x1), .inl (.int x2)] [.inl (.int y0)] M =
  if y0 = 0 then
   am_ret [] 59 [] (k 62 [.inr (9, 0), .inl (.int x1), .inl (.int x2)]) (F3 [.inl (.int 1)] M)
  else am_ret [] 59 [] (k 62 [.inr (9, 0), .inl (.int x1), .inl (.int x2)]) (F3 [.inl (.int 0)] M) := (rfl)
theorem eX9_volume_51 {n : Nat} {x1 : Int32} {x2 : Int32} {y0 : Int32} {M : am_M} {res : am_O × am_M} (h : (if y0 = 0 then
   am_ret [] 59 [] (rX9_volume n 62 [.inr (9, 0), .inl (.int x1), .inl (.int x2)]) (fX9_demandElement [.inl (.int 1)] M)
  else am_ret [] 59 [] (rX9_volume n 62 [.inr (9, 0), .inl (.int x1), .inl (.int x2)]) (fX9_demandElement [.inl (.int 0)] M)) = some res) : rX9_volume (n + 100) 51 [.inr (9, 0), .inl (.int x1), .inl (.int x2)] [.inl (.int y0)] M = some res := uX9_volume ((gX9_volume_51 fX9_isWithin fX9_demandArgument fX8_isEmpty fX9_demandElement fX5_isEmpty (rX9_volume n) x1 x2 y0 M).trans h)
set_option maxRecDepth 20000 in
theorem gX9_volume_81 (F0 F1 F2 F3 F4 : am_F) (k : Nat → List am_V → List am_V → am_M → am_R) (x1 : Int32) (x2 : Int32) (y0 : Int32) (M : am_M) : gX9_volume F0 F1 F2 F3 F4 k 81 [.inr (9, 0), .inl (.int x1), .inl (.int x2)] [.inl (.int y0)] M =
  if y0 = 0 then
   am_ret [] 89 [] (k 92 [.inr (9, 0), .inl (.int x1), .inl (.int x2)]) (F3 [.inl (.int 1)] M)
  else am_ret [] 89 [] (k 92 [.inr (9, 0), .inl (.int x1), .inl (.int x2)]) (F3 [.inl (.int 0)] M) := (rfl)
theorem eX9_volume_81 {n : Nat} {x1 : Int32} {x2 : Int32} {y0 : Int32} {M : am_M} {res : am_O × am_M} (h : (if y0 = 0 then
   am_ret [] 89 [] (rX9_volume n 92 [.inr (9, 0), .inl (.int x1), .inl (.int x2)]) (fX9_demandElement [.inl (.int 1)] M)
  else am_ret [] 89 [] (rX9_volume n 92 [.inr (9, 0), .inl (.int x1), .inl (.int x2)]) (fX9_demandElement [.inl (.int 0)] M)) = some res) : rX9_volume (n + 100) 81 [.inr (9, 0), .inl (.int x1), .inl (.int x2)] [.inl (.int y0)] M = some res := uX9_volume ((gX9_volume_81 fX9_isWithin fX9_demandArgument fX8_isEmpty fX9_demandElement fX5_isEmpty (rX9_volume n) x1 x2 y0 M).trans h)
set_option maxRecDepth 20000 in
theorem gX9_volume_62 (F0 F1 F2 F3 F4 : am_F) (k : Nat → List am_V → List am_V → am_M → am_R) (x1 : Int32) (x2 : Int32) (M : am_M) : gX9_volume F0 F1 F2 F3 F4 k 62 [.inr (9, 0), .inl (.int x1), .inl (.int x2)] [] M =
  if am_in x2 6 then
   some (.inl (some (.inl (.int (M 8 (Int32.toNatClampNeg x2) 2)))), M)
  else none := (rfl)
theorem eX9_volume_62 {n : Nat} {x1 : Int32} {x2 : Int32} {M : am_M} {res : am_O × am_M} (h : (if am_in x2 6 then
   some (.inl (some (.inl (.int (M 8 (Int32.toNatClampNeg x2) 2)))), M)
  else none) = some res) : rX9_volume (n + 100) 62 [.inr (9, 0), .inl (.int x1), .inl (.int x2)] [] M = some res := uX9_volume ((gX9_volume_62 fX9_isWithin fX9_demandArgument fX8_isEmpty fX9_demandElement fX5_isEmpty (rX9_volume n) x1 x2 M).trans h)
set_option maxRecDepth 20000 in
theorem gX9_volume_92 (F0 F1 F2 F3 F4 : am_F) (k : Nat → List am_V → List am_V → am_M → am_R) (x1 : Int32) (x2 : Int32) (M : am_M) : gX9_volume F0 F1 F2 F3 F4 k 92 [.inr (9, 0), .inl (.int x1), .inl (.int x2)] [] M =
  if x1 = 1 then
   if am_in x2 8 then
    some (.inl (some (.inl (.int (M 5 (Int32.toNatClampNeg x2) 1)))), M)
   else none
  else if am_in x2 8 then
   some (.inl (some (.inl (.int (M 5 (Int32.toNatClampNeg x2) 2)))), M)
  else none := (rfl)
theorem eX9_volume_92 {n : Nat} {x1 : Int32} {x2 : Int32} {M : am_M} {res : am_O × am_M} (h : (if x1 = 1 then
   if am_in x2 8 then
    some (.inl (some (.inl (.int (M 5 (Int32.toNatClampNeg x2) 1)))), M)
   else none
  else if am_in x2 8 then
   some (.inl (some (.inl (.int (M 5 (Int32.toNatClampNeg x2) 2)))), M)
  else none) = some res) : rX9_volume (n + 100) 92 [.inr (9, 0), .inl (.int x1), .inl (.int x2)] [] M = some res := uX9_volume ((gX9_volume_92 fX9_isWithin fX9_demandArgument fX8_isEmpty fX9_demandElement fX5_isEmpty (rX9_volume n) x1 x2 M).trans h)
def rX9_trend (n pc : Nat) (ls st : List am_V) (M : am_M) : am_R := am_run [fX9_isWithin, fX9_demandArgument, fX9_demandIndex, fX2_fromLatest] [] 1 am_X0 pX9_trend n pc ls st M
def gX9_trend (F0 F1 F2 F3 : am_F) (k : Nat → List am_V → List am_V → am_M → am_R) (pc : Nat) (ls st : List am_V) (M : am_M) : am_R := am_go [F0, F1, F2, F3] [] 1 am_X0 pX9_trend [6, 9, 30, 33, 38] k 100 pc ls st M
theorem uX9_trend {n pc : Nat} {ls st : List am_V} {M : am_M} {res : am_O × am_M} (h : gX9_trend fX9_isWithin fX9_demandArgument fX9_demandIndex fX2_fromLatest (rX9_trend n) pc ls st M = some res) : rX9_trend (n + 100) pc ls st M = some res := am_go_ok h
theorem eX9_trend (x1 : Int32) (x2 : Int32) (M : am_M) : fX9_trend [.inr (9, 0), .inl (.int x1), .inl (.int x2)] M = rX9_trend 100000 0 [.inr (9, 0), .inl (.int x1), .inl (.int x2), am_D] [] M := am_meth_eq rfl rfl
set_option maxRecDepth 20000 in
theorem gX9_trend_0 (F0 F1 F2 F3 : am_F) (k : Nat → List am_V → List am_V → am_M → am_R) (x1 : Int32) (x2 : Int32) (M : am_M) : gX9_trend F0 F1 F2 F3 k 0 [.inr (9, 0), .inl (.int x1), .inl (.int x2), am_D] [] M =
  am_ret [] 3 [] (k 6 [.inr (9, 0), .inl (.int x1), .inl (.int x2), am_D]) (F0 [.inl (.int x1), .inl (.int 0), .inl (.int 3)] M) := (rfl)
theorem eX9_trend_0 {n : Nat} {x1 : Int32} {x2 : Int32} {M : am_M} {res : am_O × am_M} (h : (am_ret [] 3 [] (rX9_trend n 6 [.inr (9, 0), .inl (.int x1), .inl (.int x2), am_D]) (fX9_isWithin [.inl (.int x1), .inl (.int 0), .inl (.int 3)] M)) = some res) : rX9_trend (n + 100) 0 [.inr (9, 0), .inl (.int x1), .inl (.int x2), am_D] [] M = some res := uX9_trend ((gX9_trend_0 fX9_isWithin fX9_demandArgument fX9_demandIndex fX2_fromLatest (rX9_trend n) x1 x2 M).trans h)
set_option maxRecDepth 20000 in
theorem gX9_trend_6 (F0 F1 F2 F3 : am_F) (k : Nat → List am_V → List am_V → am_M → am_R) (x1 : Int32) (x2 : Int32) (y0 : Int32) (M : am_M) : gX9_trend F0 F1 F2 F3 k 6 [.inr (9, 0), .inl (.int x1), .inl (.int x2), am_D] [.inl (.int y0)] M =
  am_ret [] 6 [] (k 9 [.inr (9, 0), .inl (.int x1), .inl (.int x2), am_D]) (F1 [.inl (.int y0)] M) := (rfl)
theorem eX9_trend_6 {n : Nat} {x1 : Int32} {x2 : Int32} {y0 : Int32} {M : am_M} {res : am_O × am_M} (h : (am_ret [] 6 [] (rX9_trend n 9 [.inr (9, 0), .inl (.int x1), .inl (.int x2), am_D]) (fX9_demandArgument [.inl (.int y0)] M)) = some res) : rX9_trend (n + 100) 6 [.inr (9, 0), .inl (.int x1), .inl (.int x2), am_D] [.inl (.int y0)] M = some res := uX9_trend ((gX9_trend_6 fX9_isWithin fX9_demandArgument fX9_demandIndex fX2_fromLatest (rX9_trend n) x1 x2 y0 M).trans h)
set_option maxRecDepth 20000 in
theorem gX9_trend_9 (F0 F1 F2 F3 : am_F) (k : Nat → List am_V → List am_V → am_M → am_R) (x1 : Int32) (x2 : Int32) (M : am_M) : gX9_trend F0 F1 F2 F3 k 9 [.inr (9, 0), .inl (.int x1), .inl (.int x2), am_D] [] M =
  if am_in x1 4 then
   am_ret [] 27 [] (k 30 [.inr (9, 0), .inl (.int x1), .inl (.int x2), .inr (2, (Int32.toNatClampNeg x1))]) (F0 [.inl (.int x2), .inl (.int 0), .inl (.int ((M 2 (Int32.toNatClampNeg x1) 1) - 1))] M)
  else none := (rfl)
theorem eX9_trend_9 {n : Nat} {x1 : Int32} {x2 : Int32} {M : am_M} {res : am_O × am_M} (h : (if am_in x1 4 then
   am_ret [] 27 [] (rX9_trend n 30 [.inr (9, 0), .inl (.int x1), .inl (.int x2), .inr (2, (Int32.toNatClampNeg x1))]) (fX9_isWithin [.inl (.int x2), .inl (.int 0), .inl (.int ((M 2 (Int32.toNatClampNeg x1) 1) - 1))] M)
  else none) = some res) : rX9_trend (n + 100) 9 [.inr (9, 0), .inl (.int x1), .inl (.int x2), am_D] [] M = some res := uX9_trend ((gX9_trend_9 fX9_isWithin fX9_demandArgument fX9_demandIndex fX2_fromLatest (rX9_trend n) x1 x2 M).trans h)
set_option maxRecDepth 20000 in
theorem gX9_trend_30 (F0 F1 F2 F3 : am_F) (k : Nat → List am_V → List am_V → am_M → am_R) (x1 : Int32) (x2 : Int32) (x3 : Nat) (y0 : Int32) (M : am_M) : gX9_trend F0 F1 F2 F3 k 30 [.inr (9, 0), .inl (.int x1), .inl (.int x2), .inr (2, x3)] [.inl (.int y0)] M =
  am_ret [] 30 [] (k 33 [.inr (9, 0), .inl (.int x1), .inl (.int x2), .inr (2, x3)]) (F2 [.inl (.int y0)] M) := (rfl)
theorem eX9_trend_30 {n : Nat} {x1 : Int32} {x2 : Int32} {x3 : Nat} {y0 : Int32} {M : am_M} {res : am_O × am_M} (h : (am_ret [] 30 [] (rX9_trend n 33 [.inr (9, 0), .inl (.int x1), .inl (.int x2), .inr (2, x3)]) (fX9_demandIndex [.inl (.int y0)] M)) = some res) : rX9_trend (n + 100) 30 [.inr (9, 0), .inl (.int x1), .inl (.int x2), .inr (2, x3)] [.inl (.int y0)] M = some res := uX9_trend ((gX9_trend_30 fX9_isWithin fX9_demandArgument fX9_demandIndex fX2_fromLatest (rX9_trend n) x1 x2 x3 y0 M).trans h)
set_option maxRecDepth 20000 in
theorem gX9_trend_33 (F0 F1 F2 F3 : am_F) (k : Nat → List am_V → List am_V → am_M → am_R) (x1 : Int32) (x2 : Int32) (x3 : Nat) (M : am_M) : gX9_trend F0 F1 F2 F3 k 33 [.inr (9, 0), .inl (.int x1), .inl (.int x2), .inr (2, x3)] [] M =
  am_ret [] 35 [] (k 38 [.inr (9, 0), .inl (.int x1), .inl (.int x2), .inr (2, x3)]) (F3 [.inr (2, x3), .inl (.int x2)] M) := (rfl)
theorem eX9_trend_33 {n : Nat} {x1 : Int32} {x2 : Int32} {x3 : Nat} {M : am_M} {res : am_O × am_M} (h : (am_ret [] 35 [] (rX9_trend n 38 [.inr (9, 0), .inl (.int x1), .inl (.int x2), .inr (2, x3)]) (fX2_fromLatest [.inr (2, x3), .inl (.int x2)] M)) = some res) : rX9_trend (n + 100) 33 [.inr (9, 0), .inl (.int x1), .inl (.int x2), .inr (2, x3)] [] M = some res := uX9_trend ((gX9_trend_33 fX9_isWithin fX9_demandArgument fX9_demandIndex fX2_fromLatest (rX9_trend n) x1 x2 x3 M).trans h)
set_option maxRecDepth 20000 in
theorem gX9_trend_38 (F0 F1 F2 F3 : am_F) (k : Nat → List am_V → List am_V → am_M → am_R) (x1 : Int32) (x2 : Int32) (x3 : Nat) (y0 : Int32) (M : am_M) : gX9_trend F0 F1 F2 F3 k 38 [.inr (9, 0), .inl (.int x1), .inl (.int x2), .inr (2, x3)] [.inl (.int y0)] M =
  some (.inl (some (.inl (.int y0))), M) := (rfl)
theorem eX9_trend_38 {n : Nat} {x1 : Int32} {x2 : Int32} {x3 : Nat} {y0 : Int32} {M : am_M} {res : am_O × am_M} (h : (some (.inl (some (.inl (.int y0))), M)) = some res) : rX9_trend (n + 100) 38 [.inr (9, 0), .inl (.int x1), .inl (.int x2), .inr (2, x3)] [.inl (.int y0)] M = some res := uX9_trend ((gX9_trend_38 fX9_isWithin fX9_demandArgument fX9_demandIndex fX2_fromLatest (rX9_trend n) x1 x2 x3 y0 M).trans h)
def rX9_rules (n pc : Nat) (ls st : List am_V) (M : am_M) : am_R := am_run [fX9_isWithin, fX9_demandArgument, fX6_brokenRules] [] 1 am_X0 pX9_rules n pc ls st M
def gX9_rules (F0 F1 F2 : am_F) (k : Nat → List am_V → List am_V → am_M → am_R) (pc : Nat) (ls st : List am_V) (M : am_M) : am_R := am_go [F0, F1, F2] [] 1 am_X0 pX9_rules [6, 9, 18] k 100 pc ls st M
theorem uX9_rules {n pc : Nat} {ls st : List am_V} {M : am_M} {res : am_O × am_M} (h : gX9_rules fX9_isWithin fX9_demandArgument fX6_brokenRules (rX9_rules n) pc ls st M = some res) : rX9_rules (n + 100) pc ls st M = some res := am_go_ok h
theorem eX9_rules (x1 : Int32) (M : am_M) : fX9_rules [.inr (9, 0), .inl (.int x1)] M = rX9_rules 100000 0 [.inr (9, 0), .inl (.int x1)] [] M := am_meth_eq rfl rfl
set_option maxRecDepth 20000 in
theorem gX9_rules_0 (F0 F1 F2 : am_F) (k : Nat → List am_V → List am_V → am_M → am_R) (x1 : Int32) (M : am_M) : gX9_rules F0 F1 F2 k 0 [.inr (9, 0), .inl (.int x1)] [] M =
  am_ret [] 3 [] (k 6 [.inr (9, 0), .inl (.int x1)]) (F0 [.inl (.int x1), .inl (.int 0), .inl (.int 3)] M) := (rfl)
theorem eX9_rules_0 {n : Nat} {x1 : Int32} {M : am_M} {res : am_O × am_M} (h : (am_ret [] 3 [] (rX9_rules n 6 [.inr (9, 0), .inl (.int x1)]) (fX9_isWithin [.inl (.int x1), .inl (.int 0), .inl (.int 3)] M)) = some res) : rX9_rules (n + 100) 0 [.inr (9, 0), .inl (.int x1)] [] M = some res := uX9_rules ((gX9_rules_0 fX9_isWithin fX9_demandArgument fX6_brokenRules (rX9_rules n) x1 M).trans h)
set_option maxRecDepth 20000 in
theorem gX9_rules_6 (F0 F1 F2 : am_F) (k : Nat → List am_V → List am_V → am_M → am_R) (x1 : Int32) (y0 : Int32) (M : am_M) : gX9_rules F0 F1 F2 k 6 [.inr (9, 0), .inl (.int x1)] [.inl (.int y0)] M =
  am_ret [] 6 [] (k 9 [.inr (9, 0), .inl (.int x1)]) (F1 [.inl (.int y0)] M) := (rfl)
theorem eX9_rules_6 {n : Nat} {x1 : Int32} {y0 : Int32} {M : am_M} {res : am_O × am_M} (h : (am_ret [] 6 [] (rX9_rules n 9 [.inr (9, 0), .inl (.int x1)]) (fX9_demandArgument [.inl (.int y0)] M)) = some res) : rX9_rules (n + 100) 6 [.inr (9, 0), .inl (.int x1)] [.inl (.int y0)] M = some res := uX9_rules ((gX9_rules_6 fX9_isWithin fX9_demandArgument fX6_brokenRules (rX9_rules n) x1 y0 M).trans h)
set_option maxRecDepth 20000 in
theorem gX9_rules_9 (F0 F1 F2 : am_F) (k : Nat → List am_V → List am_V → am_M → am_R) (x1 : Int32) (M : am_M) : gX9_rules F0 F1 F2 k 9 [.inr (9, 0), .inl (.int x1)] [] M =
  if am_in x1 4 then
   am_ret [] 15 [] (k 18 [.inr (9, 0), .inl (.int x1)]) (F2 [.inr (6, (Int32.toNatClampNeg x1))] M)
  else none := (rfl)
theorem eX9_rules_9 {n : Nat} {x1 : Int32} {M : am_M} {res : am_O × am_M} (h : (if am_in x1 4 then
   am_ret [] 15 [] (rX9_rules n 18 [.inr (9, 0), .inl (.int x1)]) (fX6_brokenRules [.inr (6, (Int32.toNatClampNeg x1))] M)
  else none) = some res) : rX9_rules (n + 100) 9 [.inr (9, 0), .inl (.int x1)] [] M = some res := uX9_rules ((gX9_rules_9 fX9_isWithin fX9_demandArgument fX6_brokenRules (rX9_rules n) x1 M).trans h)
set_option maxRecDepth 20000 in
theorem gX9_rules_18 (F0 F1 F2 : am_F) (k : Nat → List am_V → List am_V → am_M → am_R) (x1 : Int32) (y0 : Int32) (M : am_M) : gX9_rules F0 F1 F2 k 18 [.inr (9, 0), .inl (.int x1)] [.inl (.int y0)] M =
  some (.inl (some (.inl (.int y0))), M) := (rfl)
theorem eX9_rules_18 {n : Nat} {x1 : Int32} {y0 : Int32} {M : am_M} {res : am_O × am_M} (h : (some (.inl (some (.inl (.int y0))), M)) = some res) : rX9_rules (n + 100) 18 [.inr (9, 0), .inl (.int x1)] [.inl (.int y0)] M = some res := uX9_rules ((gX9_rules_18 fX9_isWithin fX9_demandArgument fX6_brokenRules (rX9_rules n) x1 y0 M).trans h)
