/-! ===== the runs, piece by piece ===== -/
def rX10_placeFor (n pc : Nat) (ls st : List am_V) (M : am_M) : am_R := am_run [fX10_reserved] [] 1 am_X0 pX10_placeFor n pc ls st M
def gX10_placeFor (k : Nat → List am_V → List am_V → am_M → am_R) (pc : Nat) (ls st : List am_V) (M : am_M) : am_R := am_go [fX10_reserved] [] 1 am_X0 pX10_placeFor [5, 50] k 100 pc ls st M
theorem uX10_placeFor {n pc : Nat} {ls st : List am_V} {M : am_M} {res : am_O × am_M} (h : gX10_placeFor (rX10_placeFor n) pc ls st M = some res) : rX10_placeFor (n + 100) pc ls st M = some res := am_go_ok h
theorem eX10_placeFor (x1 : Int32) (x2 : Int32) (M : am_M) : fX10_placeFor [.inr (10, 0), .inl (.int x1), .inl (.int x2)] M = rX10_placeFor 100000 0 [.inr (10, 0), .inl (.int x1), .inl (.int x2), am_D, am_D, am_D] [] M := am_meth_eq rfl rfl
set_option maxRecDepth 20000 in
theorem gX10_placeFor_0 (k : Nat → List am_V → List am_V → am_M → am_R) (x1 : Int32) (x2 : Int32) (M : am_M) : gX10_placeFor k 0 [.inr (10, 0), .inl (.int x1), .inl (.int x2), am_D, am_D, am_D] [] M =
  k 5 [.inr (10, 0), .inl (.int x1), .inl (.int x2), .inl (.int (-1)), .inl (.int 0), am_D] [] M := (rfl)
theorem eX10_placeFor_0 {n : Nat} {x1 : Int32} {x2 : Int32} {M : am_M} {res : am_O × am_M} (h : (rX10_placeFor n 5 [.inr (10, 0), .inl (.int x1), .inl (.int x2), .inl (.int (-1)), .inl (.int 0), am_D] [] M) = some res) : rX10_placeFor (n + 100) 0 [.inr (10, 0), .inl (.int x1), .inl (.int x2), am_D, am_D, am_D] [] M = some res := uX10_placeFor ((gX10_placeFor_0 (rX10_placeFor n) x1 x2 M).trans h)
set_option maxRecDepth 20000 in
theorem gX10_placeFor_5 (k : Nat → List am_V → List am_V → am_M → am_R) (x1 : Int32) (x2 : Int32) (x3 : Int32) (x4 : Int32) (M : am_M) : gX10_placeFor k 5 [.inr (10, 0), .inl (.int x1), .inl (.int x2), .inl (.int x3), .inl (.int x4), am_D] [] M =
  if 8 ≤ x4 then
   some (.inl (some (.inl (.int x3))), M)
  else if am_in x4 8 then
   if (M 40 0 (Int32.toNatClampNeg x4)) = x1 then
    if am_in x4 8 then
     if (M 42 0 (Int32.toNatClampNeg x4)) ≤ (M 10 0 41) then
      k 5 [.inr (10, 0), .inl (.int x1), .inl (.int x2), .inl (.int x3), .inl (.int (x4 + 1)), .inl (.int 0)] [] M
     else if am_in x4 8 then
      am_ret [] 47 [.inl (.int (M 41 0 (Int32.toNatClampNeg x4)))] (k 50 [.inr (10, 0), .inl (.int x1), .inl (.int x2), .inl (.int x3), .inl (.int x4), am_D]) (fX10_reserved [.inr (10, 0), .inl (.int x4)] M)
     else none
    else none
   else k 5 [.inr (10, 0), .inl (.int x1), .inl (.int x2), .inl (.int x3), .inl (.int (x4 + 1)), .inl (.int 0)] [] M
  else none := (rfl)
theorem eX10_placeFor_5 {n : Nat} {x1 : Int32} {x2 : Int32} {x3 : Int32} {x4 : Int32} {M : am_M} {res : am_O × am_M} (h : (if 8 ≤ x4 then
   some (.inl (some (.inl (.int x3))), M)
  else if am_in x4 8 then
   if (M 40 0 (Int32.toNatClampNeg x4)) = x1 then
    if am_in x4 8 then
     if (M 42 0 (Int32.toNatClampNeg x4)) ≤ (M 10 0 41) then
      rX10_placeFor n 5 [.inr (10, 0), .inl (.int x1), .inl (.int x2), .inl (.int x3), .inl (.int (x4 + 1)), .inl (.int 0)] [] M
     else if am_in x4 8 then
      am_ret [] 47 [.inl (.int (M 41 0 (Int32.toNatClampNeg x4)))] (rX10_placeFor n 50 [.inr (10, 0), .inl (.int x1), .inl (.int x2), .inl (.int x3), .inl (.int x4), am_D]) (fX10_reserved [.inr (10, 0), .inl (.int x4)] M)
     else none
    else none
   else rX10_placeFor n 5 [.inr (10, 0), .inl (.int x1), .inl (.int x2), .inl (.int x3), .inl (.int (x4 + 1)), .inl (.int 0)] [] M
  else none) = some res) : rX10_placeFor (n + 100) 5 [.inr (10, 0), .inl (.int x1), .inl (.int x2), .inl (.int x3), .inl (.int x4), am_D] [] M = some res := uX10_placeFor ((gX10_placeFor_5 (rX10_placeFor n) x1 x2 x3 x4 M).trans h)
set_option maxRecDepth 20000 in
theorem gX10_placeFor_5a (k : Nat → List am_V → List am_V → am_M → am_R) (x1 : Int32) (x2 : Int32) (x3 : Int32) (x4 : Int32) (x5 : Int32) (M : am_M) : gX10_placeFor k 5 [.inr (10, 0), .inl (.int x1), .inl (.int x2), .inl (.int x3), .inl (.int x4), .inl (.int x5)] [] M =
  if 8 ≤ x4 then
   some (.inl (some (.inl (.int x3))), M)
  else if am_in x4 8 then
   if (M 40 0 (Int32.toNatClampNeg x4)) = x1 then
    if am_in x4 8 then
     if (M 42 0 (Int32.toNatClampNeg x4)) ≤ (M 10 0 41) then
      k 5 [.inr (10, 0), .inl (.int x1), .inl (.int x2), .inl (.int x3), .inl (.int (x4 + 1)), .inl (.int 0)] [] M
     else if am_in x4 8 then
      am_ret [] 47 [.inl (.int (M 41 0 (Int32.toNatClampNeg x4)))] (k 50 [.inr (10, 0), .inl (.int x1), .inl (.int x2), .inl (.int x3), .inl (.int x4), .inl (.int x5)]) (fX10_reserved [.inr (10, 0), .inl (.int x4)] M)
     else none
    else none
   else k 5 [.inr (10, 0), .inl (.int x1), .inl (.int x2), .inl (.int x3), .inl (.int (x4 + 1)), .inl (.int 0)] [] M
  else none := (rfl)
theorem eX10_placeFor_5a {n : Nat} {x1 : Int32} {x2 : Int32} {x3 : Int32} {x4 : Int32} {x5 : Int32} {M : am_M} {res : am_O × am_M} (h : (if 8 ≤ x4 then
   some (.inl (some (.inl (.int x3))), M)
  else if am_in x4 8 then
   if (M 40 0 (Int32.toNatClampNeg x4)) = x1 then
    if am_in x4 8 then
     if (M 42 0 (Int32.toNatClampNeg x4)) ≤ (M 10 0 41) then
      rX10_placeFor n 5 [.inr (10, 0), .inl (.int x1), .inl (.int x2), .inl (.int x3), .inl (.int (x4 + 1)), .inl (.int 0)] [] M
     else if am_in x4 8 then
      am_ret [] 47 [.inl (.int (M 41 0 (Int32.toNatClampNeg x4)))] (rX10_placeFor n 50 [.inr (10, 0), .inl (.int x1), .inl (.int x2), .inl (.int x3), .inl (.int x4), .inl (.int x5)]) (fX10_reserved [.inr (10, 0), .inl (.int x4)] M)
     else none
    else none
   else rX10_placeFor n 5 [.inr (10, 0), .inl (.int x1), .inl (.int x2), .inl (.int x3), .inl (.int (x4 + 1)), .inl (.int 0)] [] M
  else none) = some res) : rX10_placeFor (n + 100) 5 [.inr (10, 0), .inl (.int x1), .inl (.int x2), .inl (.int x3), .inl (.int x4), .inl (.int x5)] [] M = some res := uX10_placeFor ((gX10_placeFor_5a (rX10_placeFor n) x1 x2 x3 x4 x5 M).trans h)
set_option maxRecDepth 20000 in
theorem gX10_placeFor_50 (k : Nat → List am_V → List am_V → am_M → am_R) (x1 : Int32) (x2 : Int32) (x3 : Int32) (x4 : Int32) (y0 : Int32) (y1 : Int32) (M : am_M) : gX10_placeFor k 50 [.inr (10, 0), .inl (.int x1), .inl (.int x2), .inl (.int x3), .inl (.int x4), am_D] [.inl (.int y0), .inl (.int y1)] M =
  if (y1 - y0) < x2 then
   k 5 [.inr (10, 0), .inl (.int x1), .inl (.int x2), .inl (.int x3), .inl (.int (x4 + 1)), .inl (.int 0)] [] M
  else if x3 < 0 then
   k 5 [.inr (10, 0), .inl (.int x1), .inl (.int x2), .inl (.int x4), .inl (.int (x4 + 1)), .inl (.int 1)] [] M
  else if am_in x4 8 then
   if am_in x3 8 then
    if (M 42 0 (Int32.toNatClampNeg x3)) ≤ (M 42 0 (Int32.toNatClampNeg x4)) then
     k 5 [.inr (10, 0), .inl (.int x1), .inl (.int x2), .inl (.int x3), .inl (.int (x4 + 1)), .inl (.int 1)] [] M
    else k 5 [.inr (10, 0), .inl (.int x1), .inl (.int x2), .inl (.int x4), .inl (.int (x4 + 1)), .inl (.int 1)] [] M
   else none
  else none := (rfl)
theorem eX10_placeFor_50 {n : Nat} {x1 : Int32} {x2 : Int32} {x3 : Int32} {x4 : Int32} {y0 : Int32} {y1 : Int32} {M : am_M} {res : am_O × am_M} (h : (if (y1 - y0) < x2 then
   rX10_placeFor n 5 [.inr (10, 0), .inl (.int x1), .inl (.int x2), .inl (.int x3), .inl (.int (x4 + 1)), .inl (.int 0)] [] M
  else if x3 < 0 then
   rX10_placeFor n 5 [.inr (10, 0), .inl (.int x1), .inl (.int x2), .inl (.int x4), .inl (.int (x4 + 1)), .inl (.int 1)] [] M
  else if am_in x4 8 then
   if am_in x3 8 then
    if (M 42 0 (Int32.toNatClampNeg x3)) ≤ (M 42 0 (Int32.toNatClampNeg x4)) then
     rX10_placeFor n 5 [.inr (10, 0), .inl (.int x1), .inl (.int x2), .inl (.int x3), .inl (.int (x4 + 1)), .inl (.int 1)] [] M
    else rX10_placeFor n 5 [.inr (10, 0), .inl (.int x1), .inl (.int x2), .inl (.int x4), .inl (.int (x4 + 1)), .inl (.int 1)] [] M
   else none
  else none) = some res) : rX10_placeFor (n + 100) 50 [.inr (10, 0), .inl (.int x1), .inl (.int x2), .inl (.int x3), .inl (.int x4), am_D] [.inl (.int y0), .inl (.int y1)] M = some res := uX10_placeFor ((gX10_placeFor_50 (rX10_placeFor n) x1 x2 x3 x4 y0 y1 M).trans h)
set_option maxRecDepth 20000 in
theorem gX10_placeFor_50a (k : Nat → List am_V → List am_V → am_M → am_R) (x1 : Int32) (x2 : Int32) (x3 : Int32) (x4 : Int32) (x5 : Int32) (y0 : Int32) (y1 : Int32) (M : am_M) : gX10_placeFor k 50 [.inr (10, 0), .inl (.int x1), .inl (.int x2), .inl (.int x3), .inl (.int x4), .inl (.int x5)] [.inl (.int y0), .inl (.int y1)] M =
  if (y1 - y0) < x2 then
   k 5 [.inr (10, 0), .inl (.int x1), .inl (.int x2), .inl (.int x3), .inl (.int (x4 + 1)), .inl (.int 0)] [] M
  else if x3 < 0 then
   k 5 [.inr (10, 0), .inl (.int x1), .inl (.int x2), .inl (.int x4), .inl (.int (x4 + 1)), .inl (.int 1)] [] M
  else if am_in x4 8 then
   if am_in x3 8 then
    if (M 42 0 (Int32.toNatClampNeg x3)) ≤ (M 42 0 (Int32.toNatClampNeg x4)) then
     k 5 [.inr (10, 0), .inl (.int x1), .inl (.int x2), .inl (.int x3), .inl (.int (x4 + 1)), .inl (.int 1)] [] M
    else k 5 [.inr (10, 0), .inl (.int x1), .inl (.int x2), .inl (.int x4), .inl (.int (x4 + 1)), .inl (.int 1)] [] M
   else none
  else none := (rfl)
theorem eX10_placeFor_50a {n : Nat} {x1 : Int32} {x2 : Int32} {x3 : Int32} {x4 : Int32} {x5 : Int32} {y0 : Int32} {y1 : Int32} {M : am_M} {res : am_O × am_M} (h : (if (y1 - y0) < x2 then
   rX10_placeFor n 5 [.inr (10, 0), .inl (.int x1), .inl (.int x2), .inl (.int x3), .inl (.int (x4 + 1)), .inl (.int 0)] [] M
  else if x3 < 0 then
   rX10_placeFor n 5 [.inr (10, 0), .inl (.int x1), .inl (.int x2), .inl (.int x4), .inl (.int (x4 + 1)), .inl (.int 1)] [] M
  else if am_in x4 8 then
   if am_in x3 8 then
    if (M 42 0 (Int32.toNatClampNeg x3)) ≤ (M 42 0 (Int32.toNatClampNeg x4)) then
     rX10_placeFor n 5 [.inr (10, 0), .inl (.int x1), .inl (.int x2), .inl (.int x3), .inl (.int (x4 + 1)), .inl (.int 1)] [] M
    else rX10_placeFor n 5 [.inr (10, 0), .inl (.int x1), .inl (.int x2), .inl (.int x4), .inl (.int (x4 + 1)), .inl (.int 1)] [] M
   else none
  else none) = some res) : rX10_placeFor (n + 100) 50 [.inr (10, 0), .inl (.int x1), .inl (.int x2), .inl (.int x3), .inl (.int x4), .inl (.int x5)] [.inl (.int y0), .inl (.int y1)] M = some res := uX10_placeFor ((gX10_placeFor_50a (rX10_placeFor n) x1 x2 x3 x4 x5 y0 y1 M).trans h)
def rX10_book (n pc : Nat) (ls st : List am_V) (M : am_M) : am_R := am_run [fX10_of, fX10_placeFor] [] 2 am_X0 pX10_book n pc ls st M
def gX10_book (k : Nat → List am_V → List am_V → am_M → am_R) (pc : Nat) (ls st : List am_V) (M : am_M) : am_R := am_go [fX10_of, fX10_placeFor] [] 2 am_X0 pX10_book [24, 44, 47, 78, 120] k 100 pc ls st M
theorem uX10_book {n pc : Nat} {ls st : List am_V} {M : am_M} {res : am_O × am_M} (h : gX10_book (rX10_book n) pc ls st M = some res) : rX10_book (n + 100) pc ls st M = some res := am_go_ok h
theorem eX10_book (x1 : Int32) (M : am_M) : fX10_book [.inr (10, 0), .inl (.int x1)] M = rX10_book 100000 0 [.inr (10, 0), .inl (.int x1), am_D, am_D, am_D, am_D] [] M := am_meth_eq rfl rfl
set_option maxRecDepth 20000 in
theorem gX10_book_0 (k : Nat → List am_V → List am_V → am_M → am_R) (x1 : Int32) (M : am_M) : gX10_book k 0 [.inr (10, 0), .inl (.int x1), am_D, am_D, am_D, am_D] [] M =
  if am_in x1 40 then
   am_ret [] 21 [] (k 24 [.inr (10, 0), .inl (.int x1), .inl (.int (M 46 0 (Int32.toNatClampNeg x1))), .inl (.int 0), am_D, am_D]) (fX10_of [.inr (10, 0), .inl (.int (M 46 0 (Int32.toNatClampNeg x1))), .inl (.int 1)] M)
  else none := (rfl)
theorem eX10_book_0 {n : Nat} {x1 : Int32} {M : am_M} {res : am_O × am_M} (h : (if am_in x1 40 then
   am_ret [] 21 [] (rX10_book n 24 [.inr (10, 0), .inl (.int x1), .inl (.int (M 46 0 (Int32.toNatClampNeg x1))), .inl (.int 0), am_D, am_D]) (fX10_of [.inr (10, 0), .inl (.int (M 46 0 (Int32.toNatClampNeg x1))), .inl (.int 1)] M)
  else none) = some res) : rX10_book (n + 100) 0 [.inr (10, 0), .inl (.int x1), am_D, am_D, am_D, am_D] [] M = some res := uX10_book ((gX10_book_0 (rX10_book n) x1 M).trans h)
set_option maxRecDepth 20000 in
theorem gX10_book_24 (k : Nat → List am_V → List am_V → am_M → am_R) (x1 : Int32) (x2 : Int32) (x3 : Int32) (y0 : Int32) (M : am_M) : gX10_book k 24 [.inr (10, 0), .inl (.int x1), .inl (.int x2), .inl (.int x3), am_D, am_D] [.inl (.int y0)] M =
  if y0 < 0 then
   if 2 ≤ (x3 + 1) then
    some (.inl (some (.inl (.int 1))), M)
   else am_ret [] 21 [] (k 24 [.inr (10, 0), .inl (.int x1), .inl (.int x2), .inl (.int (x3 + 1)), .inl (.int y0), am_D]) (fX10_of [.inr (10, 0), .inl (.int x2), .inl (.int ((3 * (x3 + 1)) + 1))] M)
  else am_ret [] 41 [.inl (.int y0), .inr (10, 0)] (k 44 [.inr (10, 0), .inl (.int x1), .inl (.int x2), .inl (.int x3), .inl (.int y0), am_D]) (fX10_of [.inr (10, 0), .inl (.int x2), .inl (.int ((3 * x3) + 2))] M) := (rfl)
theorem eX10_book_24 {n : Nat} {x1 : Int32} {x2 : Int32} {x3 : Int32} {y0 : Int32} {M : am_M} {res : am_O × am_M} (h : (if y0 < 0 then
   if 2 ≤ (x3 + 1) then
    some (.inl (some (.inl (.int 1))), M)
   else am_ret [] 21 [] (rX10_book n 24 [.inr (10, 0), .inl (.int x1), .inl (.int x2), .inl (.int (x3 + 1)), .inl (.int y0), am_D]) (fX10_of [.inr (10, 0), .inl (.int x2), .inl (.int ((3 * (x3 + 1)) + 1))] M)
  else am_ret [] 41 [.inl (.int y0), .inr (10, 0)] (rX10_book n 44 [.inr (10, 0), .inl (.int x1), .inl (.int x2), .inl (.int x3), .inl (.int y0), am_D]) (fX10_of [.inr (10, 0), .inl (.int x2), .inl (.int ((3 * x3) + 2))] M)) = some res) : rX10_book (n + 100) 24 [.inr (10, 0), .inl (.int x1), .inl (.int x2), .inl (.int x3), am_D, am_D] [.inl (.int y0)] M = some res := uX10_book ((gX10_book_24 (rX10_book n) x1 x2 x3 y0 M).trans h)
set_option maxRecDepth 20000 in
theorem gX10_book_24a (k : Nat → List am_V → List am_V → am_M → am_R) (x1 : Int32) (x2 : Int32) (x3 : Int32) (x4 : Int32) (y0 : Int32) (M : am_M) : gX10_book k 24 [.inr (10, 0), .inl (.int x1), .inl (.int x2), .inl (.int x3), .inl (.int x4), am_D] [.inl (.int y0)] M =
  if y0 < 0 then
   if 2 ≤ (x3 + 1) then
    some (.inl (some (.inl (.int 1))), M)
   else am_ret [] 21 [] (k 24 [.inr (10, 0), .inl (.int x1), .inl (.int x2), .inl (.int (x3 + 1)), .inl (.int y0), am_D]) (fX10_of [.inr (10, 0), .inl (.int x2), .inl (.int ((3 * (x3 + 1)) + 1))] M)
  else am_ret [] 41 [.inl (.int y0), .inr (10, 0)] (k 44 [.inr (10, 0), .inl (.int x1), .inl (.int x2), .inl (.int x3), .inl (.int y0), am_D]) (fX10_of [.inr (10, 0), .inl (.int x2), .inl (.int ((3 * x3) + 2))] M) := (rfl)
theorem eX10_book_24a {n : Nat} {x1 : Int32} {x2 : Int32} {x3 : Int32} {x4 : Int32} {y0 : Int32} {M : am_M} {res : am_O × am_M} (h : (if y0 < 0 then
   if 2 ≤ (x3 + 1) then
    some (.inl (some (.inl (.int 1))), M)
   else am_ret [] 21 [] (rX10_book n 24 [.inr (10, 0), .inl (.int x1), .inl (.int x2), .inl (.int (x3 + 1)), .inl (.int y0), am_D]) (fX10_of [.inr (10, 0), .inl (.int x2), .inl (.int ((3 * (x3 + 1)) + 1))] M)
  else am_ret [] 41 [.inl (.int y0), .inr (10, 0)] (rX10_book n 44 [.inr (10, 0), .inl (.int x1), .inl (.int x2), .inl (.int x3), .inl (.int y0), am_D]) (fX10_of [.inr (10, 0), .inl (.int x2), .inl (.int ((3 * x3) + 2))] M)) = some res) : rX10_book (n + 100) 24 [.inr (10, 0), .inl (.int x1), .inl (.int x2), .inl (.int x3), .inl (.int x4), am_D] [.inl (.int y0)] M = some res := uX10_book ((gX10_book_24a (rX10_book n) x1 x2 x3 x4 y0 M).trans h)
set_option maxRecDepth 20000 in
theorem gX10_book_44 (k : Nat → List am_V → List am_V → am_M → am_R) (x1 : Int32) (x2 : Int32) (x3 : Int32) (x4 : Int32) (y0 : Int32) (y1 : Int32) (M : am_M) : gX10_book k 44 [.inr (10, 0), .inl (.int x1), .inl (.int x2), .inl (.int x3), .inl (.int x4), am_D] [.inl (.int y0), .inl (.int y1), .inr (10, 0)] M =
  am_ret [] 44 [] (k 47 [.inr (10, 0), .inl (.int x1), .inl (.int x2), .inl (.int x3), .inl (.int x4), am_D]) (fX10_placeFor [.inr (10, 0), .inl (.int y1), .inl (.int y0)] M) := (rfl)
theorem eX10_book_44 {n : Nat} {x1 : Int32} {x2 : Int32} {x3 : Int32} {x4 : Int32} {y0 : Int32} {y1 : Int32} {M : am_M} {res : am_O × am_M} (h : (am_ret [] 44 [] (rX10_book n 47 [.inr (10, 0), .inl (.int x1), .inl (.int x2), .inl (.int x3), .inl (.int x4), am_D]) (fX10_placeFor [.inr (10, 0), .inl (.int y1), .inl (.int y0)] M)) = some res) : rX10_book (n + 100) 44 [.inr (10, 0), .inl (.int x1), .inl (.int x2), .inl (.int x3), .inl (.int x4), am_D] [.inl (.int y0), .inl (.int y1), .inr (10, 0)] M = some res := uX10_book ((gX10_book_44 (rX10_book n) x1 x2 x3 x4 y0 y1 M).trans h)
set_option maxRecDepth 20000 in
theorem gX10_book_47 (k : Nat → List am_V → List am_V → am_M → am_R) (x1 : Int32) (x2 : Int32) (x3 : Int32) (x4 : Int32) (y0 : Int32) (M : am_M) : gX10_book k 47 [.inr (10, 0), .inl (.int x1), .inl (.int x2), .inl (.int x3), .inl (.int x4), am_D] [.inl (.int y0)] M =
  if 0 ≤ y0 then
   am_ret [] 75 [.inl (.int (M 10 0 42)), .inl (.int (M 10 0 36)), .inr (61, 0)] (k 78 [.inr (10, 0), .inl (.int x1), .inl (.int x2), .inl (.int x3), .inl (.int x4), .inl (.int y0)]) (fX10_of [.inr (10, 0), .inl (.int x2), .inl (.int ((3 * x3) + 3))] M)
  else some (.inl (some (.inl (.int 0))), M) := (rfl)
theorem eX10_book_47 {n : Nat} {x1 : Int32} {x2 : Int32} {x3 : Int32} {x4 : Int32} {y0 : Int32} {M : am_M} {res : am_O × am_M} (h : (if 0 ≤ y0 then
   am_ret [] 75 [.inl (.int (M 10 0 42)), .inl (.int (M 10 0 36)), .inr (61, 0)] (rX10_book n 78 [.inr (10, 0), .inl (.int x1), .inl (.int x2), .inl (.int x3), .inl (.int x4), .inl (.int y0)]) (fX10_of [.inr (10, 0), .inl (.int x2), .inl (.int ((3 * x3) + 3))] M)
  else some (.inl (some (.inl (.int 0))), M)) = some res) : rX10_book (n + 100) 47 [.inr (10, 0), .inl (.int x1), .inl (.int x2), .inl (.int x3), .inl (.int x4), am_D] [.inl (.int y0)] M = some res := uX10_book ((gX10_book_47 (rX10_book n) x1 x2 x3 x4 y0 M).trans h)
set_option maxRecDepth 20000 in
theorem gX10_book_78 (k : Nat → List am_V → List am_V → am_M → am_R) (x1 : Int32) (x2 : Int32) (x3 : Int32) (x4 : Int32) (x5 : Int32) (y0 : Int32) (y1 : Int32) (y2 : Int32) (M : am_M) : gX10_book k 78 [.inr (10, 0), .inl (.int x1), .inl (.int x2), .inl (.int x3), .inl (.int x4), .inl (.int x5)] [.inl (.int y0), .inl (.int y1), .inl (.int y2), .inr (61, 0)] M =
  if am_in y2 24 then
   if am_in (M 10 0 36) 24 then
    if am_in (M 10 0 36) 24 then
     am_ret [] 117 [.inl (.int (M 10 0 36)), .inr (64, 0)] (k 120 [.inr (10, 0), .inl (.int x1), .inl (.int x2), .inl (.int x3), .inl (.int x4), .inl (.int x5)]) (fX10_of [.inr (10, 0), .inl (.int x2), .inl (.int ((3 * x3) + 2))] (am_put (am_put (am_put M 61 0 (Int32.toNatClampNeg y2) (y1 + y0)) 62 0 (Int32.toNatClampNeg (M 10 0 36)) x4) 63 0 (Int32.toNatClampNeg (M 10 0 36)) x5))
    else none
   else none
  else none := (rfl)
theorem eX10_book_78 {n : Nat} {x1 : Int32} {x2 : Int32} {x3 : Int32} {x4 : Int32} {x5 : Int32} {y0 : Int32} {y1 : Int32} {y2 : Int32} {M : am_M} {res : am_O × am_M} (h : (if am_in y2 24 then
   if am_in (M 10 0 36) 24 then
    if am_in (M 10 0 36) 24 then
     am_ret [] 117 [.inl (.int (M 10 0 36)), .inr (64, 0)] (rX10_book n 120 [.inr (10, 0), .inl (.int x1), .inl (.int x2), .inl (.int x3), .inl (.int x4), .inl (.int x5)]) (fX10_of [.inr (10, 0), .inl (.int x2), .inl (.int ((3 * x3) + 2))] (am_put (am_put (am_put M 61 0 (Int32.toNatClampNeg y2) (y1 + y0)) 62 0 (Int32.toNatClampNeg (M 10 0 36)) x4) 63 0 (Int32.toNatClampNeg (M 10 0 36)) x5))
    else none
   else none
  else none) = some res) : rX10_book (n + 100) 78 [.inr (10, 0), .inl (.int x1), .inl (.int x2), .inl (.int x3), .inl (.int x4), .inl (.int x5)] [.inl (.int y0), .inl (.int y1), .inl (.int y2), .inr (61, 0)] M = some res := uX10_book ((gX10_book_78 (rX10_book n) x1 x2 x3 x4 x5 y0 y1 y2 M).trans h)
set_option maxRecDepth 20000 in
theorem gX10_book_120 (k : Nat → List am_V → List am_V → am_M → am_R) (x1 : Int32) (x2 : Int32) (x3 : Int32) (x4 : Int32) (x5 : Int32) (y0 : Int32) (y1 : Int32) (M : am_M) : gX10_book k 120 [.inr (10, 0), .inl (.int x1), .inl (.int x2), .inl (.int x3), .inl (.int x4), .inl (.int x5)] [.inl (.int y0), .inl (.int y1), .inr (64, 0)] M =
  if am_in y1 24 then
   if am_in (M 10 0 36) 24 then
    if 2 ≤ (x3 + 1) then
     some (.inl (some (.inl (.int 1))), (am_put (am_put (am_put M 64 0 (Int32.toNatClampNeg y1) y0) 65 0 (Int32.toNatClampNeg (M 10 0 36)) x1) 10 0 36 ((M 10 0 36) + 1)))
    else am_ret [] 21 [] (k 24 [.inr (10, 0), .inl (.int x1), .inl (.int x2), .inl (.int (x3 + 1)), .inl (.int x4), .inl (.int x5)]) (fX10_of [.inr (10, 0), .inl (.int x2), .inl (.int ((3 * (x3 + 1)) + 1))] (am_put (am_put (am_put M 64 0 (Int32.toNatClampNeg y1) y0) 65 0 (Int32.toNatClampNeg (M 10 0 36)) x1) 10 0 36 ((M 10 0 36) + 1)))
   else none
  else none := (rfl)
theorem eX10_book_120 {n : Nat} {x1 : Int32} {x2 : Int32} {x3 : Int32} {x4 : Int32} {x5 : Int32} {y0 : Int32} {y1 : Int32} {M : am_M} {res : am_O × am_M} (h : (if am_in y1 24 then
   if am_in (M 10 0 36) 24 then
    if 2 ≤ (x3 + 1) then
     some (.inl (some (.inl (.int 1))), (am_put (am_put (am_put M 64 0 (Int32.toNatClampNeg y1) y0) 65 0 (Int32.toNatClampNeg (M 10 0 36)) x1) 10 0 36 ((M 10 0 36) + 1)))
    else am_ret [] 21 [] (rX10_book n 24 [.inr (10, 0), .inl (.int x1), .inl (.int x2), .inl (.int (x3 + 1)), .inl (.int x4), .inl (.int x5)]) (fX10_of [.inr (10, 0), .inl (.int x2), .inl (.int ((3 * (x3 + 1)) + 1))] (am_put (am_put (am_put M 64 0 (Int32.toNatClampNeg y1) y0) 65 0 (Int32.toNatClampNeg (M 10 0 36)) x1) 10 0 36 ((M 10 0 36) + 1)))
   else none
  else none) = some res) : rX10_book (n + 100) 120 [.inr (10, 0), .inl (.int x1), .inl (.int x2), .inl (.int x3), .inl (.int x4), .inl (.int x5)] [.inl (.int y0), .inl (.int y1), .inr (64, 0)] M = some res := uX10_book ((gX10_book_120 (rX10_book n) x1 x2 x3 x4 x5 y0 y1 M).trans h)
set_option maxRecDepth 20000 in
theorem gX10_book_24b (k : Nat → List am_V → List am_V → am_M → am_R) (x1 : Int32) (x2 : Int32) (x3 : Int32) (x4 : Int32) (x5 : Int32) (y0 : Int32) (M : am_M) : gX10_book k 24 [.inr (10, 0), .inl (.int x1), .inl (.int x2), .inl (.int x3), .inl (.int x4), .inl (.int x5)] [.inl (.int y0)] M =
  if y0 < 0 then
   if 2 ≤ (x3 + 1) then
    some (.inl (some (.inl (.int 1))), M)
   else am_ret [] 21 [] (k 24 [.inr (10, 0), .inl (.int x1), .inl (.int x2), .inl (.int (x3 + 1)), .inl (.int y0), .inl (.int x5)]) (fX10_of [.inr (10, 0), .inl (.int x2), .inl (.int ((3 * (x3 + 1)) + 1))] M)
  else am_ret [] 41 [.inl (.int y0), .inr (10, 0)] (k 44 [.inr (10, 0), .inl (.int x1), .inl (.int x2), .inl (.int x3), .inl (.int y0), .inl (.int x5)]) (fX10_of [.inr (10, 0), .inl (.int x2), .inl (.int ((3 * x3) + 2))] M) := (rfl)
theorem eX10_book_24b {n : Nat} {x1 : Int32} {x2 : Int32} {x3 : Int32} {x4 : Int32} {x5 : Int32} {y0 : Int32} {M : am_M} {res : am_O × am_M} (h : (if y0 < 0 then
   if 2 ≤ (x3 + 1) then
    some (.inl (some (.inl (.int 1))), M)
   else am_ret [] 21 [] (rX10_book n 24 [.inr (10, 0), .inl (.int x1), .inl (.int x2), .inl (.int (x3 + 1)), .inl (.int y0), .inl (.int x5)]) (fX10_of [.inr (10, 0), .inl (.int x2), .inl (.int ((3 * (x3 + 1)) + 1))] M)
  else am_ret [] 41 [.inl (.int y0), .inr (10, 0)] (rX10_book n 44 [.inr (10, 0), .inl (.int x1), .inl (.int x2), .inl (.int x3), .inl (.int y0), .inl (.int x5)]) (fX10_of [.inr (10, 0), .inl (.int x2), .inl (.int ((3 * x3) + 2))] M)) = some res) : rX10_book (n + 100) 24 [.inr (10, 0), .inl (.int x1), .inl (.int x2), .inl (.int x3), .inl (.int x4), .inl (.int x5)] [.inl (.int y0)] M = some res := uX10_book ((gX10_book_24b (rX10_book n) x1 x2 x3 x4 x5 y0 M).trans h)
set_option maxRecDepth 20000 in
theorem gX10_book_44a (k : Nat → List am_V → List am_V → am_M → am_R) (x1 : Int32) (x2 : Int32) (x3 : Int32) (x4 : Int32) (x5 : Int32) (y0 : Int32) (y1 : Int32) (M : am_M) : gX10_book k 44 [.inr (10, 0), .inl (.int x1), .inl (.int x2), .inl (.int x3), .inl (.int x4), .inl (.int x5)] [.inl (.int y0), .inl (.int y1), .inr (10, 0)] M =
  am_ret [] 44 [] (k 47 [.inr (10, 0), .inl (.int x1), .inl (.int x2), .inl (.int x3), .inl (.int x4), .inl (.int x5)]) (fX10_placeFor [.inr (10, 0), .inl (.int y1), .inl (.int y0)] M) := (rfl)
theorem eX10_book_44a {n : Nat} {x1 : Int32} {x2 : Int32} {x3 : Int32} {x4 : Int32} {x5 : Int32} {y0 : Int32} {y1 : Int32} {M : am_M} {res : am_O × am_M} (h : (am_ret [] 44 [] (rX10_book n 47 [.inr (10, 0), .inl (.int x1), .inl (.int x2), .inl (.int x3), .inl (.int x4), .inl (.int x5)]) (fX10_placeFor [.inr (10, 0), .inl (.int y1), .inl (.int y0)] M)) = some res) : rX10_book (n + 100) 44 [.inr (10, 0), .inl (.int x1), .inl (.int x2), .inl (.int x3), .inl (.int x4), .inl (.int x5)] [.inl (.int y0), .inl (.int y1), .inr (10, 0)] M = some res := uX10_book ((gX10_book_44a (rX10_book n) x1 x2 x3 x4 x5 y0 y1 M).trans h)
set_option maxRecDepth 20000 in
theorem gX10_book_47a (k : Nat → List am_V → List am_V → am_M → am_R) (x1 : Int32) (x2 : Int32) (x3 : Int32) (x4 : Int32) (x5 : Int32) (y0 : Int32) (M : am_M) : gX10_book k 47 [.inr (10, 0), .inl (.int x1), .inl (.int x2), .inl (.int x3), .inl (.int x4), .inl (.int x5)] [.inl (.int y0)] M =
  if 0 ≤ y0 then
   am_ret [] 75 [.inl (.int (M 10 0 42)), .inl (.int (M 10 0 36)), .inr (61, 0)] (k 78 [.inr (10, 0), .inl (.int x1), .inl (.int x2), .inl (.int x3), .inl (.int x4), .inl (.int y0)]) (fX10_of [.inr (10, 0), .inl (.int x2), .inl (.int ((3 * x3) + 3))] M)
  else some (.inl (some (.inl (.int 0))), M) := (rfl)
theorem eX10_book_47a {n : Nat} {x1 : Int32} {x2 : Int32} {x3 : Int32} {x4 : Int32} {x5 : Int32} {y0 : Int32} {M : am_M} {res : am_O × am_M} (h : (if 0 ≤ y0 then
   am_ret [] 75 [.inl (.int (M 10 0 42)), .inl (.int (M 10 0 36)), .inr (61, 0)] (rX10_book n 78 [.inr (10, 0), .inl (.int x1), .inl (.int x2), .inl (.int x3), .inl (.int x4), .inl (.int y0)]) (fX10_of [.inr (10, 0), .inl (.int x2), .inl (.int ((3 * x3) + 3))] M)
  else some (.inl (some (.inl (.int 0))), M)) = some res) : rX10_book (n + 100) 47 [.inr (10, 0), .inl (.int x1), .inl (.int x2), .inl (.int x3), .inl (.int x4), .inl (.int x5)] [.inl (.int y0)] M = some res := uX10_book ((gX10_book_47a (rX10_book n) x1 x2 x3 x4 x5 y0 M).trans h)
def rX10_fail (n pc : Nat) (ls st : List am_V) (M : am_M) : am_R := am_run [] [] 0 am_X0 pX10_fail n pc ls st M
def gX10_fail (k : Nat → List am_V → List am_V → am_M → am_R) (pc : Nat) (ls st : List am_V) (M : am_M) : am_R := am_go [] [] 0 am_X0 pX10_fail [] k 100 pc ls st M
theorem uX10_fail {n pc : Nat} {ls st : List am_V} {M : am_M} {res : am_O × am_M} (h : gX10_fail (rX10_fail n) pc ls st M = some res) : rX10_fail (n + 100) pc ls st M = some res := am_go_ok h
theorem eX10_fail (x1 : Int32) (x2 : Int32) (M : am_M) : fX10_fail [.inr (10, 0), .inl (.int x1), .inl (.int x2)] M = rX10_fail 100000 0 [.inr (10, 0), .inl (.int x1), .inl (.int x2)] [] M := am_meth_eq rfl rfl
set_option maxRecDepth 20000 in
theorem gX10_fail_0 (k : Nat → List am_V → List am_V → am_M → am_R) (x1 : Int32) (x2 : Int32) (M : am_M) : gX10_fail k 0 [.inr (10, 0), .inl (.int x1), .inl (.int x2)] [] M =
  if am_in x1 40 then
   if am_in x1 40 then
    some (.inl none, (am_put (am_put M 48 0 (Int32.toNatClampNeg x1) 3) 49 0 (Int32.toNatClampNeg x1) x2))
   else none
  else none := (rfl)
theorem eX10_fail_0 {n : Nat} {x1 : Int32} {x2 : Int32} {M : am_M} {res : am_O × am_M} (h : (if am_in x1 40 then
   if am_in x1 40 then
    some (.inl none, (am_put (am_put M 48 0 (Int32.toNatClampNeg x1) 3) 49 0 (Int32.toNatClampNeg x1) x2))
   else none
  else none) = some res) : rX10_fail (n + 100) 0 [.inr (10, 0), .inl (.int x1), .inl (.int x2)] [] M = some res := uX10_fail ((gX10_fail_0 (rX10_fail n) x1 x2 M).trans h)
def rX10_leave (n pc : Nat) (ls st : List am_V) (M : am_M) : am_R := am_run [fX10_cancel] [] 0 am_X0 pX10_leave n pc ls st M
def gX10_leave (k : Nat → List am_V → List am_V → am_M → am_R) (pc : Nat) (ls st : List am_V) (M : am_M) : am_R := am_go [fX10_cancel] [] 0 am_X0 pX10_leave [36] k 100 pc ls st M
theorem uX10_leave {n pc : Nat} {ls st : List am_V} {M : am_M} {res : am_O × am_M} (h : gX10_leave (rX10_leave n) pc ls st M = some res) : rX10_leave (n + 100) pc ls st M = some res := am_go_ok h
theorem eX10_leave (x1 : Int32) (M : am_M) : fX10_leave [.inr (10, 0), .inl (.int x1)] M = rX10_leave 100000 0 [.inr (10, 0), .inl (.int x1)] [] M := am_meth_eq rfl rfl
set_option maxRecDepth 20000 in
theorem gX10_leave_0 (k : Nat → List am_V → List am_V → am_M → am_R) (x1 : Int32) (M : am_M) : gX10_leave k 0 [.inr (10, 0), .inl (.int x1)] [] M =
  if am_in x1 40 then
   if am_in (M 51 0 (Int32.toNatClampNeg x1)) 10 then
    if am_in x1 40 then
     if am_in (M 51 0 (Int32.toNatClampNeg x1)) 10 then
      if am_in x1 40 then
       am_ret [] 33 [] (k 36 [.inr (10, 0), .inl (.int x1)]) (fX10_cancel [.inr (10, 0), .inl (.int x1)] (am_put (am_put (am_put M 59 0 (Int32.toNatClampNeg (M 51 0 (Int32.toNatClampNeg x1))) 3) 60 0 (Int32.toNatClampNeg (M 51 0 (Int32.toNatClampNeg x1))) 0) 51 0 (Int32.toNatClampNeg x1) (-1)))
      else none
     else none
    else none
   else none
  else none := (rfl)
theorem eX10_leave_0 {n : Nat} {x1 : Int32} {M : am_M} {res : am_O × am_M} (h : (if am_in x1 40 then
   if am_in (M 51 0 (Int32.toNatClampNeg x1)) 10 then
    if am_in x1 40 then
     if am_in (M 51 0 (Int32.toNatClampNeg x1)) 10 then
      if am_in x1 40 then
       am_ret [] 33 [] (rX10_leave n 36 [.inr (10, 0), .inl (.int x1)]) (fX10_cancel [.inr (10, 0), .inl (.int x1)] (am_put (am_put (am_put M 59 0 (Int32.toNatClampNeg (M 51 0 (Int32.toNatClampNeg x1))) 3) 60 0 (Int32.toNatClampNeg (M 51 0 (Int32.toNatClampNeg x1))) 0) 51 0 (Int32.toNatClampNeg x1) (-1)))
      else none
     else none
    else none
   else none
  else none) = some res) : rX10_leave (n + 100) 0 [.inr (10, 0), .inl (.int x1)] [] M = some res := uX10_leave ((gX10_leave_0 (rX10_leave n) x1 M).trans h)
set_option maxRecDepth 20000 in
theorem gX10_leave_36 (k : Nat → List am_V → List am_V → am_M → am_R) (x1 : Int32) (M : am_M) : gX10_leave k 36 [.inr (10, 0), .inl (.int x1)] [] M =
  some (.inl none, M) := (rfl)
theorem eX10_leave_36 {n : Nat} {x1 : Int32} {M : am_M} {res : am_O × am_M} (h : (some (.inl none, M)) = some res) : rX10_leave (n + 100) 36 [.inr (10, 0), .inl (.int x1)] [] M = some res := uX10_leave ((gX10_leave_36 (rX10_leave n) x1 M).trans h)
def rX10_breaksOff (n pc : Nat) (ls st : List am_V) (M : am_M) : am_R := am_run [fX10_leave, fX10_fail] [] 0 am_X0 pX10_breaksOff n pc ls st M
def gX10_breaksOff (k : Nat → List am_V → List am_V → am_M → am_R) (pc : Nat) (ls st : List am_V) (M : am_M) : am_R := am_go [fX10_leave, fX10_fail] [] 0 am_X0 pX10_breaksOff [5, 31] k 100 pc ls st M
theorem uX10_breaksOff {n pc : Nat} {ls st : List am_V} {M : am_M} {res : am_O × am_M} (h : gX10_breaksOff (rX10_breaksOff n) pc ls st M = some res) : rX10_breaksOff (n + 100) pc ls st M = some res := am_go_ok h
theorem eX10_breaksOff (x1 : Int32) (x2 : Int32) (M : am_M) : fX10_breaksOff [.inr (10, 0), .inl (.int x1), .inl (.int x2)] M = rX10_breaksOff 100000 0 [.inr (10, 0), .inl (.int x1), .inl (.int x2)] [] M := am_meth_eq rfl rfl
set_option maxRecDepth 20000 in
theorem gX10_breaksOff_0 (k : Nat → List am_V → List am_V → am_M → am_R) (x1 : Int32) (x2 : Int32) (M : am_M) : gX10_breaksOff k 0 [.inr (10, 0), .inl (.int x1), .inl (.int x2)] [] M =
  am_ret [] 2 [] (k 5 [.inr (10, 0), .inl (.int x1), .inl (.int x2)]) (fX10_leave [.inr (10, 0), .inl (.int x1)] M) := (rfl)
theorem eX10_breaksOff_0 {n : Nat} {x1 : Int32} {x2 : Int32} {M : am_M} {res : am_O × am_M} (h : (am_ret [] 2 [] (rX10_breaksOff n 5 [.inr (10, 0), .inl (.int x1), .inl (.int x2)]) (fX10_leave [.inr (10, 0), .inl (.int x1)] M)) = some res) : rX10_breaksOff (n + 100) 0 [.inr (10, 0), .inl (.int x1), .inl (.int x2)] [] M = some res := uX10_breaksOff ((gX10_breaksOff_0 (rX10_breaksOff n) x1 x2 M).trans h)
set_option maxRecDepth 20000 in
theorem gX10_breaksOff_5 (k : Nat → List am_V → List am_V → am_M → am_R) (x1 : Int32) (x2 : Int32) (M : am_M) : gX10_breaksOff k 5 [.inr (10, 0), .inl (.int x1), .inl (.int x2)] [] M =
  if am_in x1 40 then
   if (M 50 0 (Int32.toNatClampNeg x1)) = 1 then
    if am_in x1 40 then
     some (.inl none, (am_put M 48 0 (Int32.toNatClampNeg x1) 0))
    else none
   else am_ret [] 28 [] (k 31 [.inr (10, 0), .inl (.int x1), .inl (.int x2)]) (fX10_fail [.inr (10, 0), .inl (.int x1), .inl (.int x2)] M)
  else none := (rfl)
theorem eX10_breaksOff_5 {n : Nat} {x1 : Int32} {x2 : Int32} {M : am_M} {res : am_O × am_M} (h : (if am_in x1 40 then
   if (M 50 0 (Int32.toNatClampNeg x1)) = 1 then
    if am_in x1 40 then
     some (.inl none, (am_put M 48 0 (Int32.toNatClampNeg x1) 0))
    else none
   else am_ret [] 28 [] (rX10_breaksOff n 31 [.inr (10, 0), .inl (.int x1), .inl (.int x2)]) (fX10_fail [.inr (10, 0), .inl (.int x1), .inl (.int x2)] M)
  else none) = some res) : rX10_breaksOff (n + 100) 5 [.inr (10, 0), .inl (.int x1), .inl (.int x2)] [] M = some res := uX10_breaksOff ((gX10_breaksOff_5 (rX10_breaksOff n) x1 x2 M).trans h)
set_option maxRecDepth 20000 in
theorem gX10_breaksOff_31 (k : Nat → List am_V → List am_V → am_M → am_R) (x1 : Int32) (x2 : Int32) (M : am_M) : gX10_breaksOff k 31 [.inr (10, 0), .inl (.int x1), .inl (.int x2)] [] M =
  some (.inl none, M) := (rfl)
theorem eX10_breaksOff_31 {n : Nat} {x1 : Int32} {x2 : Int32} {M : am_M} {res : am_O × am_M} (h : (some (.inl none, M)) = some res) : rX10_breaksOff (n + 100) 31 [.inr (10, 0), .inl (.int x1), .inl (.int x2)] [] M = some res := uX10_breaksOff ((gX10_breaksOff_31 (rX10_breaksOff n) x1 x2 M).trans h)
def rX10_give (n pc : Nat) (ls st : List am_V) (M : am_M) : am_R := am_run [fX10_breaksOff, fX10_copyBook] [] 0 am_X0 pX10_give n pc ls st M
def gX10_give (k : Nat → List am_V → List am_V → am_M → am_R) (pc : Nat) (ls st : List am_V) (M : am_M) : am_R := am_go [fX10_breaksOff, fX10_copyBook] [] 0 am_X0 pX10_give [2, 66, 126] k 100 pc ls st M
theorem uX10_give {n pc : Nat} {ls st : List am_V} {M : am_M} {res : am_O × am_M} (h : gX10_give (rX10_give n) pc ls st M = some res) : rX10_give (n + 100) pc ls st M = some res := am_go_ok h
theorem eX10_give (M : am_M) : fX10_give [.inr (10, 0)] M = rX10_give 100000 0 [.inr (10, 0), am_D, am_D] [] M := am_meth_eq rfl rfl
set_option maxRecDepth 20000 in
theorem gX10_give_0 (k : Nat → List am_V → List am_V → am_M → am_R) (M : am_M) : gX10_give k 0 [.inr (10, 0), am_D, am_D] [] M =
  k 2 [.inr (10, 0), .inl (.int 0), am_D] [] M := (rfl)
theorem eX10_give_0 {n : Nat} {M : am_M} {res : am_O × am_M} (h : (rX10_give n 2 [.inr (10, 0), .inl (.int 0), am_D] [] M) = some res) : rX10_give (n + 100) 0 [.inr (10, 0), am_D, am_D] [] M = some res := uX10_give ((gX10_give_0 (rX10_give n) M).trans h)
set_option maxRecDepth 20000 in
theorem gX10_give_2 (k : Nat → List am_V → List am_V → am_M → am_R) (x1 : Int32) (M : am_M) : gX10_give k 2 [.inr (10, 0), .inl (.int x1), am_D] [] M =
  if (M 10 0 36) ≤ x1 then
   some (.inl none, M)
  else if am_in x1 24 then
   if (M 61 0 (Int32.toNatClampNeg x1)) = (M 10 0 42) then
    if am_in x1 24 then
     if am_in x1 24 then
      if (am_b (M 10 0 47)) = 0 then
       if am_in x1 24 then
        if am_in (M 63 0 (Int32.toNatClampNeg x1)) 8 then
         if am_in x1 24 then
          if am_in (M 63 0 (Int32.toNatClampNeg x1)) 8 then
           if am_in (M 65 0 (Int32.toNatClampNeg x1)) 40 then
            if am_in (M 51 0 (Int32.toNatClampNeg (M 65 0 (Int32.toNatClampNeg x1)))) 10 then
             if am_in x1 24 then
              if am_in (M 51 0 (Int32.toNatClampNeg (M 65 0 (Int32.toNatClampNeg x1)))) 10 then
               am_ret [] 123 [] (k 126 [.inr (10, 0), .inl (.int x1), .inl (.int (M 65 0 (Int32.toNatClampNeg x1)))]) (fX10_copyBook [.inr (10, 0), .inl (.int ((M 10 0 36) - 1)), .inl (.int x1)] (am_put (am_put (am_put (am_put (am_put M 10 0 37 (M 10 0 42)) 10 0 38 (M 62 0 (Int32.toNatClampNeg x1))) 41 0 (Int32.toNatClampNeg (M 63 0 (Int32.toNatClampNeg x1))) ((M 41 0 (Int32.toNatClampNeg (M 63 0 (Int32.toNatClampNeg x1)))) - (M 64 0 (Int32.toNatClampNeg x1)))) 60 0 (Int32.toNatClampNeg (M 51 0 (Int32.toNatClampNeg (M 65 0 (Int32.toNatClampNeg x1))))) ((M 60 0 (Int32.toNatClampNeg (M 51 0 (Int32.toNatClampNeg (M 65 0 (Int32.toNatClampNeg x1)))))) + (M 64 0 (Int32.toNatClampNeg x1)))) 10 0 36 ((M 10 0 36) - 1)))
              else none
             else none
            else none
           else none
          else none
         else none
        else none
       else none
      else am_ret [] 63 [] (k 66 [.inr (10, 0), .inl (.int x1), .inl (.int (M 65 0 (Int32.toNatClampNeg x1)))]) (fX10_breaksOff [.inr (10, 0), .inl (.int (M 65 0 (Int32.toNatClampNeg x1))), .inl (.int 4)] (am_put (am_put (am_put M 10 0 37 (M 10 0 42)) 10 0 38 (M 62 0 (Int32.toNatClampNeg x1))) 10 0 47 0))
     else none
    else none
   else k 2 [.inr (10, 0), .inl (.int (x1 + 1)), am_D] [] M
  else none := (rfl)
theorem eX10_give_2 {n : Nat} {x1 : Int32} {M : am_M} {res : am_O × am_M} (h : (if (M 10 0 36) ≤ x1 then
   some (.inl none, M)
  else if am_in x1 24 then
   if (M 61 0 (Int32.toNatClampNeg x1)) = (M 10 0 42) then
    if am_in x1 24 then
     if am_in x1 24 then
      if (am_b (M 10 0 47)) = 0 then
       if am_in x1 24 then
        if am_in (M 63 0 (Int32.toNatClampNeg x1)) 8 then
         if am_in x1 24 then
          if am_in (M 63 0 (Int32.toNatClampNeg x1)) 8 then
           if am_in (M 65 0 (Int32.toNatClampNeg x1)) 40 then
            if am_in (M 51 0 (Int32.toNatClampNeg (M 65 0 (Int32.toNatClampNeg x1)))) 10 then
             if am_in x1 24 then
              if am_in (M 51 0 (Int32.toNatClampNeg (M 65 0 (Int32.toNatClampNeg x1)))) 10 then
               am_ret [] 123 [] (rX10_give n 126 [.inr (10, 0), .inl (.int x1), .inl (.int (M 65 0 (Int32.toNatClampNeg x1)))]) (fX10_copyBook [.inr (10, 0), .inl (.int ((M 10 0 36) - 1)), .inl (.int x1)] (am_put (am_put (am_put (am_put (am_put M 10 0 37 (M 10 0 42)) 10 0 38 (M 62 0 (Int32.toNatClampNeg x1))) 41 0 (Int32.toNatClampNeg (M 63 0 (Int32.toNatClampNeg x1))) ((M 41 0 (Int32.toNatClampNeg (M 63 0 (Int32.toNatClampNeg x1)))) - (M 64 0 (Int32.toNatClampNeg x1)))) 60 0 (Int32.toNatClampNeg (M 51 0 (Int32.toNatClampNeg (M 65 0 (Int32.toNatClampNeg x1))))) ((M 60 0 (Int32.toNatClampNeg (M 51 0 (Int32.toNatClampNeg (M 65 0 (Int32.toNatClampNeg x1)))))) + (M 64 0 (Int32.toNatClampNeg x1)))) 10 0 36 ((M 10 0 36) - 1)))
              else none
             else none
            else none
           else none
          else none
         else none
        else none
       else none
      else am_ret [] 63 [] (rX10_give n 66 [.inr (10, 0), .inl (.int x1), .inl (.int (M 65 0 (Int32.toNatClampNeg x1)))]) (fX10_breaksOff [.inr (10, 0), .inl (.int (M 65 0 (Int32.toNatClampNeg x1))), .inl (.int 4)] (am_put (am_put (am_put M 10 0 37 (M 10 0 42)) 10 0 38 (M 62 0 (Int32.toNatClampNeg x1))) 10 0 47 0))
     else none
    else none
   else rX10_give n 2 [.inr (10, 0), .inl (.int (x1 + 1)), am_D] [] M
  else none) = some res) : rX10_give (n + 100) 2 [.inr (10, 0), .inl (.int x1), am_D] [] M = some res := uX10_give ((gX10_give_2 (rX10_give n) x1 M).trans h)
set_option maxRecDepth 20000 in
theorem gX10_give_126 (k : Nat → List am_V → List am_V → am_M → am_R) (x1 : Int32) (x2 : Int32) (M : am_M) : gX10_give k 126 [.inr (10, 0), .inl (.int x1), .inl (.int x2)] [] M =
  some (.inl none, M) := (rfl)
theorem eX10_give_126 {n : Nat} {x1 : Int32} {x2 : Int32} {M : am_M} {res : am_O × am_M} (h : (some (.inl none, M)) = some res) : rX10_give (n + 100) 126 [.inr (10, 0), .inl (.int x1), .inl (.int x2)] [] M = some res := uX10_give ((gX10_give_126 (rX10_give n) x1 x2 M).trans h)
set_option maxRecDepth 20000 in
theorem gX10_give_66 (k : Nat → List am_V → List am_V → am_M → am_R) (x1 : Int32) (x2 : Int32) (M : am_M) : gX10_give k 66 [.inr (10, 0), .inl (.int x1), .inl (.int x2)] [] M =
  some (.inl none, M) := (rfl)
theorem eX10_give_66 {n : Nat} {x1 : Int32} {x2 : Int32} {M : am_M} {res : am_O × am_M} (h : (some (.inl none, M)) = some res) : rX10_give (n + 100) 66 [.inr (10, 0), .inl (.int x1), .inl (.int x2)] [] M = some res := uX10_give ((gX10_give_66 (rX10_give n) x1 x2 M).trans h)
def rX10_absorbance (n pc : Nat) (ls st : List am_V) (M : am_M) : am_R := am_run [] [] 1 am_X0 pX10_absorbance n pc ls st M
def gX10_absorbance (k : Nat → List am_V → List am_V → am_M → am_R) (pc : Nat) (ls st : List am_V) (M : am_M) : am_R := am_go [] [] 1 am_X0 pX10_absorbance [3, 29] k 100 pc ls st M
theorem uX10_absorbance {n pc : Nat} {ls st : List am_V} {M : am_M} {res : am_O × am_M} (h : gX10_absorbance (rX10_absorbance n) pc ls st M = some res) : rX10_absorbance (n + 100) pc ls st M = some res := am_go_ok h
theorem eX10_absorbance (x0 : Int32) (M : am_M) : fX10_absorbance [.inl (.int x0)] M = rX10_absorbance 100000 0 [.inl (.int x0), am_D, am_D, am_D, am_D, am_D] [] M := am_meth_eq rfl rfl
set_option maxRecDepth 20000 in
theorem gX10_absorbance_0 (k : Nat → List am_V → List am_V → am_M → am_R) (x0 : Int32) (M : am_M) : gX10_absorbance k 0 [.inl (.int x0), am_D, am_D, am_D, am_D, am_D] [] M =
  k 3 [.inl (.int x0), .inl (.int 15), am_D, am_D, am_D, am_D] [] M := (rfl)
theorem eX10_absorbance_0 {n : Nat} {x0 : Int32} {M : am_M} {res : am_O × am_M} (h : (rX10_absorbance n 3 [.inl (.int x0), .inl (.int 15), am_D, am_D, am_D, am_D] [] M) = some res) : rX10_absorbance (n + 100) 0 [.inl (.int x0), am_D, am_D, am_D, am_D, am_D] [] M = some res := uX10_absorbance ((gX10_absorbance_0 (rX10_absorbance n) x0 M).trans h)
set_option maxRecDepth 20000 in
theorem gX10_absorbance_3 (k : Nat → List am_V → List am_V → am_M → am_R) (x0 : Int32) (x1 : Int32) (M : am_M) : gX10_absorbance k 3 [.inl (.int x0), .inl (.int x1), am_D, am_D, am_D, am_D] [] M =
  if (x0 >>> (x1 &&& 31)) = 0 then
   k 3 [.inl (.int x0), .inl (.int (x1 + (-1))), am_D, am_D, am_D, am_D] [] M
  else k 29 [.inl (.int x0), .inl (.int x1), .inl (.long ((Int32.toInt64 x0) <<< (((15 - x1) : Int32).toInt64 &&& 63))), am_D, .inl (.int 0), .inl (.int 0)] [] M := (rfl)
theorem eX10_absorbance_3 {n : Nat} {x0 : Int32} {x1 : Int32} {M : am_M} {res : am_O × am_M} (h : (if (x0 >>> (x1 &&& 31)) = 0 then
   rX10_absorbance n 3 [.inl (.int x0), .inl (.int (x1 + (-1))), am_D, am_D, am_D, am_D] [] M
  else rX10_absorbance n 29 [.inl (.int x0), .inl (.int x1), .inl (.long ((Int32.toInt64 x0) <<< (((15 - x1) : Int32).toInt64 &&& 63))), am_D, .inl (.int 0), .inl (.int 0)] [] M) = some res) : rX10_absorbance (n + 100) 3 [.inl (.int x0), .inl (.int x1), am_D, am_D, am_D, am_D] [] M = some res := uX10_absorbance ((gX10_absorbance_3 (rX10_absorbance n) x0 x1 M).trans h)
set_option maxRecDepth 20000 in
theorem gX10_absorbance_29 (k : Nat → List am_V → List am_V → am_M → am_R) (x0 : Int32) (x1 : Int32) (x2 : Int64) (x4 : Int32) (x5 : Int32) (M : am_M) : gX10_absorbance k 29 [.inl (.int x0), .inl (.int x1), .inl (.long x2), am_D, .inl (.int x4), .inl (.int x5)] [] M =
  if 10 ≤ x5 then
   some (.inl (some (.inl (.int (16384 - ((1024 * x1) + x4))))), M)
  else if (lg_cmp ((x2 * x2) / 32768) 65536) < 0 then
   k 29 [.inl (.int x0), .inl (.int x1), .inl (.long ((x2 * x2) / 32768)), am_D, .inl (.int (2 * x4)), .inl (.int (x5 + 1))] [] M
  else k 29 [.inl (.int x0), .inl (.int x1), .inl (.long (((x2 * x2) / 32768) / 2)), am_D, .inl (.int ((2 * x4) + 1)), .inl (.int (x5 + 1))] [] M := (rfl)
theorem eX10_absorbance_29 {n : Nat} {x0 : Int32} {x1 : Int32} {x2 : Int64} {x4 : Int32} {x5 : Int32} {M : am_M} {res : am_O × am_M} (h : (if 10 ≤ x5 then
   some (.inl (some (.inl (.int (16384 - ((1024 * x1) + x4))))), M)
  else if (lg_cmp ((x2 * x2) / 32768) 65536) < 0 then
   rX10_absorbance n 29 [.inl (.int x0), .inl (.int x1), .inl (.long ((x2 * x2) / 32768)), am_D, .inl (.int (2 * x4)), .inl (.int (x5 + 1))] [] M
  else rX10_absorbance n 29 [.inl (.int x0), .inl (.int x1), .inl (.long (((x2 * x2) / 32768) / 2)), am_D, .inl (.int ((2 * x4) + 1)), .inl (.int (x5 + 1))] [] M) = some res) : rX10_absorbance (n + 100) 29 [.inl (.int x0), .inl (.int x1), .inl (.long x2), am_D, .inl (.int x4), .inl (.int x5)] [] M = some res := uX10_absorbance ((gX10_absorbance_29 (rX10_absorbance n) x0 x1 x2 x4 x5 M).trans h)
def rX10_floor (n pc : Nat) (ls st : List am_V) (M : am_M) : am_R := am_run [] [] 3 am_X0 pX10_floor n pc ls st M
def gX10_floor (k : Nat → List am_V → List am_V → am_M → am_R) (pc : Nat) (ls st : List am_V) (M : am_M) : am_R := am_go [] [] 3 am_X0 pX10_floor [] k 100 pc ls st M
theorem uX10_floor {n pc : Nat} {ls st : List am_V} {M : am_M} {res : am_O × am_M} (h : gX10_floor (rX10_floor n) pc ls st M = some res) : rX10_floor (n + 100) pc ls st M = some res := am_go_ok h
theorem eX10_floor (x0 : Int64) (x1 : Int64) (M : am_M) : fX10_floor [.inl (.long x0), .inl (.long x1)] M = rX10_floor 100000 0 [.inl (.long x0), am_D, .inl (.long x1), am_D, am_D, am_D] [] M := am_meth_eq rfl rfl
set_option maxRecDepth 20000 in
theorem gX10_floor_0 (k : Nat → List am_V → List am_V → am_M → am_R) (x0 : Int64) (x2 : Int64) (M : am_M) : gX10_floor k 0 [.inl (.long x0), am_D, .inl (.long x2), am_D, am_D, am_D] [] M =
  if x2 = 0 then
   none
  else if x2 = 0 then
   none
  else if (lg_cmp (x0 - x0 / x2 * x2) 0) = 0 then
   some (.inl (some (.inl (.long (x0 / x2)))), M)
  else if 0 ≤ (lg_cmp x0 0) then
   if 0 ≤ (lg_cmp x2 0) then
    some (.inl (some (.inl (.long (x0 / x2)))), M)
   else some (.inl (some (.inl (.long ((x0 / x2) - 1)))), M)
  else if 0 ≤ (lg_cmp x2 0) then
   some (.inl (some (.inl (.long ((x0 / x2) - 1)))), M)
  else some (.inl (some (.inl (.long (x0 / x2)))), M) := (rfl)
theorem eX10_floor_0 {n : Nat} {x0 : Int64} {x2 : Int64} {M : am_M} {res : am_O × am_M} (h : (if x2 = 0 then
   none
  else if x2 = 0 then
   none
  else if (lg_cmp (x0 - x0 / x2 * x2) 0) = 0 then
   some (.inl (some (.inl (.long (x0 / x2)))), M)
  else if 0 ≤ (lg_cmp x0 0) then
   if 0 ≤ (lg_cmp x2 0) then
    some (.inl (some (.inl (.long (x0 / x2)))), M)
   else some (.inl (some (.inl (.long ((x0 / x2) - 1)))), M)
  else if 0 ≤ (lg_cmp x2 0) then
   some (.inl (some (.inl (.long ((x0 / x2) - 1)))), M)
  else some (.inl (some (.inl (.long (x0 / x2)))), M)) = some res) : rX10_floor (n + 100) 0 [.inl (.long x0), am_D, .inl (.long x2), am_D, am_D, am_D] [] M = some res := uX10_floor ((gX10_floor_0 (rX10_floor n) x0 x2 M).trans h)
