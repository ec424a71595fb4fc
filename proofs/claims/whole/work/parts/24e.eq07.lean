/-! ===== the runs, piece by piece ===== -/
def rX7_hasForbiddenSuccession (n pc : Nat) (ls st : List am_V) (M : am_M) : am_R := am_run [] [] 2 am_X0 pX7_hasForbiddenSuccession n pc ls st M
def gX7_hasForbiddenSuccession (k : Nat → List am_V → List am_V → am_M → am_R) (pc : Nat) (ls st : List am_V) (M : am_M) : am_R := am_go [] [] 2 am_X0 pX7_hasForbiddenSuccession [2] k 100 pc ls st M
theorem uX7_hasForbiddenSuccession {n pc : Nat} {ls st : List am_V} {M : am_M} {res : am_O × am_M} (h : gX7_hasForbiddenSuccession (rX7_hasForbiddenSuccession n) pc ls st M = some res) : rX7_hasForbiddenSuccession (n + 100) pc ls st M = some res := am_go_ok h
theorem eX7_hasForbiddenSuccession (M : am_M) : fX7_hasForbiddenSuccession [.inr (7, 0)] M = rX7_hasForbiddenSuccession 100000 0 [.inr (7, 0), am_D] [] M := am_meth_eq rfl rfl
set_option maxRecDepth 20000 in
theorem gX7_hasForbiddenSuccession_0 (k : Nat → List am_V → List am_V → am_M → am_R) (M : am_M) : gX7_hasForbiddenSuccession k 0 [.inr (7, 0), am_D] [] M =
  k 2 [.inr (7, 0), .inl (.int 1)] [] M := (rfl)
theorem eX7_hasForbiddenSuccession_0 {n : Nat} {M : am_M} {res : am_O × am_M} (h : (rX7_hasForbiddenSuccession n 2 [.inr (7, 0), .inl (.int 1)] [] M) = some res) : rX7_hasForbiddenSuccession (n + 100) 0 [.inr (7, 0), am_D] [] M = some res := uX7_hasForbiddenSuccession ((gX7_hasForbiddenSuccession_0 (rX7_hasForbiddenSuccession n) M).trans h)
set_option maxRecDepth 20000 in
theorem gX7_hasForbiddenSuccession_2 (k : Nat → List am_V → List am_V → am_M → am_R) (x1 : Int32) (M : am_M) : gX7_hasForbiddenSuccession k 2 [.inr (7, 0), .inl (.int x1)] [] M =
  if 12 < x1 then
   some (.inl (some (.inl (.int 0))), M)
  else if am_in (x1 - 1) 13 then
   if (M 19 0 (Int32.toNatClampNeg (x1 - 1))) = (-1) then
    k 2 [.inr (7, 0), .inl (.int (x1 + 1))] [] M
   else if am_in x1 13 then
    if (M 19 0 (Int32.toNatClampNeg x1)) = (-1) then
     k 2 [.inr (7, 0), .inl (.int (x1 + 1))] [] M
    else if am_in (x1 - 1) 13 then
     if am_in x1 13 then
      if am_in (((M 19 0 (Int32.toNatClampNeg (x1 - 1))) * 6) + (M 19 0 (Int32.toNatClampNeg x1))) 36 then
       if (am_b (M 21 0 (Int32.toNatClampNeg (((M 19 0 (Int32.toNatClampNeg (x1 - 1))) * 6) + (M 19 0 (Int32.toNatClampNeg x1)))))) = 0 then
        k 2 [.inr (7, 0), .inl (.int (x1 + 1))] [] M
       else some (.inl (some (.inl (.int 1))), M)
      else none
     else none
    else none
   else none
  else none := (rfl)
theorem eX7_hasForbiddenSuccession_2 {n : Nat} {x1 : Int32} {M : am_M} {res : am_O × am_M} (h : (if 12 < x1 then
   some (.inl (some (.inl (.int 0))), M)
  else if am_in (x1 - 1) 13 then
   if (M 19 0 (Int32.toNatClampNeg (x1 - 1))) = (-1) then
    rX7_hasForbiddenSuccession n 2 [.inr (7, 0), .inl (.int (x1 + 1))] [] M
   else if am_in x1 13 then
    if (M 19 0 (Int32.toNatClampNeg x1)) = (-1) then
     rX7_hasForbiddenSuccession n 2 [.inr (7, 0), .inl (.int (x1 + 1))] [] M
    else if am_in (x1 - 1) 13 then
     if am_in x1 13 then
      if am_in (((M 19 0 (Int32.toNatClampNeg (x1 - 1))) * 6) + (M 19 0 (Int32.toNatClampNeg x1))) 36 then
       if (am_b (M 21 0 (Int32.toNatClampNeg (((M 19 0 (Int32.toNatClampNeg (x1 - 1))) * 6) + (M 19 0 (Int32.toNatClampNeg x1)))))) = 0 then
        rX7_hasForbiddenSuccession n 2 [.inr (7, 0), .inl (.int (x1 + 1))] [] M
       else some (.inl (some (.inl (.int 1))), M)
      else none
     else none
    else none
   else none
  else none) = some res) : rX7_hasForbiddenSuccession (n + 100) 2 [.inr (7, 0), .inl (.int x1)] [] M = some res := uX7_hasForbiddenSuccession ((gX7_hasForbiddenSuccession_2 (rX7_hasForbiddenSuccession n) x1 M).trans h)
def rX7_cancel (n pc : Nat) (ls st : List am_V) (M : am_M) : am_R := am_run [fX7_clear] [] 0 am_X0 pX7_cancel n pc ls st M
def gX7_cancel (k : Nat → List am_V → List am_V → am_M → am_R) (pc : Nat) (ls st : List am_V) (M : am_M) : am_R := am_go [fX7_clear] [] 0 am_X0 pX7_cancel [2, 23] k 100 pc ls st M
theorem uX7_cancel {n pc : Nat} {ls st : List am_V} {M : am_M} {res : am_O × am_M} (h : gX7_cancel (rX7_cancel n) pc ls st M = some res) : rX7_cancel (n + 100) pc ls st M = some res := am_go_ok h
theorem eX7_cancel (x1 : Int32) (M : am_M) : fX7_cancel [.inr (7, 0), .inl (.int x1)] M = rX7_cancel 100000 0 [.inr (7, 0), .inl (.int x1), am_D] [] M := am_meth_eq rfl rfl
set_option maxRecDepth 20000 in
theorem gX7_cancel_0 (k : Nat → List am_V → List am_V → am_M → am_R) (x1 : Int32) (M : am_M) : gX7_cancel k 0 [.inr (7, 0), .inl (.int x1), am_D] [] M =
  k 2 [.inr (7, 0), .inl (.int x1), .inl (.int 1)] [] M := (rfl)
theorem eX7_cancel_0 {n : Nat} {x1 : Int32} {M : am_M} {res : am_O × am_M} (h : (rX7_cancel n 2 [.inr (7, 0), .inl (.int x1), .inl (.int 1)] [] M) = some res) : rX7_cancel (n + 100) 0 [.inr (7, 0), .inl (.int x1), am_D] [] M = some res := uX7_cancel ((gX7_cancel_0 (rX7_cancel n) x1 M).trans h)
set_option maxRecDepth 20000 in
theorem gX7_cancel_2 (k : Nat → List am_V → List am_V → am_M → am_R) (x1 : Int32) (x2 : Int32) (M : am_M) : gX7_cancel k 2 [.inr (7, 0), .inl (.int x1), .inl (.int x2)] [] M =
  if 12 < x2 then
   some (.inl none, M)
  else if am_in x2 13 then
   if (M 20 0 (Int32.toNatClampNeg x2)) = x1 then
    am_ret [] 20 [] (k 23 [.inr (7, 0), .inl (.int x1), .inl (.int x2)]) (fX7_clear [.inr (7, 0), .inl (.int x2)] M)
   else k 2 [.inr (7, 0), .inl (.int x1), .inl (.int (x2 + 1))] [] M
  else none := (rfl)
theorem eX7_cancel_2 {n : Nat} {x1 : Int32} {x2 : Int32} {M : am_M} {res : am_O × am_M} (h : (if 12 < x2 then
   some (.inl none, M)
  else if am_in x2 13 then
   if (M 20 0 (Int32.toNatClampNeg x2)) = x1 then
    am_ret [] 20 [] (rX7_cancel n 23 [.inr (7, 0), .inl (.int x1), .inl (.int x2)]) (fX7_clear [.inr (7, 0), .inl (.int x2)] M)
   else rX7_cancel n 2 [.inr (7, 0), .inl (.int x1), .inl (.int (x2 + 1))] [] M
  else none) = some res) : rX7_cancel (n + 100) 2 [.inr (7, 0), .inl (.int x1), .inl (.int x2)] [] M = some res := uX7_cancel ((gX7_cancel_2 (rX7_cancel n) x1 x2 M).trans h)
set_option maxRecDepth 20000 in
theorem gX7_cancel_23 (k : Nat → List am_V → List am_V → am_M → am_R) (x1 : Int32) (x2 : Int32) (M : am_M) : gX7_cancel k 23 [.inr (7, 0), .inl (.int x1), .inl (.int x2)] [] M =
  k 2 [.inr (7, 0), .inl (.int x1), .inl (.int (x2 + 1))] [] M := (rfl)
theorem eX7_cancel_23 {n : Nat} {x1 : Int32} {x2 : Int32} {M : am_M} {res : am_O × am_M} (h : (rX7_cancel n 2 [.inr (7, 0), .inl (.int x1), .inl (.int (x2 + 1))] [] M) = some res) : rX7_cancel (n + 100) 23 [.inr (7, 0), .inl (.int x1), .inl (.int x2)] [] M = some res := uX7_cancel ((gX7_cancel_23 (rX7_cancel n) x1 x2 M).trans h)
def rX7_book (n pc : Nat) (ls st : List am_V) (M : am_M) : am_R := am_run [fX6_kindOf, fX6_ageOf, fX7_isFree, fX7_hasForbiddenSuccession, fX7_cancel] [] 2 am_X0 pX7_book n pc ls st M
def gX7_book (k : Nat → List am_V → List am_V → am_M → am_R) (pc : Nat) (ls st : List am_V) (M : am_M) : am_R := am_go [fX6_kindOf, fX6_ageOf, fX7_isFree, fX7_hasForbiddenSuccession, fX7_cancel] [] 2 am_X0 pX7_book [12, 22, 25, 88, 96] k 100 pc ls st M
theorem uX7_book {n pc : Nat} {ls st : List am_V} {M : am_M} {res : am_O × am_M} (h : gX7_book (rX7_book n) pc ls st M = some res) : rX7_book (n + 100) pc ls st M = some res := am_go_ok h
theorem eX7_book (x1 : Nat) (x2 : Int32) (M : am_M) : fX7_book [.inr (7, 0), .inr (6, x1), .inl (.int x2)] M = rX7_book 100000 0 [.inr (7, 0), .inr (6, x1), .inl (.int x2), am_D] [] M := am_meth_eq rfl rfl
set_option maxRecDepth 20000 in
theorem gX7_book_0 (k : Nat → List am_V → List am_V → am_M → am_R) (x1 : Nat) (x2 : Int32) (M : am_M) : gX7_book k 0 [.inr (7, 0), .inr (6, x1), .inl (.int x2), am_D] [] M =
  if (M 18 x1 1) = (-1) then
   if (M 18 x1 4) = (-1) then
    if (M 18 x1 1) = (-1) then
     if (M 18 x1 4) = (-1) then
      am_ret [] 85 [] (k 88 [.inr (7, 0), .inr (6, x1), .inl (.int x2), .inl (.int 2)]) (fX7_hasForbiddenSuccession [.inr (7, 0)] M)
     else if am_in (M 18 x1 6) 13 then
      if am_in (M 18 x1 6) 13 then
       am_ret [] 85 [] (k 88 [.inr (7, 0), .inr (6, x1), .inl (.int x2), .inl (.int 2)]) (fX7_hasForbiddenSuccession [.inr (7, 0)] (am_put (am_put M 19 0 (Int32.toNatClampNeg (M 18 x1 6)) (M 18 x1 4)) 20 0 (Int32.toNatClampNeg (M 18 x1 6)) x2))
      else none
     else none
    else if am_in (M 18 x1 3) 13 then
     if am_in (M 18 x1 3) 13 then
      if (M 18 x1 4) = (-1) then
       am_ret [] 85 [] (k 88 [.inr (7, 0), .inr (6, x1), .inl (.int x2), .inl (.int 2)]) (fX7_hasForbiddenSuccession [.inr (7, 0)] (am_put (am_put M 19 0 (Int32.toNatClampNeg (M 18 x1 3)) (M 18 x1 1)) 20 0 (Int32.toNatClampNeg (M 18 x1 3)) x2))
      else if am_in (M 18 x1 6) 13 then
       if am_in (M 18 x1 6) 13 then
        am_ret [] 85 [] (k 88 [.inr (7, 0), .inr (6, x1), .inl (.int x2), .inl (.int 2)]) (fX7_hasForbiddenSuccession [.inr (7, 0)] (am_put (am_put (am_put (am_put M 19 0 (Int32.toNatClampNeg (M 18 x1 3)) (M 18 x1 1)) 20 0 (Int32.toNatClampNeg (M 18 x1 3)) x2) 19 0 (Int32.toNatClampNeg (M 18 x1 6)) (M 18 x1 4)) 20 0 (Int32.toNatClampNeg (M 18 x1 6)) x2))
       else none
      else none
     else none
    else none
   else am_ret [] 22 [] (k 25 [.inr (7, 0), .inr (6, x1), .inl (.int x2), .inl (.int 1)]) (fX7_isFree [.inr (7, 0), .inl (.int (M 18 x1 6))] M)
  else am_ret [] 22 [] (k 25 [.inr (7, 0), .inr (6, x1), .inl (.int x2), .inl (.int 0)]) (fX7_isFree [.inr (7, 0), .inl (.int (M 18 x1 3))] M) := (rfl)
theorem eX7_book_0 {n : Nat} {x1 : Nat} {x2 : Int32} {M : am_M} {res : am_O × am_M} (h : (if (M 18 x1 1) = (-1) then
   if (M 18 x1 4) = (-1) then
    if (M 18 x1 1) = (-1) then
     if (M 18 x1 4) = (-1) then
      am_ret [] 85 [] (rX7_book n 88 [.inr (7, 0), .inr (6, x1), .inl (.int x2), .inl (.int 2)]) (fX7_hasForbiddenSuccession [.inr (7, 0)] M)
     else if am_in (M 18 x1 6) 13 then
      if am_in (M 18 x1 6) 13 then
       am_ret [] 85 [] (rX7_book n 88 [.inr (7, 0), .inr (6, x1), .inl (.int x2), .inl (.int 2)]) (fX7_hasForbiddenSuccession [.inr (7, 0)] (am_put (am_put M 19 0 (Int32.toNatClampNeg (M 18 x1 6)) (M 18 x1 4)) 20 0 (Int32.toNatClampNeg (M 18 x1 6)) x2))
      else none
     else none
    else if am_in (M 18 x1 3) 13 then
     if am_in (M 18 x1 3) 13 then
      if (M 18 x1 4) = (-1) then
       am_ret [] 85 [] (rX7_book n 88 [.inr (7, 0), .inr (6, x1), .inl (.int x2), .inl (.int 2)]) (fX7_hasForbiddenSuccession [.inr (7, 0)] (am_put (am_put M 19 0 (Int32.toNatClampNeg (M 18 x1 3)) (M 18 x1 1)) 20 0 (Int32.toNatClampNeg (M 18 x1 3)) x2))
      else if am_in (M 18 x1 6) 13 then
       if am_in (M 18 x1 6) 13 then
        am_ret [] 85 [] (rX7_book n 88 [.inr (7, 0), .inr (6, x1), .inl (.int x2), .inl (.int 2)]) (fX7_hasForbiddenSuccession [.inr (7, 0)] (am_put (am_put (am_put (am_put M 19 0 (Int32.toNatClampNeg (M 18 x1 3)) (M 18 x1 1)) 20 0 (Int32.toNatClampNeg (M 18 x1 3)) x2) 19 0 (Int32.toNatClampNeg (M 18 x1 6)) (M 18 x1 4)) 20 0 (Int32.toNatClampNeg (M 18 x1 6)) x2))
       else none
      else none
     else none
    else none
   else am_ret [] 22 [] (rX7_book n 25 [.inr (7, 0), .inr (6, x1), .inl (.int x2), .inl (.int 1)]) (fX7_isFree [.inr (7, 0), .inl (.int (M 18 x1 6))] M)
  else am_ret [] 22 [] (rX7_book n 25 [.inr (7, 0), .inr (6, x1), .inl (.int x2), .inl (.int 0)]) (fX7_isFree [.inr (7, 0), .inl (.int (M 18 x1 3))] M)) = some res) : rX7_book (n + 100) 0 [.inr (7, 0), .inr (6, x1), .inl (.int x2), am_D] [] M = some res := uX7_book ((gX7_book_0 (rX7_book n) x1 x2 M).trans h)
set_option maxRecDepth 20000 in
theorem gX7_book_88 (k : Nat → List am_V → List am_V → am_M → am_R) (x1 : Nat) (x2 : Int32) (x3 : Int32) (y0 : Int32) (M : am_M) : gX7_book k 88 [.inr (7, 0), .inr (6, x1), .inl (.int x2), .inl (.int x3)] [.inl (.int y0)] M =
  if y0 = 0 then
   some (.inl (some (.inl (.int 1))), M)
  else am_ret [] 93 [] (k 96 [.inr (7, 0), .inr (6, x1), .inl (.int x2), .inl (.int x3)]) (fX7_cancel [.inr (7, 0), .inl (.int x2)] M) := (rfl)
theorem eX7_book_88 {n : Nat} {x1 : Nat} {x2 : Int32} {x3 : Int32} {y0 : Int32} {M : am_M} {res : am_O × am_M} (h : (if y0 = 0 then
   some (.inl (some (.inl (.int 1))), M)
  else am_ret [] 93 [] (rX7_book n 96 [.inr (7, 0), .inr (6, x1), .inl (.int x2), .inl (.int x3)]) (fX7_cancel [.inr (7, 0), .inl (.int x2)] M)) = some res) : rX7_book (n + 100) 88 [.inr (7, 0), .inr (6, x1), .inl (.int x2), .inl (.int x3)] [.inl (.int y0)] M = some res := uX7_book ((gX7_book_88 (rX7_book n) x1 x2 x3 y0 M).trans h)
set_option maxRecDepth 20000 in
theorem gX7_book_25 (k : Nat → List am_V → List am_V → am_M → am_R) (x1 : Nat) (x2 : Int32) (x3 : Int32) (y0 : Int32) (M : am_M) : gX7_book k 25 [.inr (7, 0), .inr (6, x1), .inl (.int x2), .inl (.int x3)] [.inl (.int y0)] M =
  if y0 = 0 then
   some (.inl (some (.inl (.int 0))), M)
  else if 2 ≤ (x3 + 1) then
   if (M 18 x1 1) = (-1) then
    if (M 18 x1 4) = (-1) then
     am_ret [] 85 [] (k 88 [.inr (7, 0), .inr (6, x1), .inl (.int x2), .inl (.int 2)]) (fX7_hasForbiddenSuccession [.inr (7, 0)] M)
    else if am_in (M 18 x1 6) 13 then
     if am_in (M 18 x1 6) 13 then
      am_ret [] 85 [] (k 88 [.inr (7, 0), .inr (6, x1), .inl (.int x2), .inl (.int 2)]) (fX7_hasForbiddenSuccession [.inr (7, 0)] (am_put (am_put M 19 0 (Int32.toNatClampNeg (M 18 x1 6)) (M 18 x1 4)) 20 0 (Int32.toNatClampNeg (M 18 x1 6)) x2))
     else none
    else none
   else if am_in (M 18 x1 3) 13 then
    if am_in (M 18 x1 3) 13 then
     if (M 18 x1 4) = (-1) then
      am_ret [] 85 [] (k 88 [.inr (7, 0), .inr (6, x1), .inl (.int x2), .inl (.int 2)]) (fX7_hasForbiddenSuccession [.inr (7, 0)] (am_put (am_put M 19 0 (Int32.toNatClampNeg (M 18 x1 3)) (M 18 x1 1)) 20 0 (Int32.toNatClampNeg (M 18 x1 3)) x2))
     else if am_in (M 18 x1 6) 13 then
      if am_in (M 18 x1 6) 13 then
       am_ret [] 85 [] (k 88 [.inr (7, 0), .inr (6, x1), .inl (.int x2), .inl (.int 2)]) (fX7_hasForbiddenSuccession [.inr (7, 0)] (am_put (am_put (am_put (am_put M 19 0 (Int32.toNatClampNeg (M 18 x1 3)) (M 18 x1 1)) 20 0 (Int32.toNatClampNeg (M 18 x1 3)) x2) 19 0 (Int32.toNatClampNeg (M 18 x1 6)) (M 18 x1 4)) 20 0 (Int32.toNatClampNeg (M 18 x1 6)) x2))
      else none
     else none
    else none
   else none
  else am_ret [] 9 [] (k 12 [.inr (7, 0), .inr (6, x1), .inl (.int x2), .inl (.int (x3 + 1))]) (fX6_kindOf [.inr (6, x1), .inl (.int (x3 + 1))] M) := (rfl)
theorem eX7_book_25 {n : Nat} {x1 : Nat} {x2 : Int32} {x3 : Int32} {y0 : Int32} {M : am_M} {res : am_O × am_M} (h : (if y0 = 0 then
   some (.inl (some (.inl (.int 0))), M)
  else if 2 ≤ (x3 + 1) then
   if (M 18 x1 1) = (-1) then
    if (M 18 x1 4) = (-1) then
     am_ret [] 85 [] (rX7_book n 88 [.inr (7, 0), .inr (6, x1), .inl (.int x2), .inl (.int 2)]) (fX7_hasForbiddenSuccession [.inr (7, 0)] M)
    else if am_in (M 18 x1 6) 13 then
     if am_in (M 18 x1 6) 13 then
      am_ret [] 85 [] (rX7_book n 88 [.inr (7, 0), .inr (6, x1), .inl (.int x2), .inl (.int 2)]) (fX7_hasForbiddenSuccession [.inr (7, 0)] (am_put (am_put M 19 0 (Int32.toNatClampNeg (M 18 x1 6)) (M 18 x1 4)) 20 0 (Int32.toNatClampNeg (M 18 x1 6)) x2))
     else none
    else none
   else if am_in (M 18 x1 3) 13 then
    if am_in (M 18 x1 3) 13 then
     if (M 18 x1 4) = (-1) then
      am_ret [] 85 [] (rX7_book n 88 [.inr (7, 0), .inr (6, x1), .inl (.int x2), .inl (.int 2)]) (fX7_hasForbiddenSuccession [.inr (7, 0)] (am_put (am_put M 19 0 (Int32.toNatClampNeg (M 18 x1 3)) (M 18 x1 1)) 20 0 (Int32.toNatClampNeg (M 18 x1 3)) x2))
     else if am_in (M 18 x1 6) 13 then
      if am_in (M 18 x1 6) 13 then
       am_ret [] 85 [] (rX7_book n 88 [.inr (7, 0), .inr (6, x1), .inl (.int x2), .inl (.int 2)]) (fX7_hasForbiddenSuccession [.inr (7, 0)] (am_put (am_put (am_put (am_put M 19 0 (Int32.toNatClampNeg (M 18 x1 3)) (M 18 x1 1)) 20 0 (Int32.toNatClampNeg (M 18 x1 3)) x2) 19 0 (Int32.toNatClampNeg (M 18 x1 6)) (M 18 x1 4)) 20 0 (Int32.toNatClampNeg (M 18 x1 6)) x2))
      else none
     else none
    else none
   else none
  else am_ret [] 9 [] (rX7_book n 12 [.inr (7, 0), .inr (6, x1), .inl (.int x2), .inl (.int (x3 + 1))]) (fX6_kindOf [.inr (6, x1), .inl (.int (x3 + 1))] M)) = some res) : rX7_book (n + 100) 25 [.inr (7, 0), .inr (6, x1), .inl (.int x2), .inl (.int x3)] [.inl (.int y0)] M = some res := uX7_book ((gX7_book_25 (rX7_book n) x1 x2 x3 y0 M).trans h)
set_option maxRecDepth 20000 in
theorem gX7_book_96 (k : Nat → List am_V → List am_V → am_M → am_R) (x1 : Nat) (x2 : Int32) (x3 : Int32) (M : am_M) : gX7_book k 96 [.inr (7, 0), .inr (6, x1), .inl (.int x2), .inl (.int x3)] [] M =
  some (.inl (some (.inl (.int 0))), M) := (rfl)
theorem eX7_book_96 {n : Nat} {x1 : Nat} {x2 : Int32} {x3 : Int32} {M : am_M} {res : am_O × am_M} (h : (some (.inl (some (.inl (.int 0))), M)) = some res) : rX7_book (n + 100) 96 [.inr (7, 0), .inr (6, x1), .inl (.int x2), .inl (.int x3)] [] M = some res := uX7_book ((gX7_book_96 (rX7_book n) x1 x2 x3 M).trans h)
set_option maxRecDepth 20000 in
theorem gX7_book_12 (k : Nat → List am_V → List am_V → am_M → am_R) (x1 : Nat) (x2 : Int32) (x3 : Int32) (y0 : Int32) (M : am_M) : gX7_book k 12 [.inr (7, 0), .inr (6, x1), .inl (.int x2), .inl (.int x3)] [.inl (.int y0)] M =
  if y0 = (-1) then
   if 2 ≤ (x3 + 1) then
    if (M 18 x1 1) = (-1) then
     if (M 18 x1 4) = (-1) then
      am_ret [] 85 [] (k 88 [.inr (7, 0), .inr (6, x1), .inl (.int x2), .inl (.int 2)]) (fX7_hasForbiddenSuccession [.inr (7, 0)] M)
     else if am_in (M 18 x1 6) 13 then
      if am_in (M 18 x1 6) 13 then
       am_ret [] 85 [] (k 88 [.inr (7, 0), .inr (6, x1), .inl (.int x2), .inl (.int 2)]) (fX7_hasForbiddenSuccession [.inr (7, 0)] (am_put (am_put M 19 0 (Int32.toNatClampNeg (M 18 x1 6)) (M 18 x1 4)) 20 0 (Int32.toNatClampNeg (M 18 x1 6)) x2))
      else none
     else none
    else if am_in (M 18 x1 3) 13 then
     if am_in (M 18 x1 3) 13 then
      if (M 18 x1 4) = (-1) then
       am_ret [] 85 [] (k 88 [.inr (7, 0), .inr (6, x1), .inl (.int x2), .inl (.int 2)]) (fX7_hasForbiddenSuccession [.inr (7, 0)] (am_put (am_put M 19 0 (Int32.toNatClampNeg (M 18 x1 3)) (M 18 x1 1)) 20 0 (Int32.toNatClampNeg (M 18 x1 3)) x2))
      else if am_in (M 18 x1 6) 13 then
       if am_in (M 18 x1 6) 13 then
        am_ret [] 85 [] (k 88 [.inr (7, 0), .inr (6, x1), .inl (.int x2), .inl (.int 2)]) (fX7_hasForbiddenSuccession [.inr (7, 0)] (am_put (am_put (am_put (am_put M 19 0 (Int32.toNatClampNeg (M 18 x1 3)) (M 18 x1 1)) 20 0 (Int32.toNatClampNeg (M 18 x1 3)) x2) 19 0 (Int32.toNatClampNeg (M 18 x1 6)) (M 18 x1 4)) 20 0 (Int32.toNatClampNeg (M 18 x1 6)) x2))
       else none
      else none
     else none
    else none
   else am_ret [] 9 [] (k 12 [.inr (7, 0), .inr (6, x1), .inl (.int x2), .inl (.int (x3 + 1))]) (fX6_kindOf [.inr (6, x1), .inl (.int (x3 + 1))] M)
  else am_ret [] 19 [.inr (7, 0)] (k 22 [.inr (7, 0), .inr (6, x1), .inl (.int x2), .inl (.int x3)]) (fX6_ageOf [.inr (6, x1), .inl (.int x3)] M) := (rfl)
theorem eX7_book_12 {n : Nat} {x1 : Nat} {x2 : Int32} {x3 : Int32} {y0 : Int32} {M : am_M} {res : am_O × am_M} (h : (if y0 = (-1) then
   if 2 ≤ (x3 + 1) then
    if (M 18 x1 1) = (-1) then
     if (M 18 x1 4) = (-1) then
      am_ret [] 85 [] (rX7_book n 88 [.inr (7, 0), .inr (6, x1), .inl (.int x2), .inl (.int 2)]) (fX7_hasForbiddenSuccession [.inr (7, 0)] M)
     else if am_in (M 18 x1 6) 13 then
      if am_in (M 18 x1 6) 13 then
       am_ret [] 85 [] (rX7_book n 88 [.inr (7, 0), .inr (6, x1), .inl (.int x2), .inl (.int 2)]) (fX7_hasForbiddenSuccession [.inr (7, 0)] (am_put (am_put M 19 0 (Int32.toNatClampNeg (M 18 x1 6)) (M 18 x1 4)) 20 0 (Int32.toNatClampNeg (M 18 x1 6)) x2))
      else none
     else none
    else if am_in (M 18 x1 3) 13 then
     if am_in (M 18 x1 3) 13 then
      if (M 18 x1 4) = (-1) then
       am_ret [] 85 [] (rX7_book n 88 [.inr (7, 0), .inr (6, x1), .inl (.int x2), .inl (.int 2)]) (fX7_hasForbiddenSuccession [.inr (7, 0)] (am_put (am_put M 19 0 (Int32.toNatClampNeg (M 18 x1 3)) (M 18 x1 1)) 20 0 (Int32.toNatClampNeg (M 18 x1 3)) x2))
      else if am_in (M 18 x1 6) 13 then
       if am_in (M 18 x1 6) 13 then
        am_ret [] 85 [] (rX7_book n 88 [.inr (7, 0), .inr (6, x1), .inl (.int x2), .inl (.int 2)]) (fX7_hasForbiddenSuccession [.inr (7, 0)] (am_put (am_put (am_put (am_put M 19 0 (Int32.toNatClampNeg (M 18 x1 3)) (M 18 x1 1)) 20 0 (Int32.toNatClampNeg (M 18 x1 3)) x2) 19 0 (Int32.toNatClampNeg (M 18 x1 6)) (M 18 x1 4)) 20 0 (Int32.toNatClampNeg (M 18 x1 6)) x2))
       else none
      else none
     else none
    else none
   else am_ret [] 9 [] (rX7_book n 12 [.inr (7, 0), .inr (6, x1), .inl (.int x2), .inl (.int (x3 + 1))]) (fX6_kindOf [.inr (6, x1), .inl (.int (x3 + 1))] M)
  else am_ret [] 19 [.inr (7, 0)] (rX7_book n 22 [.inr (7, 0), .inr (6, x1), .inl (.int x2), .inl (.int x3)]) (fX6_ageOf [.inr (6, x1), .inl (.int x3)] M)) = some res) : rX7_book (n + 100) 12 [.inr (7, 0), .inr (6, x1), .inl (.int x2), .inl (.int x3)] [.inl (.int y0)] M = some res := uX7_book ((gX7_book_12 (rX7_book n) x1 x2 x3 y0 M).trans h)
set_option maxRecDepth 20000 in
theorem gX7_book_22 (k : Nat → List am_V → List am_V → am_M → am_R) (x1 : Nat) (x2 : Int32) (x3 : Int32) (y0 : Int32) (M : am_M) : gX7_book k 22 [.inr (7, 0), .inr (6, x1), .inl (.int x2), .inl (.int x3)] [.inl (.int y0), .inr (7, 0)] M =
  am_ret [] 22 [] (k 25 [.inr (7, 0), .inr (6, x1), .inl (.int x2), .inl (.int x3)]) (fX7_isFree [.inr (7, 0), .inl (.int y0)] M) := (rfl)
theorem eX7_book_22 {n : Nat} {x1 : Nat} {x2 : Int32} {x3 : Int32} {y0 : Int32} {M : am_M} {res : am_O × am_M} (h : (am_ret [] 22 [] (rX7_book n 25 [.inr (7, 0), .inr (6, x1), .inl (.int x2), .inl (.int x3)]) (fX7_isFree [.inr (7, 0), .inl (.int y0)] M)) = some res) : rX7_book (n + 100) 22 [.inr (7, 0), .inr (6, x1), .inl (.int x2), .inl (.int x3)] [.inl (.int y0), .inr (7, 0)] M = some res := uX7_book ((gX7_book_22 (rX7_book n) x1 x2 x3 y0 M).trans h)
def rX8_isEmpty (n pc : Nat) (ls st : List am_V) (M : am_M) : am_R := am_run [] [] 2 am_X0 pX8_isEmpty n pc ls st M
def gX8_isEmpty (k : Nat → List am_V → List am_V → am_M → am_R) (pc : Nat) (ls st : List am_V) (M : am_M) : am_R := am_go [] [] 2 am_X0 pX8_isEmpty [] k 100 pc ls st M
theorem uX8_isEmpty {n pc : Nat} {ls st : List am_V} {M : am_M} {res : am_O × am_M} (h : gX8_isEmpty (rX8_isEmpty n) pc ls st M = some res) : rX8_isEmpty (n + 100) pc ls st M = some res := am_go_ok h
theorem eX8_isEmpty (x0 : Nat) (M : am_M) : fX8_isEmpty [.inr (8, x0)] M = rX8_isEmpty 100000 0 [.inr (8, x0)] [] M := am_meth_eq rfl rfl
set_option maxRecDepth 20000 in
theorem gX8_isEmpty_0 (k : Nat → List am_V → List am_V → am_M → am_R) (x0 : Nat) (M : am_M) : gX8_isEmpty k 0 [.inr (8, x0)] [] M =
  if (M 8 x0 0) = (-1) then
   some (.inl (some (.inl (.int 1))), M)
  else some (.inl (some (.inl (.int 0))), M) := (rfl)
theorem eX8_isEmpty_0 {n : Nat} {x0 : Nat} {M : am_M} {res : am_O × am_M} (h : (if (M 8 x0 0) = (-1) then
   some (.inl (some (.inl (.int 1))), M)
  else some (.inl (some (.inl (.int 0))), M)) = some res) : rX8_isEmpty (n + 100) 0 [.inr (8, x0)] [] M = some res := uX8_isEmpty ((gX8_isEmpty_0 (rX8_isEmpty n) x0 M).trans h)
def rX8_fill (n pc : Nat) (ls st : List am_V) (M : am_M) : am_R := am_run [] [] 0 am_X0 pX8_fill n pc ls st M
def gX8_fill (k : Nat → List am_V → List am_V → am_M → am_R) (pc : Nat) (ls st : List am_V) (M : am_M) : am_R := am_go [] [] 0 am_X0 pX8_fill [] k 100 pc ls st M
theorem uX8_fill {n pc : Nat} {ls st : List am_V} {M : am_M} {res : am_O × am_M} (h : gX8_fill (rX8_fill n) pc ls st M = some res) : rX8_fill (n + 100) pc ls st M = some res := am_go_ok h
theorem eX8_fill (x0 : Nat) (x1 : Int32) (x2 : Int32) (x3 : Int32) (M : am_M) : fX8_fill [.inr (8, x0), .inl (.int x1), .inl (.int x2), .inl (.int x3)] M = rX8_fill 100000 0 [.inr (8, x0), .inl (.int x1), .inl (.int x2), .inl (.int x3)] [] M := am_meth_eq rfl rfl
set_option maxRecDepth 20000 in
theorem gX8_fill_0 (k : Nat → List am_V → List am_V → am_M → am_R) (x0 : Nat) (x1 : Int32) (x2 : Int32) (x3 : Int32) (M : am_M) : gX8_fill k 0 [.inr (8, x0), .inl (.int x1), .inl (.int x2), .inl (.int x3)] [] M =
  if am_b x2 = x2 then
   some (.inl none, (am_put (am_put (am_put M 8 x0 0 x1) 8 x0 1 x2) 8 x0 2 x3))
  else none := (rfl)
theorem eX8_fill_0 {n : Nat} {x0 : Nat} {x1 : Int32} {x2 : Int32} {x3 : Int32} {M : am_M} {res : am_O × am_M} (h : (if am_b x2 = x2 then
   some (.inl none, (am_put (am_put (am_put M 8 x0 0 x1) 8 x0 1 x2) 8 x0 2 x3))
  else none) = some res) : rX8_fill (n + 100) 0 [.inr (8, x0), .inl (.int x1), .inl (.int x2), .inl (.int x3)] [] M = some res := uX8_fill ((gX8_fill_0 (rX8_fill n) x0 x1 x2 x3 M).trans h)
def rX9_isOrdered (n pc : Nat) (ls st : List am_V) (M : am_M) : am_R := am_run [fX4_isOpen] [] 2 am_X0 pX9_isOrdered n pc ls st M
def gX9_isOrdered (k : Nat → List am_V → List am_V → am_M → am_R) (pc : Nat) (ls st : List am_V) (M : am_M) : am_R := am_go [fX4_isOpen] [] 2 am_X0 pX9_isOrdered [2, 19] k 100 pc ls st M
theorem uX9_isOrdered {n pc : Nat} {ls st : List am_V} {M : am_M} {res : am_O × am_M} (h : gX9_isOrdered (rX9_isOrdered n) pc ls st M = some res) : rX9_isOrdered (n + 100) pc ls st M = some res := am_go_ok h
theorem eX9_isOrdered (x1 : Int32) (M : am_M) : fX9_isOrdered [.inr (9, 0), .inl (.int x1)] M = rX9_isOrdered 100000 0 [.inr (9, 0), .inl (.int x1), am_D] [] M := am_meth_eq rfl rfl
set_option maxRecDepth 20000 in
theorem gX9_isOrdered_0 (k : Nat → List am_V → List am_V → am_M → am_R) (x1 : Int32) (M : am_M) : gX9_isOrdered k 0 [.inr (9, 0), .inl (.int x1), am_D] [] M =
  k 2 [.inr (9, 0), .inl (.int x1), .inl (.int 0)] [] M := (rfl)
theorem eX9_isOrdered_0 {n : Nat} {x1 : Int32} {M : am_M} {res : am_O × am_M} (h : (rX9_isOrdered n 2 [.inr (9, 0), .inl (.int x1), .inl (.int 0)] [] M) = some res) : rX9_isOrdered (n + 100) 0 [.inr (9, 0), .inl (.int x1), am_D] [] M = some res := uX9_isOrdered ((gX9_isOrdered_0 (rX9_isOrdered n) x1 M).trans h)
set_option maxRecDepth 20000 in
theorem gX9_isOrdered_2 (k : Nat → List am_V → List am_V → am_M → am_R) (x1 : Int32) (x2 : Int32) (M : am_M) : gX9_isOrdered k 2 [.inr (9, 0), .inl (.int x1), .inl (.int x2)] [] M =
  if (M 9 0 7) ≤ x2 then
   some (.inl (some (.inl (.int 0))), M)
  else if am_in x2 40 then
   am_ret [] 16 [] (k 19 [.inr (9, 0), .inl (.int x1), .inl (.int x2)]) (fX4_isOpen [.inr (4, (Int32.toNatClampNeg x2))] M)
  else none := (rfl)
theorem eX9_isOrdered_2 {n : Nat} {x1 : Int32} {x2 : Int32} {M : am_M} {res : am_O × am_M} (h : (if (M 9 0 7) ≤ x2 then
   some (.inl (some (.inl (.int 0))), M)
  else if am_in x2 40 then
   am_ret [] 16 [] (rX9_isOrdered n 19 [.inr (9, 0), .inl (.int x1), .inl (.int x2)]) (fX4_isOpen [.inr (4, (Int32.toNatClampNeg x2))] M)
  else none) = some res) : rX9_isOrdered (n + 100) 2 [.inr (9, 0), .inl (.int x1), .inl (.int x2)] [] M = some res := uX9_isOrdered ((gX9_isOrdered_2 (rX9_isOrdered n) x1 x2 M).trans h)
set_option maxRecDepth 20000 in
theorem gX9_isOrdered_19 (k : Nat → List am_V → List am_V → am_M → am_R) (x1 : Int32) (x2 : Int32) (y0 : Int32) (M : am_M) : gX9_isOrdered k 19 [.inr (9, 0), .inl (.int x1), .inl (.int x2)] [.inl (.int y0)] M =
  if y0 = 0 then
   k 2 [.inr (9, 0), .inl (.int x1), .inl (.int (x2 + 1))] [] M
  else if am_in x2 40 then
   if (M 4 (Int32.toNatClampNeg x2) 1) = x1 then
    some (.inl (some (.inl (.int 1))), M)
   else k 2 [.inr (9, 0), .inl (.int x1), .inl (.int (x2 + 1))] [] M
  else none := (rfl)
theorem eX9_isOrdered_19 {n : Nat} {x1 : Int32} {x2 : Int32} {y0 : Int32} {M : am_M} {res : am_O × am_M} (h : (if y0 = 0 then
   rX9_isOrdered n 2 [.inr (9, 0), .inl (.int x1), .inl (.int (x2 + 1))] [] M
  else if am_in x2 40 then
   if (M 4 (Int32.toNatClampNeg x2) 1) = x1 then
    some (.inl (some (.inl (.int 1))), M)
   else rX9_isOrdered n 2 [.inr (9, 0), .inl (.int x1), .inl (.int (x2 + 1))] [] M
  else none) = some res) : rX9_isOrdered (n + 100) 19 [.inr (9, 0), .inl (.int x1), .inl (.int x2)] [.inl (.int y0)] M = some res := uX9_isOrdered ((gX9_isOrdered_19 (rX9_isOrdered n) x1 x2 y0 M).trans h)
def rX9_define (n pc : Nat) (ls st : List am_V) (M : am_M) : am_R := am_run [fX9_isWithin, fX6_accepts, fX9_demandArgument, fX9_isOrdered, fX9_demandState] [] 0 am_X0 pX9_define n pc ls st M
def gX9_define (k : Nat → List am_V → List am_V → am_M → am_R) (pc : Nat) (ls st : List am_V) (M : am_M) : am_R := am_go [fX9_isWithin, fX6_accepts, fX9_demandArgument, fX9_isOrdered, fX9_demandState] [] 0 am_X0 pX9_define [6, 14, 25, 30, 41] k 100 pc ls st M
theorem uX9_define {n pc : Nat} {ls st : List am_V} {M : am_M} {res : am_O × am_M} (h : gX9_define (rX9_define n) pc ls st M = some res) : rX9_define (n + 100) pc ls st M = some res := am_go_ok h
theorem eX9_define (x1 : Int32) (x2 : Int32) (x3 : Int32) (M : am_M) : fX9_define [.inr (9, 0), .inl (.int x1), .inl (.int x2), .inl (.int x3)] M = rX9_define 100000 0 [.inr (9, 0), .inl (.int x1), .inl (.int x2), .inl (.int x3), am_D] [] M := am_meth_eq rfl rfl
set_option maxRecDepth 20000 in
theorem gX9_define_0 (k : Nat → List am_V → List am_V → am_M → am_R) (x1 : Int32) (x2 : Int32) (x3 : Int32) (M : am_M) : gX9_define k 0 [.inr (9, 0), .inl (.int x1), .inl (.int x2), .inl (.int x3), am_D] [] M =
  am_ret [] 3 [] (k 6 [.inr (9, 0), .inl (.int x1), .inl (.int x2), .inl (.int x3), am_D]) (fX9_isWithin [.inl (.int x1), .inl (.int 0), .inl (.int 3)] M) := (rfl)
theorem eX9_define_0 {n : Nat} {x1 : Int32} {x2 : Int32} {x3 : Int32} {M : am_M} {res : am_O × am_M} (h : (am_ret [] 3 [] (rX9_define n 6 [.inr (9, 0), .inl (.int x1), .inl (.int x2), .inl (.int x3), am_D]) (fX9_isWithin [.inl (.int x1), .inl (.int 0), .inl (.int 3)] M)) = some res) : rX9_define (n + 100) 0 [.inr (9, 0), .inl (.int x1), .inl (.int x2), .inl (.int x3), am_D] [] M = some res := uX9_define ((gX9_define_0 (rX9_define n) x1 x2 x3 M).trans h)
set_option maxRecDepth 20000 in
theorem gX9_define_6 (k : Nat → List am_V → List am_V → am_M → am_R) (x1 : Int32) (x2 : Int32) (x3 : Int32) (y0 : Int32) (M : am_M) : gX9_define k 6 [.inr (9, 0), .inl (.int x1), .inl (.int x2), .inl (.int x3), am_D] [.inl (.int y0)] M =
  if y0 = 0 then
   am_ret [] 22 [] (k 25 [.inr (9, 0), .inl (.int x1), .inl (.int x2), .inl (.int x3), am_D]) (fX9_demandArgument [.inl (.int 0)] M)
  else am_ret [] 11 [] (k 14 [.inr (9, 0), .inl (.int x1), .inl (.int x2), .inl (.int x3), am_D]) (fX6_accepts [.inl (.int x2), .inl (.int x3)] M) := (rfl)
theorem eX9_define_6 {n : Nat} {x1 : Int32} {x2 : Int32} {x3 : Int32} {y0 : Int32} {M : am_M} {res : am_O × am_M} (h : (if y0 = 0 then
   am_ret [] 22 [] (rX9_define n 25 [.inr (9, 0), .inl (.int x1), .inl (.int x2), .inl (.int x3), am_D]) (fX9_demandArgument [.inl (.int 0)] M)
  else am_ret [] 11 [] (rX9_define n 14 [.inr (9, 0), .inl (.int x1), .inl (.int x2), .inl (.int x3), am_D]) (fX6_accepts [.inl (.int x2), .inl (.int x3)] M)) = some res) : rX9_define (n + 100) 6 [.inr (9, 0), .inl (.int x1), .inl (.int x2), .inl (.int x3), am_D] [.inl (.int y0)] M = some res := uX9_define ((gX9_define_6 (rX9_define n) x1 x2 x3 y0 M).trans h)
set_option maxRecDepth 20000 in
theorem gX9_define_25 (k : Nat → List am_V → List am_V → am_M → am_R) (x1 : Int32) (x2 : Int32) (x3 : Int32) (M : am_M) : gX9_define k 25 [.inr (9, 0), .inl (.int x1), .inl (.int x2), .inl (.int x3), am_D] [] M =
  am_ret [] 27 [] (k 30 [.inr (9, 0), .inl (.int x1), .inl (.int x2), .inl (.int x3), am_D]) (fX9_isOrdered [.inr (9, 0), .inl (.int x1)] M) := (rfl)
theorem eX9_define_25 {n : Nat} {x1 : Int32} {x2 : Int32} {x3 : Int32} {M : am_M} {res : am_O × am_M} (h : (am_ret [] 27 [] (rX9_define n 30 [.inr (9, 0), .inl (.int x1), .inl (.int x2), .inl (.int x3), am_D]) (fX9_isOrdered [.inr (9, 0), .inl (.int x1)] M)) = some res) : rX9_define (n + 100) 25 [.inr (9, 0), .inl (.int x1), .inl (.int x2), .inl (.int x3), am_D] [] M = some res := uX9_define ((gX9_define_25 (rX9_define n) x1 x2 x3 M).trans h)
set_option maxRecDepth 20000 in
theorem gX9_define_14 (k : Nat → List am_V → List am_V → am_M → am_R) (x1 : Int32) (x2 : Int32) (x3 : Int32) (y0 : Int32) (M : am_M) : gX9_define k 14 [.inr (9, 0), .inl (.int x1), .inl (.int x2), .inl (.int x3), am_D] [.inl (.int y0)] M =
  if y0 = 0 then
   am_ret [] 22 [] (k 25 [.inr (9, 0), .inl (.int x1), .inl (.int x2), .inl (.int x3), am_D]) (fX9_demandArgument [.inl (.int 0)] M)
  else am_ret [] 22 [] (k 25 [.inr (9, 0), .inl (.int x1), .inl (.int x2), .inl (.int x3), am_D]) (fX9_demandArgument [.inl (.int 1)] M) := (rfl)
theorem eX9_define_14 {n : Nat} {x1 : Int32} {x2 : Int32} {x3 : Int32} {y0 : Int32} {M : am_M} {res : am_O × am_M} (h : (if y0 = 0 then
   am_ret [] 22 [] (rX9_define n 25 [.inr (9, 0), .inl (.int x1), .inl (.int x2), .inl (.int x3), am_D]) (fX9_demandArgument [.inl (.int 0)] M)
  else am_ret [] 22 [] (rX9_define n 25 [.inr (9, 0), .inl (.int x1), .inl (.int x2), .inl (.int x3), am_D]) (fX9_demandArgument [.inl (.int 1)] M)) = some res) : rX9_define (n + 100) 14 [.inr (9, 0), .inl (.int x1), .inl (.int x2), .inl (.int x3), am_D] [.inl (.int y0)] M = some res := uX9_define ((gX9_define_14 (rX9_define n) x1 x2 x3 y0 M).trans h)
set_option maxRecDepth 20000 in
theorem gX9_define_30 (k : Nat → List am_V → List am_V → am_M → am_R) (x1 : Int32) (x2 : Int32) (x3 : Int32) (y0 : Int32) (M : am_M) : gX9_define k 30 [.inr (9, 0), .inl (.int x1), .inl (.int x2), .inl (.int x3), am_D] [.inl (.int y0)] M =
  if y0 = 0 then
   am_ret [] 38 [] (k 41 [.inr (9, 0), .inl (.int x1), .inl (.int x2), .inl (.int x3), am_D]) (fX9_demandState [.inl (.int 1)] M)
  else am_ret [] 38 [] (k 41 [.inr (9, 0), .inl (.int x1), .inl (.int x2), .inl (.int x3), am_D]) (fX9_demandState [.inl (.int 0)] M) := (rfl)
theorem eX9_define_30 {n : Nat} {x1 : Int32} {x2 : Int32} {x3 : Int32} {y0 : Int32} {M : am_M} {res : am_O × am_M} (h : (if y0 = 0 then
   am_ret [] 38 [] (rX9_define n 41 [.inr (9, 0), .inl (.int x1), .inl (.int x2), .inl (.int x3), am_D]) (fX9_demandState [.inl (.int 1)] M)
  else am_ret [] 38 [] (rX9_define n 41 [.inr (9, 0), .inl (.int x1), .inl (.int x2), .inl (.int x3), am_D]) (fX9_demandState [.inl (.int 0)] M)) = some res) : rX9_define (n + 100) 30 [.inr (9, 0), .inl (.int x1), .inl (.int x2), .inl (.int x3), am_D] [.inl (.int y0)] M = some res := uX9_define ((gX9_define_30 (rX9_define n) x1 x2 x3 y0 M).trans h)
set_option maxRecDepth 20000 in
theorem gX9_define_41 (k : Nat → List am_V → List am_V → am_M → am_R) (x1 : Int32) (x2 : Int32) (x3 : Int32) (M : am_M) : gX9_define k 41 [.inr (9, 0), .inl (.int x1), .inl (.int x2), .inl (.int x3), am_D] [] M =
  if am_in x1 4 then
   if am_in x2 16 then
    some (.inl none, (am_put (am_put M 18 (Int32.toNatClampNeg x1) (Int32.toNatClampNeg x2) x3) 6 (Int32.toNatClampNeg x1) 3 0))
   else none
  else none := (rfl)
theorem eX9_define_41 {n : Nat} {x1 : Int32} {x2 : Int32} {x3 : Int32} {M : am_M} {res : am_O × am_M} (h : (if am_in x1 4 then
   if am_in x2 16 then
    some (.inl none, (am_put (am_put M 18 (Int32.toNatClampNeg x1) (Int32.toNatClampNeg x2) x3) 6 (Int32.toNatClampNeg x1) 3 0))
   else none
  else none) = some res) : rX9_define (n + 100) 41 [.inr (9, 0), .inl (.int x1), .inl (.int x2), .inl (.int x3), am_D] [] M = some res := uX9_define ((gX9_define_41 (rX9_define n) x1 x2 x3 M).trans h)
def rX9_curve (n pc : Nat) (ls st : List am_V) (M : am_M) : am_R := am_run [fX9_isWithin, fX0_accepts, fX9_demandArgument, fX9_isOrdered, fX0_takes, fX9_demandState, fX0_add] [] 1 am_X0 pX9_curve n pc ls st M
def gX9_curve (k : Nat → List am_V → List am_V → am_M → am_R) (pc : Nat) (ls st : List am_V) (M : am_M) : am_R := am_go [fX9_isWithin, fX0_accepts, fX9_demandArgument, fX9_isOrdered, fX0_takes, fX9_demandState, fX0_add] [] 1 am_X0 pX9_curve [6, 13, 20, 31, 44, 56, 67, 77] k 100 pc ls st M
theorem uX9_curve {n pc : Nat} {ls st : List am_V} {M : am_M} {res : am_O × am_M} (h : gX9_curve (rX9_curve n) pc ls st M = some res) : rX9_curve (n + 100) pc ls st M = some res := am_go_ok h
theorem eX9_curve (x1 : Int32) (x2 : Int32) (x3 : Int32) (M : am_M) : fX9_curve [.inr (9, 0), .inl (.int x1), .inl (.int x2), .inl (.int x3)] M = rX9_curve 100000 0 [.inr (9, 0), .inl (.int x1), .inl (.int x2), .inl (.int x3), am_D] [] M := am_meth_eq rfl rfl
set_option maxRecDepth 20000 in
theorem gX9_curve_0 (k : Nat → List am_V → List am_V → am_M → am_R) (x1 : Int32) (x2 : Int32) (x3 : Int32) (M : am_M) : gX9_curve k 0 [.inr (9, 0), .inl (.int x1), .inl (.int x2), .inl (.int x3), am_D] [] M =
  am_ret [] 3 [] (k 6 [.inr (9, 0), .inl (.int x1), .inl (.int x2), .inl (.int x3), am_D]) (fX9_isWithin [.inl (.int x1), .inl (.int 0), .inl (.int 3)] M) := (rfl)
theorem eX9_curve_0 {n : Nat} {x1 : Int32} {x2 : Int32} {x3 : Int32} {M : am_M} {res : am_O × am_M} (h : (am_ret [] 3 [] (rX9_curve n 6 [.inr (9, 0), .inl (.int x1), .inl (.int x2), .inl (.int x3), am_D]) (fX9_isWithin [.inl (.int x1), .inl (.int 0), .inl (.int 3)] M)) = some res) : rX9_curve (n + 100) 0 [.inr (9, 0), .inl (.int x1), .inl (.int x2), .inl (.int x3), am_D] [] M = some res := uX9_curve ((gX9_curve_0 (rX9_curve n) x1 x2 x3 M).trans h)
set_option maxRecDepth 20000 in
theorem gX9_curve_6 (k : Nat → List am_V → List am_V → am_M → am_R) (x1 : Int32) (x2 : Int32) (x3 : Int32) (y0 : Int32) (M : am_M) : gX9_curve k 6 [.inr (9, 0), .inl (.int x1), .inl (.int x2), .inl (.int x3), am_D] [.inl (.int y0)] M =
  if y0 = 0 then
   am_ret [] 28 [] (k 31 [.inr (9, 0), .inl (.int x1), .inl (.int x2), .inl (.int x3), am_D]) (fX9_demandArgument [.inl (.int 0)] M)
  else am_ret [] 10 [] (k 13 [.inr (9, 0), .inl (.int x1), .inl (.int x2), .inl (.int x3), am_D]) (fX0_accepts [.inl (.int x2)] M) := (rfl)
theorem eX9_curve_6 {n : Nat} {x1 : Int32} {x2 : Int32} {x3 : Int32} {y0 : Int32} {M : am_M} {res : am_O × am_M} (h : (if y0 = 0 then
   am_ret [] 28 [] (rX9_curve n 31 [.inr (9, 0), .inl (.int x1), .inl (.int x2), .inl (.int x3), am_D]) (fX9_demandArgument [.inl (.int 0)] M)
  else am_ret [] 10 [] (rX9_curve n 13 [.inr (9, 0), .inl (.int x1), .inl (.int x2), .inl (.int x3), am_D]) (fX0_accepts [.inl (.int x2)] M)) = some res) : rX9_curve (n + 100) 6 [.inr (9, 0), .inl (.int x1), .inl (.int x2), .inl (.int x3), am_D] [.inl (.int y0)] M = some res := uX9_curve ((gX9_curve_6 (rX9_curve n) x1 x2 x3 y0 M).trans h)
set_option maxRecDepth 20000 in
theorem gX9_curve_31 (k : Nat → List am_V → List am_V → am_M → am_R) (x1 : Int32) (x2 : Int32) (x3 : Int32) (M : am_M) : gX9_curve k 31 [.inr (9, 0), .inl (.int x1), .inl (.int x2), .inl (.int x3), am_D] [] M =
  if am_in x1 4 then
   am_ret [] 41 [] (k 44 [.inr (9, 0), .inl (.int x1), .inl (.int x2), .inl (.int x3), .inr (6, (Int32.toNatClampNeg x1))]) (fX9_isOrdered [.inr (9, 0), .inl (.int x1)] M)
  else none := (rfl)
theorem eX9_curve_31 {n : Nat} {x1 : Int32} {x2 : Int32} {x3 : Int32} {M : am_M} {res : am_O × am_M} (h : (if am_in x1 4 then
   am_ret [] 41 [] (rX9_curve n 44 [.inr (9, 0), .inl (.int x1), .inl (.int x2), .inl (.int x3), .inr (6, (Int32.toNatClampNeg x1))]) (fX9_isOrdered [.inr (9, 0), .inl (.int x1)] M)
  else none) = some res) : rX9_curve (n + 100) 31 [.inr (9, 0), .inl (.int x1), .inl (.int x2), .inl (.int x3), am_D] [] M = some res := uX9_curve ((gX9_curve_31 (rX9_curve n) x1 x2 x3 M).trans h)
set_option maxRecDepth 20000 in
theorem gX9_curve_13 (k : Nat → List am_V → List am_V → am_M → am_R) (x1 : Int32) (x2 : Int32) (x3 : Int32) (y0 : Int32) (M : am_M) : gX9_curve k 13 [.inr (9, 0), .inl (.int x1), .inl (.int x2), .inl (.int x3), am_D] [.inl (.int y0)] M =
  if y0 = 0 then
   am_ret [] 28 [] (k 31 [.inr (9, 0), .inl (.int x1), .inl (.int x2), .inl (.int x3), am_D]) (fX9_demandArgument [.inl (.int 0)] M)
  else am_ret [] 17 [] (k 20 [.inr (9, 0), .inl (.int x1), .inl (.int x2), .inl (.int x3), am_D]) (fX0_accepts [.inl (.int x3)] M) := (rfl)
theorem eX9_curve_13 {n : Nat} {x1 : Int32} {x2 : Int32} {x3 : Int32} {y0 : Int32} {M : am_M} {res : am_O × am_M} (h : (if y0 = 0 then
   am_ret [] 28 [] (rX9_curve n 31 [.inr (9, 0), .inl (.int x1), .inl (.int x2), .inl (.int x3), am_D]) (fX9_demandArgument [.inl (.int 0)] M)
  else am_ret [] 17 [] (rX9_curve n 20 [.inr (9, 0), .inl (.int x1), .inl (.int x2), .inl (.int x3), am_D]) (fX0_accepts [.inl (.int x3)] M)) = some res) : rX9_curve (n + 100) 13 [.inr (9, 0), .inl (.int x1), .inl (.int x2), .inl (.int x3), am_D] [.inl (.int y0)] M = some res := uX9_curve ((gX9_curve_13 (rX9_curve n) x1 x2 x3 y0 M).trans h)
set_option maxRecDepth 20000 in
theorem gX9_curve_44 (k : Nat → List am_V → List am_V → am_M → am_R) (x1 : Int32) (x2 : Int32) (x3 : Int32) (x4 : Nat) (y0 : Int32) (M : am_M) : gX9_curve k 44 [.inr (9, 0), .inl (.int x1), .inl (.int x2), .inl (.int x3), .inr (6, x4)] [.inl (.int y0)] M =
  if y0 = 0 then
   am_ret [] 53 [] (k 56 [.inr (9, 0), .inl (.int x1), .inl (.int x2), .inl (.int x3), .inr (6, x4)]) (fX0_takes [.inr (0, x4), .inl (.int x2)] M)
  else am_ret [] 64 [] (k 67 [.inr (9, 0), .inl (.int x1), .inl (.int x2), .inl (.int x3), .inr (6, x4)]) (fX9_demandState [.inl (.int 0)] M) := (rfl)
theorem eX9_curve_44 {n : Nat} {x1 : Int32} {x2 : Int32} {x3 : Int32} {x4 : Nat} {y0 : Int32} {M : am_M} {res : am_O × am_M} (h : (if y0 = 0 then
   am_ret [] 53 [] (rX9_curve n 56 [.inr (9, 0), .inl (.int x1), .inl (.int x2), .inl (.int x3), .inr (6, x4)]) (fX0_takes [.inr (0, x4), .inl (.int x2)] M)
  else am_ret [] 64 [] (rX9_curve n 67 [.inr (9, 0), .inl (.int x1), .inl (.int x2), .inl (.int x3), .inr (6, x4)]) (fX9_demandState [.inl (.int 0)] M)) = some res) : rX9_curve (n + 100) 44 [.inr (9, 0), .inl (.int x1), .inl (.int x2), .inl (.int x3), .inr (6, x4)] [.inl (.int y0)] M = some res := uX9_curve ((gX9_curve_44 (rX9_curve n) x1 x2 x3 x4 y0 M).trans h)
set_option maxRecDepth 20000 in
theorem gX9_curve_20 (k : Nat → List am_V → List am_V → am_M → am_R) (x1 : Int32) (x2 : Int32) (x3 : Int32) (y0 : Int32) (M : am_M) : gX9_curve k 20 [.inr (9, 0), .inl (.int x1), .inl (.int x2), .inl (.int x3), am_D] [.inl (.int y0)] M =
  if y0 = 0 then
   am_ret [] 28 [] (k 31 [.inr (9, 0), .inl (.int x1), .inl (.int x2), .inl (.int x3), am_D]) (fX9_demandArgument [.inl (.int 0)] M)
  else am_ret [] 28 [] (k 31 [.inr (9, 0), .inl (.int x1), .inl (.int x2), .inl (.int x3), am_D]) (fX9_demandArgument [.inl (.int 1)] M) := (rfl)
theorem eX9_curve_20 {n : Nat} {x1 : Int32} {x2 : Int32} {x3 : Int32} {y0 : Int32} {M : am_M} {res : am_O × am_M} (h : (if y0 = 0 then
   am_ret [] 28 [] (rX9_curve n 31 [.inr (9, 0), .inl (.int x1), .inl (.int x2), .inl (.int x3), am_D]) (fX9_demandArgument [.inl (.int 0)] M)
  else am_ret [] 28 [] (rX9_curve n 31 [.inr (9, 0), .inl (.int x1), .inl (.int x2), .inl (.int x3), am_D]) (fX9_demandArgument [.inl (.int 1)] M)) = some res) : rX9_curve (n + 100) 20 [.inr (9, 0), .inl (.int x1), .inl (.int x2), .inl (.int x3), am_D] [.inl (.int y0)] M = some res := uX9_curve ((gX9_curve_20 (rX9_curve n) x1 x2 x3 y0 M).trans h)
set_option maxRecDepth 20000 in
theorem gX9_curve_56 (k : Nat → List am_V → List am_V → am_M → am_R) (x1 : Int32) (x2 : Int32) (x3 : Int32) (x4 : Nat) (y0 : Int32) (M : am_M) : gX9_curve k 56 [.inr (9, 0), .inl (.int x1), .inl (.int x2), .inl (.int x3), .inr (6, x4)] [.inl (.int y0)] M =
  if y0 = 0 then
   am_ret [] 64 [] (k 67 [.inr (9, 0), .inl (.int x1), .inl (.int x2), .inl (.int x3), .inr (6, x4)]) (fX9_demandState [.inl (.int 0)] M)
  else am_ret [] 64 [] (k 67 [.inr (9, 0), .inl (.int x1), .inl (.int x2), .inl (.int x3), .inr (6, x4)]) (fX9_demandState [.inl (.int 1)] M) := (rfl)
theorem eX9_curve_56 {n : Nat} {x1 : Int32} {x2 : Int32} {x3 : Int32} {x4 : Nat} {y0 : Int32} {M : am_M} {res : am_O × am_M} (h : (if y0 = 0 then
   am_ret [] 64 [] (rX9_curve n 67 [.inr (9, 0), .inl (.int x1), .inl (.int x2), .inl (.int x3), .inr (6, x4)]) (fX9_demandState [.inl (.int 0)] M)
  else am_ret [] 64 [] (rX9_curve n 67 [.inr (9, 0), .inl (.int x1), .inl (.int x2), .inl (.int x3), .inr (6, x4)]) (fX9_demandState [.inl (.int 1)] M)) = some res) : rX9_curve (n + 100) 56 [.inr (9, 0), .inl (.int x1), .inl (.int x2), .inl (.int x3), .inr (6, x4)] [.inl (.int y0)] M = some res := uX9_curve ((gX9_curve_56 (rX9_curve n) x1 x2 x3 x4 y0 M).trans h)
set_option maxRecDepth 20000 in
theorem gX9_curve_67 (k : Nat → List am_V → List am_V → am_M → am_R) (x1 : Int32) (x2 : Int32) (x3 : Int32) (x4 : Nat) (M : am_M) : gX9_curve k 67 [.inr (9, 0), .inl (.int x1), .inl (.int x2), .inl (.int x3), .inr (6, x4)] [] M =
  am_ret [] 74 [] (k 77 [.inr (9, 0), .inl (.int x1), .inl (.int x2), .inl (.int x3), .inr (6, x4)]) (fX0_add [.inr (0, x4), .inl (.int x2), .inl (.int x3)] M) := (rfl)
theorem eX9_curve_67 {n : Nat} {x1 : Int32} {x2 : Int32} {x3 : Int32} {x4 : Nat} {M : am_M} {res : am_O × am_M} (h : (am_ret [] 74 [] (rX9_curve n 77 [.inr (9, 0), .inl (.int x1), .inl (.int x2), .inl (.int x3), .inr (6, x4)]) (fX0_add [.inr (0, x4), .inl (.int x2), .inl (.int x3)] M)) = some res) : rX9_curve (n + 100) 67 [.inr (9, 0), .inl (.int x1), .inl (.int x2), .inl (.int x3), .inr (6, x4)] [] M = some res := uX9_curve ((gX9_curve_67 (rX9_curve n) x1 x2 x3 x4 M).trans h)
set_option maxRecDepth 20000 in
theorem gX9_curve_77 (k : Nat → List am_V → List am_V → am_M → am_R) (x1 : Int32) (x2 : Int32) (x3 : Int32) (x4 : Nat) (M : am_M) : gX9_curve k 77 [.inr (9, 0), .inl (.int x1), .inl (.int x2), .inl (.int x3), .inr (6, x4)] [] M =
  some (.inl (some (.inl (.int (M 0 x4 2)))), (am_put M 6 x4 3 0)) := (rfl)
theorem eX9_curve_77 {n : Nat} {x1 : Int32} {x2 : Int32} {x3 : Int32} {x4 : Nat} {M : am_M} {res : am_O × am_M} (h : (some (.inl (some (.inl (.int (M 0 x4 2)))), (am_put M 6 x4 3 0))) = some res) : rX9_curve (n + 100) 77 [.inr (9, 0), .inl (.int x1), .inl (.int x2), .inl (.int x3), .inr (6, x4)] [] M = some res := uX9_curve ((gX9_curve_77 (rX9_curve n) x1 x2 x3 x4 M).trans h)
