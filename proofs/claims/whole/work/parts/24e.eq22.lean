/-! ===== the runs, piece by piece ===== -/
def rL_law (L : Nat) (xs : Nat → Int32) (n pc : Nat) (ls st : List am_V) (M : am_M) : am_R := am_run csL [] 5 (L, xs) pL_law n pc ls st M
def gL_law (L : Nat) (xs : Nat → Int32) (k : Nat → List am_V → List am_V → am_M → am_R) (pc : Nat) (ls st : List am_V) (M : am_M) : am_R := am_go csL [] 5 (L, xs) pL_law [23, 132, 154, 178, 192, 215, 239, 272, 283, 295, 335, 363, 393, 407, 418, 430, 463, 491, 521, 535, 552, 570, 610, 641, 673, 706, 716, 728, 742, 752, 764, 778, 788, 800, 814, 818, 822, 827, 840, 857, 875, 908, 925, 943, 976, 993, 1011, 1044, 1061, 1079, 1112, 1123, 1135, 1168, 1179, 1191, 1224, 1235, 1247, 1280] k 100 pc ls st M
theorem uL_law {L : Nat} {xs : Nat → Int32} {n pc : Nat} {ls st : List am_V} {M : am_M} {res : am_O × am_M} (h : gL_law L xs (rL_law L xs n) pc ls st M = some res) : rL_law L xs (n + 100) pc ls st M = some res := am_go_ok h
set_option maxRecDepth 20000 in
theorem gL_law_20 (L : Nat) (xs : Nat → Int32) (k : Nat → List am_V → List am_V → am_M → am_R) (M : am_M) : gL_law L xs k 20 [.inr (29, 0), .inr (9, 0), .inr (10, 0), .inr (80, 0), am_D, am_D, am_D] [] M =
  k 23 [.inr (29, 0), .inr (9, 0), .inr (10, 0), .inr (80, 0), .inl (.int 0), am_D, am_D] [] M := (rfl)
theorem eL_law_20 {L : Nat} {xs : Nat → Int32} {n : Nat} {M : am_M} {res : am_O × am_M} (h : (rL_law L xs n 23 [.inr (29, 0), .inr (9, 0), .inr (10, 0), .inr (80, 0), .inl (.int 0), am_D, am_D] [] M) = some res) : rL_law L xs (n + 100) 20 [.inr (29, 0), .inr (9, 0), .inr (10, 0), .inr (80, 0), am_D, am_D, am_D] [] M = some res := uL_law ((gL_law_20 L xs (rL_law L xs n) M).trans h)
set_option maxRecDepth 20000 in
theorem gL_law_23 (L : Nat) (xs : Nat → Int32) (k : Nat → List am_V → List am_V → am_M → am_R) (x4 : Int32) (x5 : am_V) (x6 : am_V) (M : am_M) : gL_law L xs k 23 [.inr (29, 0), .inr (9, 0), .inr (10, 0), .inr (80, 0), .inl (.int x4), x5, x6] [] M =
  if ((Int32.ofNat L) - 5) < x4 then
   some (.inl (some (.inl (.int 1))), M)
  else if am_in x4 L then
   if ((xs (Int32.toNatClampNeg x4)) &&& 31) = 0 then
    k 132 [.inr (29, 0), .inr (9, 0), .inr (10, 0), .inr (80, 0), .inl (.int x4), x5, x6] [] M
   else if ((xs (Int32.toNatClampNeg x4)) &&& 31) = 1 then
    k 192 [.inr (29, 0), .inr (9, 0), .inr (10, 0), .inr (80, 0), .inl (.int x4), x5, x6] [] M
   else if ((xs (Int32.toNatClampNeg x4)) &&& 31) = 2 then
    k 272 [.inr (29, 0), .inr (9, 0), .inr (10, 0), .inr (80, 0), .inl (.int x4), x5, x6] [] M
   else if ((xs (Int32.toNatClampNeg x4)) &&& 31) = 3 then
    k 335 [.inr (29, 0), .inr (9, 0), .inr (10, 0), .inr (80, 0), .inl (.int x4), x5, x6] [] M
   else if ((xs (Int32.toNatClampNeg x4)) &&& 31) = 4 then
    k 407 [.inr (29, 0), .inr (9, 0), .inr (10, 0), .inr (80, 0), .inl (.int x4), x5, x6] [] M
   else if ((xs (Int32.toNatClampNeg x4)) &&& 31) = 5 then
    k 463 [.inr (29, 0), .inr (9, 0), .inr (10, 0), .inr (80, 0), .inl (.int x4), x5, x6] [] M
   else if ((xs (Int32.toNatClampNeg x4)) &&& 31) = 6 then
    k 535 [.inr (29, 0), .inr (9, 0), .inr (10, 0), .inr (80, 0), .inl (.int x4), x5, x6] [] M
   else if ((xs (Int32.toNatClampNeg x4)) &&& 31) = 7 then
    k 610 [.inr (29, 0), .inr (9, 0), .inr (10, 0), .inr (80, 0), .inl (.int x4), x5, x6] [] M
   else if ((xs (Int32.toNatClampNeg x4)) &&& 31) = 8 then
    k 706 [.inr (29, 0), .inr (9, 0), .inr (10, 0), .inr (80, 0), .inl (.int x4), x5, x6] [] M
   else if ((xs (Int32.toNatClampNeg x4)) &&& 31) = 9 then
    k 742 [.inr (29, 0), .inr (9, 0), .inr (10, 0), .inr (80, 0), .inl (.int x4), x5, x6] [] M
   else if ((xs (Int32.toNatClampNeg x4)) &&& 31) = 10 then
    k 778 [.inr (29, 0), .inr (9, 0), .inr (10, 0), .inr (80, 0), .inl (.int x4), x5, x6] [] M
   else if ((xs (Int32.toNatClampNeg x4)) &&& 31) = 11 then
    k 814 [.inr (29, 0), .inr (9, 0), .inr (10, 0), .inr (80, 0), .inl (.int x4), x5, x6] [] M
   else if ((xs (Int32.toNatClampNeg x4)) &&& 31) = 12 then
    k 827 [.inr (29, 0), .inr (9, 0), .inr (10, 0), .inr (80, 0), .inl (.int x4), x5, x6] [] M
   else if ((xs (Int32.toNatClampNeg x4)) &&& 31) = 13 then
    k 840 [.inr (29, 0), .inr (9, 0), .inr (10, 0), .inr (80, 0), .inl (.int x4), x5, x6] [] M
   else if ((xs (Int32.toNatClampNeg x4)) &&& 31) = 14 then
    k 908 [.inr (29, 0), .inr (9, 0), .inr (10, 0), .inr (80, 0), .inl (.int x4), x5, x6] [] M
   else if ((xs (Int32.toNatClampNeg x4)) &&& 31) = 15 then
    k 976 [.inr (29, 0), .inr (9, 0), .inr (10, 0), .inr (80, 0), .inl (.int x4), x5, x6] [] M
   else if ((xs (Int32.toNatClampNeg x4)) &&& 31) = 16 then
    k 1044 [.inr (29, 0), .inr (9, 0), .inr (10, 0), .inr (80, 0), .inl (.int x4), x5, x6] [] M
   else if ((xs (Int32.toNatClampNeg x4)) &&& 31) = 17 then
    k 1112 [.inr (29, 0), .inr (9, 0), .inr (10, 0), .inr (80, 0), .inl (.int x4), x5, x6] [] M
   else if ((xs (Int32.toNatClampNeg x4)) &&& 31) = 18 then
    k 1168 [.inr (29, 0), .inr (9, 0), .inr (10, 0), .inr (80, 0), .inl (.int x4), x5, x6] [] M
   else if ((xs (Int32.toNatClampNeg x4)) &&& 31) = 19 then
    k 1224 [.inr (29, 0), .inr (9, 0), .inr (10, 0), .inr (80, 0), .inl (.int x4), x5, x6] [] M
   else k 1280 [.inr (29, 0), .inr (9, 0), .inr (10, 0), .inr (80, 0), .inl (.int x4), x5, x6] [] M
  else none := (rfl)
theorem eL_law_23 {L : Nat} {xs : Nat → Int32} {n : Nat} {x4 : Int32} {x5 : am_V} {x6 : am_V} {M : am_M} {res : am_O × am_M} (h : (if ((Int32.ofNat L) - 5) < x4 then
   some (.inl (some (.inl (.int 1))), M)
  else if am_in x4 L then
   if ((xs (Int32.toNatClampNeg x4)) &&& 31) = 0 then
    rL_law L xs n 132 [.inr (29, 0), .inr (9, 0), .inr (10, 0), .inr (80, 0), .inl (.int x4), x5, x6] [] M
   else if ((xs (Int32.toNatClampNeg x4)) &&& 31) = 1 then
    rL_law L xs n 192 [.inr (29, 0), .inr (9, 0), .inr (10, 0), .inr (80, 0), .inl (.int x4), x5, x6] [] M
   else if ((xs (Int32.toNatClampNeg x4)) &&& 31) = 2 then
    rL_law L xs n 272 [.inr (29, 0), .inr (9, 0), .inr (10, 0), .inr (80, 0), .inl (.int x4), x5, x6] [] M
   else if ((xs (Int32.toNatClampNeg x4)) &&& 31) = 3 then
    rL_law L xs n 335 [.inr (29, 0), .inr (9, 0), .inr (10, 0), .inr (80, 0), .inl (.int x4), x5, x6] [] M
   else if ((xs (Int32.toNatClampNeg x4)) &&& 31) = 4 then
    rL_law L xs n 407 [.inr (29, 0), .inr (9, 0), .inr (10, 0), .inr (80, 0), .inl (.int x4), x5, x6] [] M
   else if ((xs (Int32.toNatClampNeg x4)) &&& 31) = 5 then
    rL_law L xs n 463 [.inr (29, 0), .inr (9, 0), .inr (10, 0), .inr (80, 0), .inl (.int x4), x5, x6] [] M
   else if ((xs (Int32.toNatClampNeg x4)) &&& 31) = 6 then
    rL_law L xs n 535 [.inr (29, 0), .inr (9, 0), .inr (10, 0), .inr (80, 0), .inl (.int x4), x5, x6] [] M
   else if ((xs (Int32.toNatClampNeg x4)) &&& 31) = 7 then
    rL_law L xs n 610 [.inr (29, 0), .inr (9, 0), .inr (10, 0), .inr (80, 0), .inl (.int x4), x5, x6] [] M
   else if ((xs (Int32.toNatClampNeg x4)) &&& 31) = 8 then
    rL_law L xs n 706 [.inr (29, 0), .inr (9, 0), .inr (10, 0), .inr (80, 0), .inl (.int x4), x5, x6] [] M
   else if ((xs (Int32.toNatClampNeg x4)) &&& 31) = 9 then
    rL_law L xs n 742 [.inr (29, 0), .inr (9, 0), .inr (10, 0), .inr (80, 0), .inl (.int x4), x5, x6] [] M
   else if ((xs (Int32.toNatClampNeg x4)) &&& 31) = 10 then
    rL_law L xs n 778 [.inr (29, 0), .inr (9, 0), .inr (10, 0), .inr (80, 0), .inl (.int x4), x5, x6] [] M
   else if ((xs (Int32.toNatClampNeg x4)) &&& 31) = 11 then
    rL_law L xs n 814 [.inr (29, 0), .inr (9, 0), .inr (10, 0), .inr (80, 0), .inl (.int x4), x5, x6] [] M
   else if ((xs (Int32.toNatClampNeg x4)) &&& 31) = 12 then
    rL_law L xs n 827 [.inr (29, 0), .inr (9, 0), .inr (10, 0), .inr (80, 0), .inl (.int x4), x5, x6] [] M
   else if ((xs (Int32.toNatClampNeg x4)) &&& 31) = 13 then
    rL_law L xs n 840 [.inr (29, 0), .inr (9, 0), .inr (10, 0), .inr (80, 0), .inl (.int x4), x5, x6] [] M
   else if ((xs (Int32.toNatClampNeg x4)) &&& 31) = 14 then
    rL_law L xs n 908 [.inr (29, 0), .inr (9, 0), .inr (10, 0), .inr (80, 0), .inl (.int x4), x5, x6] [] M
   else if ((xs (Int32.toNatClampNeg x4)) &&& 31) = 15 then
    rL_law L xs n 976 [.inr (29, 0), .inr (9, 0), .inr (10, 0), .inr (80, 0), .inl (.int x4), x5, x6] [] M
   else if ((xs (Int32.toNatClampNeg x4)) &&& 31) = 16 then
    rL_law L xs n 1044 [.inr (29, 0), .inr (9, 0), .inr (10, 0), .inr (80, 0), .inl (.int x4), x5, x6] [] M
   else if ((xs (Int32.toNatClampNeg x4)) &&& 31) = 17 then
    rL_law L xs n 1112 [.inr (29, 0), .inr (9, 0), .inr (10, 0), .inr (80, 0), .inl (.int x4), x5, x6] [] M
   else if ((xs (Int32.toNatClampNeg x4)) &&& 31) = 18 then
    rL_law L xs n 1168 [.inr (29, 0), .inr (9, 0), .inr (10, 0), .inr (80, 0), .inl (.int x4), x5, x6] [] M
   else if ((xs (Int32.toNatClampNeg x4)) &&& 31) = 19 then
    rL_law L xs n 1224 [.inr (29, 0), .inr (9, 0), .inr (10, 0), .inr (80, 0), .inl (.int x4), x5, x6] [] M
   else rL_law L xs n 1280 [.inr (29, 0), .inr (9, 0), .inr (10, 0), .inr (80, 0), .inl (.int x4), x5, x6] [] M
  else none) = some res) : rL_law L xs (n + 100) 23 [.inr (29, 0), .inr (9, 0), .inr (10, 0), .inr (80, 0), .inl (.int x4), x5, x6] [] M = some res := uL_law ((gL_law_23 L xs (rL_law L xs n) x4 x5 x6 M).trans h)
set_option maxRecDepth 20000 in
theorem gL_law_132 (L : Nat) (xs : Nat → Int32) (k : Nat → List am_V → List am_V → am_M → am_R) (x4 : Int32) (x5 : am_V) (x6 : am_V) (M : am_M) : gL_law L xs k 132 [.inr (29, 0), .inr (9, 0), .inr (10, 0), .inr (80, 0), .inl (.int x4), x5, x6] [] M =
  if am_in (x4 + 1) L then
   if am_in (x4 + 2) L then
    if am_in (x4 + 3) L then
     am_ret [] 151 [] (k 154 [.inr (29, 0), .inr (9, 0), .inr (10, 0), .inr (80, 0), .inl (.int x4), x5, x6]) (fL_define [.inr (9, 0), .inl (.int (xs (Int32.toNatClampNeg (x4 + 1)))), .inl (.int (xs (Int32.toNatClampNeg (x4 + 2)))), .inl (.int (xs (Int32.toNatClampNeg (x4 + 3))))] M)
    else none
   else none
  else none := (rfl)
theorem eL_law_132 {L : Nat} {xs : Nat → Int32} {n : Nat} {x4 : Int32} {x5 : am_V} {x6 : am_V} {M : am_M} {res : am_O × am_M} (h : (if am_in (x4 + 1) L then
   if am_in (x4 + 2) L then
    if am_in (x4 + 3) L then
     am_ret [] 151 [] (rL_law L xs n 154 [.inr (29, 0), .inr (9, 0), .inr (10, 0), .inr (80, 0), .inl (.int x4), x5, x6]) (fL_define [.inr (9, 0), .inl (.int (xs (Int32.toNatClampNeg (x4 + 1)))), .inl (.int (xs (Int32.toNatClampNeg (x4 + 2)))), .inl (.int (xs (Int32.toNatClampNeg (x4 + 3))))] M)
    else none
   else none
  else none) = some res) : rL_law L xs (n + 100) 132 [.inr (29, 0), .inr (9, 0), .inr (10, 0), .inr (80, 0), .inl (.int x4), x5, x6] [] M = some res := uL_law ((gL_law_132 L xs (rL_law L xs n) x4 x5 x6 M).trans h)
set_option maxRecDepth 20000 in
theorem gL_law_192 (L : Nat) (xs : Nat → Int32) (k : Nat → List am_V → List am_V → am_M → am_R) (x4 : Int32) (x5 : am_V) (x6 : am_V) (M : am_M) : gL_law L xs k 192 [.inr (29, 0), .inr (9, 0), .inr (10, 0), .inr (80, 0), .inl (.int x4), x5, x6] [] M =
  if am_in (x4 + 1) L then
   if am_in (x4 + 2) L then
    if am_in (x4 + 3) L then
     am_ret [] 212 [] (k 215 [.inr (29, 0), .inr (9, 0), .inr (10, 0), .inr (80, 0), .inl (.int x4), x5, x6]) (fL_curve [.inr (9, 0), .inl (.int (xs (Int32.toNatClampNeg (x4 + 1)))), .inl (.int (xs (Int32.toNatClampNeg (x4 + 2)))), .inl (.int (xs (Int32.toNatClampNeg (x4 + 3)))), .inr (80, 0)] M)
    else none
   else none
  else none := (rfl)
theorem eL_law_192 {L : Nat} {xs : Nat → Int32} {n : Nat} {x4 : Int32} {x5 : am_V} {x6 : am_V} {M : am_M} {res : am_O × am_M} (h : (if am_in (x4 + 1) L then
   if am_in (x4 + 2) L then
    if am_in (x4 + 3) L then
     am_ret [] 212 [] (rL_law L xs n 215 [.inr (29, 0), .inr (9, 0), .inr (10, 0), .inr (80, 0), .inl (.int x4), x5, x6]) (fL_curve [.inr (9, 0), .inl (.int (xs (Int32.toNatClampNeg (x4 + 1)))), .inl (.int (xs (Int32.toNatClampNeg (x4 + 2)))), .inl (.int (xs (Int32.toNatClampNeg (x4 + 3)))), .inr (80, 0)] M)
    else none
   else none
  else none) = some res) : rL_law L xs (n + 100) 192 [.inr (29, 0), .inr (9, 0), .inr (10, 0), .inr (80, 0), .inl (.int x4), x5, x6] [] M = some res := uL_law ((gL_law_192 L xs (rL_law L xs n) x4 x5 x6 M).trans h)
set_option maxRecDepth 20000 in
theorem gL_law_272 (L : Nat) (xs : Nat → Int32) (k : Nat → List am_V → List am_V → am_M → am_R) (x4 : Int32) (x5 : am_V) (x6 : am_V) (M : am_M) : gL_law L xs k 272 [.inr (29, 0), .inr (9, 0), .inr (10, 0), .inr (80, 0), .inl (.int x4), x5, x6] [] M =
  if am_in (x4 + 1) L then
   am_ret [] 280 [] (k 283 [.inr (29, 0), .inr (9, 0), .inr (10, 0), .inr (80, 0), .inl (.int x4), x5, x6]) (fL_seal [.inr (9, 0), .inl (.int (xs (Int32.toNatClampNeg (x4 + 1)))), .inr (80, 0)] M)
  else none := (rfl)
theorem eL_law_272 {L : Nat} {xs : Nat → Int32} {n : Nat} {x4 : Int32} {x5 : am_V} {x6 : am_V} {M : am_M} {res : am_O × am_M} (h : (if am_in (x4 + 1) L then
   am_ret [] 280 [] (rL_law L xs n 283 [.inr (29, 0), .inr (9, 0), .inr (10, 0), .inr (80, 0), .inl (.int x4), x5, x6]) (fL_seal [.inr (9, 0), .inl (.int (xs (Int32.toNatClampNeg (x4 + 1)))), .inr (80, 0)] M)
  else none) = some res) : rL_law L xs (n + 100) 272 [.inr (29, 0), .inr (9, 0), .inr (10, 0), .inr (80, 0), .inl (.int x4), x5, x6] [] M = some res := uL_law ((gL_law_272 L xs (rL_law L xs n) x4 x5 x6 M).trans h)
set_option maxRecDepth 20000 in
theorem gL_law_335 (L : Nat) (xs : Nat → Int32) (k : Nat → List am_V → List am_V → am_M → am_R) (x4 : Int32) (x5 : am_V) (x6 : am_V) (M : am_M) : gL_law L xs k 335 [.inr (29, 0), .inr (9, 0), .inr (10, 0), .inr (80, 0), .inl (.int x4), x5, x6] [] M =
  if am_in (x4 + 1) L then
   if am_in (x4 + 2) L then
    if am_in (x4 + 3) L then
     if am_in (x4 + 4) L then
      am_ret [] 360 [] (k 363 [.inr (29, 0), .inr (9, 0), .inr (10, 0), .inr (80, 0), .inl (.int x4), x5, x6]) (fL_rack [.inr (9, 0), .inl (.int (xs (Int32.toNatClampNeg (x4 + 1)))), .inl (.int (xs (Int32.toNatClampNeg (x4 + 2)))), .inl (.int (xs (Int32.toNatClampNeg (x4 + 3)))), .inl (.int (xs (Int32.toNatClampNeg (x4 + 4))))] M)
     else none
    else none
   else none
  else none := (rfl)
theorem eL_law_335 {L : Nat} {xs : Nat → Int32} {n : Nat} {x4 : Int32} {x5 : am_V} {x6 : am_V} {M : am_M} {res : am_O × am_M} (h : (if am_in (x4 + 1) L then
   if am_in (x4 + 2) L then
    if am_in (x4 + 3) L then
     if am_in (x4 + 4) L then
      am_ret [] 360 [] (rL_law L xs n 363 [.inr (29, 0), .inr (9, 0), .inr (10, 0), .inr (80, 0), .inl (.int x4), x5, x6]) (fL_rack [.inr (9, 0), .inl (.int (xs (Int32.toNatClampNeg (x4 + 1)))), .inl (.int (xs (Int32.toNatClampNeg (x4 + 2)))), .inl (.int (xs (Int32.toNatClampNeg (x4 + 3)))), .inl (.int (xs (Int32.toNatClampNeg (x4 + 4))))] M)
     else none
    else none
   else none
  else none) = some res) : rL_law L xs (n + 100) 335 [.inr (29, 0), .inr (9, 0), .inr (10, 0), .inr (80, 0), .inl (.int x4), x5, x6] [] M = some res := uL_law ((gL_law_335 L xs (rL_law L xs n) x4 x5 x6 M).trans h)
set_option maxRecDepth 20000 in
theorem gL_law_407 (L : Nat) (xs : Nat → Int32) (k : Nat → List am_V → List am_V → am_M → am_R) (x4 : Int32) (x5 : am_V) (x6 : am_V) (M : am_M) : gL_law L xs k 407 [.inr (29, 0), .inr (9, 0), .inr (10, 0), .inr (80, 0), .inl (.int x4), x5, x6] [] M =
  if am_in (x4 + 1) L then
   am_ret [] 415 [] (k 418 [.inr (29, 0), .inr (9, 0), .inr (10, 0), .inr (80, 0), .inl (.int x4), x5, x6]) (fL_removeRack [.inr (9, 0), .inl (.int (xs (Int32.toNatClampNeg (x4 + 1)))), .inr (80, 0)] M)
  else none := (rfl)
theorem eL_law_407 {L : Nat} {xs : Nat → Int32} {n : Nat} {x4 : Int32} {x5 : am_V} {x6 : am_V} {M : am_M} {res : am_O × am_M} (h : (if am_in (x4 + 1) L then
   am_ret [] 415 [] (rL_law L xs n 418 [.inr (29, 0), .inr (9, 0), .inr (10, 0), .inr (80, 0), .inl (.int x4), x5, x6]) (fL_removeRack [.inr (9, 0), .inl (.int (xs (Int32.toNatClampNeg (x4 + 1)))), .inr (80, 0)] M)
  else none) = some res) : rL_law L xs (n + 100) 407 [.inr (29, 0), .inr (9, 0), .inr (10, 0), .inr (80, 0), .inl (.int x4), x5, x6] [] M = some res := uL_law ((gL_law_407 L xs (rL_law L xs n) x4 x5 x6 M).trans h)
set_option maxRecDepth 20000 in
theorem gL_law_463 (L : Nat) (xs : Nat → Int32) (k : Nat → List am_V → List am_V → am_M → am_R) (x4 : Int32) (x5 : am_V) (x6 : am_V) (M : am_M) : gL_law L xs k 463 [.inr (29, 0), .inr (9, 0), .inr (10, 0), .inr (80, 0), .inl (.int x4), x5, x6] [] M =
  if am_in (x4 + 1) L then
   if am_in (x4 + 2) L then
    if am_in (x4 + 3) L then
     if am_in (x4 + 4) L then
      am_ret [] 488 [] (k 491 [.inr (29, 0), .inr (9, 0), .inr (10, 0), .inr (80, 0), .inl (.int x4), x5, x6]) (fL_reagent [.inr (9, 0), .inl (.int (xs (Int32.toNatClampNeg (x4 + 1)))), .inl (.int (xs (Int32.toNatClampNeg (x4 + 2)))), .inl (.int (xs (Int32.toNatClampNeg (x4 + 3)))), .inl (.int (xs (Int32.toNatClampNeg (x4 + 4))))] M)
     else none
    else none
   else none
  else none := (rfl)
theorem eL_law_463 {L : Nat} {xs : Nat → Int32} {n : Nat} {x4 : Int32} {x5 : am_V} {x6 : am_V} {M : am_M} {res : am_O × am_M} (h : (if am_in (x4 + 1) L then
   if am_in (x4 + 2) L then
    if am_in (x4 + 3) L then
     if am_in (x4 + 4) L then
      am_ret [] 488 [] (rL_law L xs n 491 [.inr (29, 0), .inr (9, 0), .inr (10, 0), .inr (80, 0), .inl (.int x4), x5, x6]) (fL_reagent [.inr (9, 0), .inl (.int (xs (Int32.toNatClampNeg (x4 + 1)))), .inl (.int (xs (Int32.toNatClampNeg (x4 + 2)))), .inl (.int (xs (Int32.toNatClampNeg (x4 + 3)))), .inl (.int (xs (Int32.toNatClampNeg (x4 + 4))))] M)
     else none
    else none
   else none
  else none) = some res) : rL_law L xs (n + 100) 463 [.inr (29, 0), .inr (9, 0), .inr (10, 0), .inr (80, 0), .inl (.int x4), x5, x6] [] M = some res := uL_law ((gL_law_463 L xs (rL_law L xs n) x4 x5 x6 M).trans h)
set_option maxRecDepth 20000 in
theorem gL_law_535 (L : Nat) (xs : Nat → Int32) (k : Nat → List am_V → List am_V → am_M → am_R) (x4 : Int32) (x5 : am_V) (x6 : am_V) (M : am_M) : gL_law L xs k 535 [.inr (29, 0), .inr (9, 0), .inr (10, 0), .inr (80, 0), .inl (.int x4), x5, x6] [] M =
  if am_in (x4 + 1) L then
   if am_in (x4 + 2) L then
    am_ret [] 549 [] (k 552 [.inr (29, 0), .inr (9, 0), .inr (10, 0), .inr (80, 0), .inl (.int x4), x5, x6]) (fL_forbid [.inr (9, 0), .inl (.int (xs (Int32.toNatClampNeg (x4 + 1)))), .inl (.int (xs (Int32.toNatClampNeg (x4 + 2)))), .inr (80, 0)] M)
   else none
  else none := (rfl)
theorem eL_law_535 {L : Nat} {xs : Nat → Int32} {n : Nat} {x4 : Int32} {x5 : am_V} {x6 : am_V} {M : am_M} {res : am_O × am_M} (h : (if am_in (x4 + 1) L then
   if am_in (x4 + 2) L then
    am_ret [] 549 [] (rL_law L xs n 552 [.inr (29, 0), .inr (9, 0), .inr (10, 0), .inr (80, 0), .inl (.int x4), x5, x6]) (fL_forbid [.inr (9, 0), .inl (.int (xs (Int32.toNatClampNeg (x4 + 1)))), .inl (.int (xs (Int32.toNatClampNeg (x4 + 2)))), .inr (80, 0)] M)
   else none
  else none) = some res) : rL_law L xs (n + 100) 535 [.inr (29, 0), .inr (9, 0), .inr (10, 0), .inr (80, 0), .inl (.int x4), x5, x6] [] M = some res := uL_law ((gL_law_535 L xs (rL_law L xs n) x4 x5 x6 M).trans h)
set_option maxRecDepth 20000 in
theorem gL_law_610 (L : Nat) (xs : Nat → Int32) (k : Nat → List am_V → List am_V → am_M → am_R) (x4 : Int32) (x5 : am_V) (x6 : am_V) (M : am_M) : gL_law L xs k 610 [.inr (29, 0), .inr (9, 0), .inr (10, 0), .inr (80, 0), .inl (.int x4), x5, x6] [] M =
  if am_in (x4 + 1) L then
   if am_in (x4 + 2) L then
    if am_in (x4 + 3) L then
     if (xs (Int32.toNatClampNeg (x4 + 3))) = 0 then
      am_ret [] 638 [] (k 641 [.inr (29, 0), .inr (9, 0), .inr (10, 0), .inr (80, 0), .inl (.int x4), x5, x6]) (fL_order [.inr (9, 0), .inl (.int (xs (Int32.toNatClampNeg (x4 + 1)))), .inl (.int (xs (Int32.toNatClampNeg (x4 + 2)))), .inl (.int 0), .inr (80, 0)] M)
     else am_ret [] 638 [] (k 641 [.inr (29, 0), .inr (9, 0), .inr (10, 0), .inr (80, 0), .inl (.int x4), x5, x6]) (fL_order [.inr (9, 0), .inl (.int (xs (Int32.toNatClampNeg (x4 + 1)))), .inl (.int (xs (Int32.toNatClampNeg (x4 + 2)))), .inl (.int 1), .inr (80, 0)] M)
    else none
   else none
  else none := (rfl)
theorem eL_law_610 {L : Nat} {xs : Nat → Int32} {n : Nat} {x4 : Int32} {x5 : am_V} {x6 : am_V} {M : am_M} {res : am_O × am_M} (h : (if am_in (x4 + 1) L then
   if am_in (x4 + 2) L then
    if am_in (x4 + 3) L then
     if (xs (Int32.toNatClampNeg (x4 + 3))) = 0 then
      am_ret [] 638 [] (rL_law L xs n 641 [.inr (29, 0), .inr (9, 0), .inr (10, 0), .inr (80, 0), .inl (.int x4), x5, x6]) (fL_order [.inr (9, 0), .inl (.int (xs (Int32.toNatClampNeg (x4 + 1)))), .inl (.int (xs (Int32.toNatClampNeg (x4 + 2)))), .inl (.int 0), .inr (80, 0)] M)
     else am_ret [] 638 [] (rL_law L xs n 641 [.inr (29, 0), .inr (9, 0), .inr (10, 0), .inr (80, 0), .inl (.int x4), x5, x6]) (fL_order [.inr (9, 0), .inl (.int (xs (Int32.toNatClampNeg (x4 + 1)))), .inl (.int (xs (Int32.toNatClampNeg (x4 + 2)))), .inl (.int 1), .inr (80, 0)] M)
    else none
   else none
  else none) = some res) : rL_law L xs (n + 100) 610 [.inr (29, 0), .inr (9, 0), .inr (10, 0), .inr (80, 0), .inl (.int x4), x5, x6] [] M = some res := uL_law ((gL_law_610 L xs (rL_law L xs n) x4 x5 x6 M).trans h)
set_option maxRecDepth 20000 in
theorem gL_law_706 (L : Nat) (xs : Nat → Int32) (k : Nat → List am_V → List am_V → am_M → am_R) (x4 : Int32) (x5 : am_V) (x6 : am_V) (M : am_M) : gL_law L xs k 706 [.inr (29, 0), .inr (9, 0), .inr (10, 0), .inr (80, 0), .inl (.int x4), x5, x6] [] M =
  if am_in (x4 + 1) L then
   am_ret [] 713 [] (k 716 [.inr (29, 0), .inr (9, 0), .inr (10, 0), .inr (80, 0), .inl (.int x4), x5, x6]) (fL_clock [.inr (9, 0), .inl (.int (xs (Int32.toNatClampNeg (x4 + 1))))] M)
  else none := (rfl)
theorem eL_law_706 {L : Nat} {xs : Nat → Int32} {n : Nat} {x4 : Int32} {x5 : am_V} {x6 : am_V} {M : am_M} {res : am_O × am_M} (h : (if am_in (x4 + 1) L then
   am_ret [] 713 [] (rL_law L xs n 716 [.inr (29, 0), .inr (9, 0), .inr (10, 0), .inr (80, 0), .inl (.int x4), x5, x6]) (fL_clock [.inr (9, 0), .inl (.int (xs (Int32.toNatClampNeg (x4 + 1))))] M)
  else none) = some res) : rL_law L xs (n + 100) 706 [.inr (29, 0), .inr (9, 0), .inr (10, 0), .inr (80, 0), .inl (.int x4), x5, x6] [] M = some res := uL_law ((gL_law_706 L xs (rL_law L xs n) x4 x5 x6 M).trans h)
set_option maxRecDepth 20000 in
theorem gL_law_742 (L : Nat) (xs : Nat → Int32) (k : Nat → List am_V → List am_V → am_M → am_R) (x4 : Int32) (x5 : am_V) (x6 : am_V) (M : am_M) : gL_law L xs k 742 [.inr (29, 0), .inr (9, 0), .inr (10, 0), .inr (80, 0), .inl (.int x4), x5, x6] [] M =
  if am_in (x4 + 1) L then
   am_ret [] 749 [] (k 752 [.inr (29, 0), .inr (9, 0), .inr (10, 0), .inr (80, 0), .inl (.int x4), x5, x6]) (fL_light [.inr (9, 0), .inl (.int (xs (Int32.toNatClampNeg (x4 + 1))))] M)
  else none := (rfl)
theorem eL_law_742 {L : Nat} {xs : Nat → Int32} {n : Nat} {x4 : Int32} {x5 : am_V} {x6 : am_V} {M : am_M} {res : am_O × am_M} (h : (if am_in (x4 + 1) L then
   am_ret [] 749 [] (rL_law L xs n 752 [.inr (29, 0), .inr (9, 0), .inr (10, 0), .inr (80, 0), .inl (.int x4), x5, x6]) (fL_light [.inr (9, 0), .inl (.int (xs (Int32.toNatClampNeg (x4 + 1))))] M)
  else none) = some res) : rL_law L xs (n + 100) 742 [.inr (29, 0), .inr (9, 0), .inr (10, 0), .inr (80, 0), .inl (.int x4), x5, x6] [] M = some res := uL_law ((gL_law_742 L xs (rL_law L xs n) x4 x5 x6 M).trans h)
set_option maxRecDepth 20000 in
theorem gL_law_778 (L : Nat) (xs : Nat → Int32) (k : Nat → List am_V → List am_V → am_M → am_R) (x4 : Int32) (x5 : am_V) (x6 : am_V) (M : am_M) : gL_law L xs k 778 [.inr (29, 0), .inr (9, 0), .inr (10, 0), .inr (80, 0), .inl (.int x4), x5, x6] [] M =
  if am_in (x4 + 1) L then
   am_ret [] 785 [] (k 788 [.inr (29, 0), .inr (9, 0), .inr (10, 0), .inr (80, 0), .inl (.int x4), x5, x6]) (fL_spoil [.inr (9, 0), .inl (.int (xs (Int32.toNatClampNeg (x4 + 1))))] M)
  else none := (rfl)
theorem eL_law_778 {L : Nat} {xs : Nat → Int32} {n : Nat} {x4 : Int32} {x5 : am_V} {x6 : am_V} {M : am_M} {res : am_O × am_M} (h : (if am_in (x4 + 1) L then
   am_ret [] 785 [] (rL_law L xs n 788 [.inr (29, 0), .inr (9, 0), .inr (10, 0), .inr (80, 0), .inl (.int x4), x5, x6]) (fL_spoil [.inr (9, 0), .inl (.int (xs (Int32.toNatClampNeg (x4 + 1))))] M)
  else none) = some res) : rL_law L xs (n + 100) 778 [.inr (29, 0), .inr (9, 0), .inr (10, 0), .inr (80, 0), .inl (.int x4), x5, x6] [] M = some res := uL_law ((gL_law_778 L xs (rL_law L xs n) x4 x5 x6 M).trans h)
set_option maxRecDepth 20000 in
theorem gL_law_814 (L : Nat) (xs : Nat → Int32) (k : Nat → List am_V → List am_V → am_M → am_R) (x4 : Int32) (x5 : am_V) (x6 : am_V) (M : am_M) : gL_law L xs k 814 [.inr (29, 0), .inr (9, 0), .inr (10, 0), .inr (80, 0), .inl (.int x4), x5, x6] [] M =
  am_ret [] 815 [] (k 818 [.inr (29, 0), .inr (9, 0), .inr (10, 0), .inr (80, 0), .inl (.int x4), x5, x6]) (fX9_step [.inr (9, 0)] M) := (rfl)
theorem eL_law_814 {L : Nat} {xs : Nat → Int32} {n : Nat} {x4 : Int32} {x5 : am_V} {x6 : am_V} {M : am_M} {res : am_O × am_M} (h : (am_ret [] 815 [] (rL_law L xs n 818 [.inr (29, 0), .inr (9, 0), .inr (10, 0), .inr (80, 0), .inl (.int x4), x5, x6]) (fX9_step [.inr (9, 0)] M)) = some res) : rL_law L xs (n + 100) 814 [.inr (29, 0), .inr (9, 0), .inr (10, 0), .inr (80, 0), .inl (.int x4), x5, x6] [] M = some res := uL_law ((gL_law_814 L xs (rL_law L xs n) x4 x5 x6 M).trans h)
set_option maxRecDepth 20000 in
theorem gL_law_827 (L : Nat) (xs : Nat → Int32) (k : Nat → List am_V → List am_V → am_M → am_R) (x4 : Int32) (x5 : am_V) (x6 : am_V) (M : am_M) : gL_law L xs k 827 [.inr (29, 0), .inr (9, 0), .inr (10, 0), .inr (80, 0), .inl (.int x4), x5, x6] [] M =
  if (M 9 0 12) = (M 10 0 43) then
   k 1280 [.inr (29, 0), .inr (9, 0), .inr (10, 0), .inr (80, 0), .inl (.int x4), x5, x6] [] (am_put M 10 0 45 0)
  else some (.inl (some (.inl (.int 0))), (am_put M 10 0 45 0)) := (rfl)
theorem eL_law_827 {L : Nat} {xs : Nat → Int32} {n : Nat} {x4 : Int32} {x5 : am_V} {x6 : am_V} {M : am_M} {res : am_O × am_M} (h : (if (M 9 0 12) = (M 10 0 43) then
   rL_law L xs n 1280 [.inr (29, 0), .inr (9, 0), .inr (10, 0), .inr (80, 0), .inl (.int x4), x5, x6] [] (am_put M 10 0 45 0)
  else some (.inl (some (.inl (.int 0))), (am_put M 10 0 45 0))) = some res) : rL_law L xs (n + 100) 827 [.inr (29, 0), .inr (9, 0), .inr (10, 0), .inr (80, 0), .inl (.int x4), x5, x6] [] M = some res := uL_law ((gL_law_827 L xs (rL_law L xs n) x4 x5 x6 M).trans h)
set_option maxRecDepth 20000 in
theorem gL_law_840 (L : Nat) (xs : Nat → Int32) (k : Nat → List am_V → List am_V → am_M → am_R) (x4 : Int32) (x5 : am_V) (x6 : am_V) (M : am_M) : gL_law L xs k 840 [.inr (29, 0), .inr (9, 0), .inr (10, 0), .inr (80, 0), .inl (.int x4), x5, x6] [] M =
  if am_in (x4 + 1) L then
   if am_in (x4 + 2) L then
    am_ret [] 854 [] (k 857 [.inr (29, 0), .inr (9, 0), .inr (10, 0), .inr (80, 0), .inl (.int x4), x5, x6]) (fL_state [.inr (9, 0), .inl (.int (xs (Int32.toNatClampNeg (x4 + 1)))), .inl (.int (xs (Int32.toNatClampNeg (x4 + 2)))), .inr (80, 0)] M)
   else none
  else none := (rfl)
theorem eL_law_840 {L : Nat} {xs : Nat → Int32} {n : Nat} {x4 : Int32} {x5 : am_V} {x6 : am_V} {M : am_M} {res : am_O × am_M} (h : (if am_in (x4 + 1) L then
   if am_in (x4 + 2) L then
    am_ret [] 854 [] (rL_law L xs n 857 [.inr (29, 0), .inr (9, 0), .inr (10, 0), .inr (80, 0), .inl (.int x4), x5, x6]) (fL_state [.inr (9, 0), .inl (.int (xs (Int32.toNatClampNeg (x4 + 1)))), .inl (.int (xs (Int32.toNatClampNeg (x4 + 2)))), .inr (80, 0)] M)
   else none
  else none) = some res) : rL_law L xs (n + 100) 840 [.inr (29, 0), .inr (9, 0), .inr (10, 0), .inr (80, 0), .inl (.int x4), x5, x6] [] M = some res := uL_law ((gL_law_840 L xs (rL_law L xs n) x4 x5 x6 M).trans h)
set_option maxRecDepth 20000 in
theorem gL_law_908 (L : Nat) (xs : Nat → Int32) (k : Nat → List am_V → List am_V → am_M → am_R) (x4 : Int32) (x5 : am_V) (x6 : am_V) (M : am_M) : gL_law L xs k 908 [.inr (29, 0), .inr (9, 0), .inr (10, 0), .inr (80, 0), .inl (.int x4), x5, x6] [] M =
  if am_in (x4 + 1) L then
   if am_in (x4 + 2) L then
    am_ret [] 922 [] (k 925 [.inr (29, 0), .inr (9, 0), .inr (10, 0), .inr (80, 0), .inl (.int x4), x5, x6]) (fL_cuvette [.inr (9, 0), .inl (.int (xs (Int32.toNatClampNeg (x4 + 1)))), .inl (.int (xs (Int32.toNatClampNeg (x4 + 2)))), .inr (80, 0)] M)
   else none
  else none := (rfl)
theorem eL_law_908 {L : Nat} {xs : Nat → Int32} {n : Nat} {x4 : Int32} {x5 : am_V} {x6 : am_V} {M : am_M} {res : am_O × am_M} (h : (if am_in (x4 + 1) L then
   if am_in (x4 + 2) L then
    am_ret [] 922 [] (rL_law L xs n 925 [.inr (29, 0), .inr (9, 0), .inr (10, 0), .inr (80, 0), .inl (.int x4), x5, x6]) (fL_cuvette [.inr (9, 0), .inl (.int (xs (Int32.toNatClampNeg (x4 + 1)))), .inl (.int (xs (Int32.toNatClampNeg (x4 + 2)))), .inr (80, 0)] M)
   else none
  else none) = some res) : rL_law L xs (n + 100) 908 [.inr (29, 0), .inr (9, 0), .inr (10, 0), .inr (80, 0), .inl (.int x4), x5, x6] [] M = some res := uL_law ((gL_law_908 L xs (rL_law L xs n) x4 x5 x6 M).trans h)
set_option maxRecDepth 20000 in
theorem gL_law_976 (L : Nat) (xs : Nat → Int32) (k : Nat → List am_V → List am_V → am_M → am_R) (x4 : Int32) (x5 : am_V) (x6 : am_V) (M : am_M) : gL_law L xs k 976 [.inr (29, 0), .inr (9, 0), .inr (10, 0), .inr (80, 0), .inl (.int x4), x5, x6] [] M =
  if am_in (x4 + 1) L then
   if am_in (x4 + 2) L then
    am_ret [] 990 [] (k 993 [.inr (29, 0), .inr (9, 0), .inr (10, 0), .inr (80, 0), .inl (.int x4), x5, x6]) (fL_volume [.inr (9, 0), .inl (.int (xs (Int32.toNatClampNeg (x4 + 1)))), .inl (.int (xs (Int32.toNatClampNeg (x4 + 2)))), .inr (80, 0)] M)
   else none
  else none := (rfl)
theorem eL_law_976 {L : Nat} {xs : Nat → Int32} {n : Nat} {x4 : Int32} {x5 : am_V} {x6 : am_V} {M : am_M} {res : am_O × am_M} (h : (if am_in (x4 + 1) L then
   if am_in (x4 + 2) L then
    am_ret [] 990 [] (rL_law L xs n 993 [.inr (29, 0), .inr (9, 0), .inr (10, 0), .inr (80, 0), .inl (.int x4), x5, x6]) (fL_volume [.inr (9, 0), .inl (.int (xs (Int32.toNatClampNeg (x4 + 1)))), .inl (.int (xs (Int32.toNatClampNeg (x4 + 2)))), .inr (80, 0)] M)
   else none
  else none) = some res) : rL_law L xs (n + 100) 976 [.inr (29, 0), .inr (9, 0), .inr (10, 0), .inr (80, 0), .inl (.int x4), x5, x6] [] M = some res := uL_law ((gL_law_976 L xs (rL_law L xs n) x4 x5 x6 M).trans h)
set_option maxRecDepth 20000 in
theorem gL_law_1044 (L : Nat) (xs : Nat → Int32) (k : Nat → List am_V → List am_V → am_M → am_R) (x4 : Int32) (x5 : am_V) (x6 : am_V) (M : am_M) : gL_law L xs k 1044 [.inr (29, 0), .inr (9, 0), .inr (10, 0), .inr (80, 0), .inl (.int x4), x5, x6] [] M =
  if am_in (x4 + 1) L then
   if am_in (x4 + 2) L then
    am_ret [] 1058 [] (k 1061 [.inr (29, 0), .inr (9, 0), .inr (10, 0), .inr (80, 0), .inl (.int x4), x5, x6]) (fL_trend [.inr (9, 0), .inl (.int (xs (Int32.toNatClampNeg (x4 + 1)))), .inl (.int (xs (Int32.toNatClampNeg (x4 + 2)))), .inr (80, 0)] M)
   else none
  else none := (rfl)
theorem eL_law_1044 {L : Nat} {xs : Nat → Int32} {n : Nat} {x4 : Int32} {x5 : am_V} {x6 : am_V} {M : am_M} {res : am_O × am_M} (h : (if am_in (x4 + 1) L then
   if am_in (x4 + 2) L then
    am_ret [] 1058 [] (rL_law L xs n 1061 [.inr (29, 0), .inr (9, 0), .inr (10, 0), .inr (80, 0), .inl (.int x4), x5, x6]) (fL_trend [.inr (9, 0), .inl (.int (xs (Int32.toNatClampNeg (x4 + 1)))), .inl (.int (xs (Int32.toNatClampNeg (x4 + 2)))), .inr (80, 0)] M)
   else none
  else none) = some res) : rL_law L xs (n + 100) 1044 [.inr (29, 0), .inr (9, 0), .inr (10, 0), .inr (80, 0), .inl (.int x4), x5, x6] [] M = some res := uL_law ((gL_law_1044 L xs (rL_law L xs n) x4 x5 x6 M).trans h)
set_option maxRecDepth 20000 in
theorem gL_law_1112 (L : Nat) (xs : Nat → Int32) (k : Nat → List am_V → List am_V → am_M → am_R) (x4 : Int32) (x5 : am_V) (x6 : am_V) (M : am_M) : gL_law L xs k 1112 [.inr (29, 0), .inr (9, 0), .inr (10, 0), .inr (80, 0), .inl (.int x4), x5, x6] [] M =
  if am_in (x4 + 1) L then
   am_ret [] 1120 [] (k 1123 [.inr (29, 0), .inr (9, 0), .inr (10, 0), .inr (80, 0), .inl (.int x4), x5, x6]) (fL_rules [.inr (9, 0), .inl (.int (xs (Int32.toNatClampNeg (x4 + 1)))), .inr (80, 0)] M)
  else none := (rfl)
theorem eL_law_1112 {L : Nat} {xs : Nat → Int32} {n : Nat} {x4 : Int32} {x5 : am_V} {x6 : am_V} {M : am_M} {res : am_O × am_M} (h : (if am_in (x4 + 1) L then
   am_ret [] 1120 [] (rL_law L xs n 1123 [.inr (29, 0), .inr (9, 0), .inr (10, 0), .inr (80, 0), .inl (.int x4), x5, x6]) (fL_rules [.inr (9, 0), .inl (.int (xs (Int32.toNatClampNeg (x4 + 1)))), .inr (80, 0)] M)
  else none) = some res) : rL_law L xs (n + 100) 1112 [.inr (29, 0), .inr (9, 0), .inr (10, 0), .inr (80, 0), .inl (.int x4), x5, x6] [] M = some res := uL_law ((gL_law_1112 L xs (rL_law L xs n) x4 x5 x6 M).trans h)
set_option maxRecDepth 20000 in
theorem gL_law_1168 (L : Nat) (xs : Nat → Int32) (k : Nat → List am_V → List am_V → am_M → am_R) (x4 : Int32) (x5 : am_V) (x6 : am_V) (M : am_M) : gL_law L xs k 1168 [.inr (29, 0), .inr (9, 0), .inr (10, 0), .inr (80, 0), .inl (.int x4), x5, x6] [] M =
  if am_in (x4 + 1) L then
   am_ret [] 1176 [] (k 1179 [.inr (29, 0), .inr (9, 0), .inr (10, 0), .inr (80, 0), .inl (.int x4), x5, x6]) (fL_host [.inr (9, 0), .inl (.int (xs (Int32.toNatClampNeg (x4 + 1)))), .inr (80, 0)] M)
  else none := (rfl)
theorem eL_law_1168 {L : Nat} {xs : Nat → Int32} {n : Nat} {x4 : Int32} {x5 : am_V} {x6 : am_V} {M : am_M} {res : am_O × am_M} (h : (if am_in (x4 + 1) L then
   am_ret [] 1176 [] (rL_law L xs n 1179 [.inr (29, 0), .inr (9, 0), .inr (10, 0), .inr (80, 0), .inl (.int x4), x5, x6]) (fL_host [.inr (9, 0), .inl (.int (xs (Int32.toNatClampNeg (x4 + 1)))), .inr (80, 0)] M)
  else none) = some res) : rL_law L xs (n + 100) 1168 [.inr (29, 0), .inr (9, 0), .inr (10, 0), .inr (80, 0), .inl (.int x4), x5, x6] [] M = some res := uL_law ((gL_law_1168 L xs (rL_law L xs n) x4 x5 x6 M).trans h)
set_option maxRecDepth 20000 in
theorem gL_law_1224 (L : Nat) (xs : Nat → Int32) (k : Nat → List am_V → List am_V → am_M → am_R) (x4 : Int32) (x5 : am_V) (x6 : am_V) (M : am_M) : gL_law L xs k 1224 [.inr (29, 0), .inr (9, 0), .inr (10, 0), .inr (80, 0), .inl (.int x4), x5, x6] [] M =
  if am_in (x4 + 1) L then
   am_ret [] 1232 [] (k 1235 [.inr (29, 0), .inr (9, 0), .inr (10, 0), .inr (80, 0), .inl (.int x4), x5, x6]) (fL_took [.inr (9, 0), .inl (.int (xs (Int32.toNatClampNeg (x4 + 1)))), .inr (80, 0)] M)
  else none := (rfl)
theorem eL_law_1224 {L : Nat} {xs : Nat → Int32} {n : Nat} {x4 : Int32} {x5 : am_V} {x6 : am_V} {M : am_M} {res : am_O × am_M} (h : (if am_in (x4 + 1) L then
   am_ret [] 1232 [] (rL_law L xs n 1235 [.inr (29, 0), .inr (9, 0), .inr (10, 0), .inr (80, 0), .inl (.int x4), x5, x6]) (fL_took [.inr (9, 0), .inl (.int (xs (Int32.toNatClampNeg (x4 + 1)))), .inr (80, 0)] M)
  else none) = some res) : rL_law L xs (n + 100) 1224 [.inr (29, 0), .inr (9, 0), .inr (10, 0), .inr (80, 0), .inl (.int x4), x5, x6] [] M = some res := uL_law ((gL_law_1224 L xs (rL_law L xs n) x4 x5 x6 M).trans h)
set_option maxRecDepth 20000 in
theorem gL_law_1280 (L : Nat) (xs : Nat → Int32) (k : Nat → List am_V → List am_V → am_M → am_R) (x4 : Int32) (x5 : am_V) (x6 : am_V) (M : am_M) : gL_law L xs k 1280 [.inr (29, 0), .inr (9, 0), .inr (10, 0), .inr (80, 0), .inl (.int x4), x5, x6] [] M =
  k 23 [.inr (29, 0), .inr (9, 0), .inr (10, 0), .inr (80, 0), .inl (.int (x4 + 5)), x5, x6] [] M := (rfl)
theorem eL_law_1280 {L : Nat} {xs : Nat → Int32} {n : Nat} {x4 : Int32} {x5 : am_V} {x6 : am_V} {M : am_M} {res : am_O × am_M} (h : (rL_law L xs n 23 [.inr (29, 0), .inr (9, 0), .inr (10, 0), .inr (80, 0), .inl (.int (x4 + 5)), x5, x6] [] M) = some res) : rL_law L xs (n + 100) 1280 [.inr (29, 0), .inr (9, 0), .inr (10, 0), .inr (80, 0), .inl (.int x4), x5, x6] [] M = some res := uL_law ((gL_law_1280 L xs (rL_law L xs n) x4 x5 x6 M).trans h)
set_option maxRecDepth 20000 in
theorem gL_law_154 (L : Nat) (xs : Nat → Int32) (k : Nat → List am_V → List am_V → am_M → am_R) (x4 : Int32) (x5 : am_V) (x6 : am_V) (y0 : Int32) (M : am_M) : gL_law L xs k 154 [.inr (29, 0), .inr (9, 0), .inr (10, 0), .inr (80, 0), .inl (.int x4), x5, x6] [.inl (.int y0)] M =
  if am_in (x4 + 1) L then
   if am_in (x4 + 2) L then
    if am_in (x4 + 3) L then
     am_ret [] 175 [] (k 178 [.inr (29, 0), .inr (9, 0), .inr (10, 0), .inr (80, 0), .inl (.int x4), .inl (.int y0), x6]) (fX10_define [.inr (10, 0), .inl (.int (xs (Int32.toNatClampNeg (x4 + 1)))), .inl (.int (xs (Int32.toNatClampNeg (x4 + 2)))), .inl (.int (xs (Int32.toNatClampNeg (x4 + 3))))] M)
    else none
   else none
  else none := (rfl)
theorem eL_law_154 {L : Nat} {xs : Nat → Int32} {n : Nat} {x4 : Int32} {x5 : am_V} {x6 : am_V} {y0 : Int32} {M : am_M} {res : am_O × am_M} (h : (if am_in (x4 + 1) L then
   if am_in (x4 + 2) L then
    if am_in (x4 + 3) L then
     am_ret [] 175 [] (rL_law L xs n 178 [.inr (29, 0), .inr (9, 0), .inr (10, 0), .inr (80, 0), .inl (.int x4), .inl (.int y0), x6]) (fX10_define [.inr (10, 0), .inl (.int (xs (Int32.toNatClampNeg (x4 + 1)))), .inl (.int (xs (Int32.toNatClampNeg (x4 + 2)))), .inl (.int (xs (Int32.toNatClampNeg (x4 + 3))))] M)
    else none
   else none
  else none) = some res) : rL_law L xs (n + 100) 154 [.inr (29, 0), .inr (9, 0), .inr (10, 0), .inr (80, 0), .inl (.int x4), x5, x6] [.inl (.int y0)] M = some res := uL_law ((gL_law_154 L xs (rL_law L xs n) x4 x5 x6 y0 M).trans h)
set_option maxRecDepth 20000 in
theorem gL_law_215 (L : Nat) (xs : Nat → Int32) (k : Nat → List am_V → List am_V → am_M → am_R) (x4 : Int32) (x5 : am_V) (x6 : am_V) (y0 : Int32) (M : am_M) : gL_law L xs k 215 [.inr (29, 0), .inr (9, 0), .inr (10, 0), .inr (80, 0), .inl (.int x4), x5, x6] [.inl (.int y0)] M =
  if am_in (x4 + 1) L then
   if am_in (x4 + 2) L then
    if am_in (x4 + 3) L then
     am_ret [] 236 [] (k 239 [.inr (29, 0), .inr (9, 0), .inr (10, 0), .inr (80, 0), .inl (.int x4), .inl (.int y0), x6]) (fX10_curve [.inr (10, 0), .inl (.int (xs (Int32.toNatClampNeg (x4 + 1)))), .inl (.int (xs (Int32.toNatClampNeg (x4 + 2)))), .inl (.int (xs (Int32.toNatClampNeg (x4 + 3))))] M)
    else none
   else none
  else none := (rfl)
theorem eL_law_215 {L : Nat} {xs : Nat → Int32} {n : Nat} {x4 : Int32} {x5 : am_V} {x6 : am_V} {y0 : Int32} {M : am_M} {res : am_O × am_M} (h : (if am_in (x4 + 1) L then
   if am_in (x4 + 2) L then
    if am_in (x4 + 3) L then
     am_ret [] 236 [] (rL_law L xs n 239 [.inr (29, 0), .inr (9, 0), .inr (10, 0), .inr (80, 0), .inl (.int x4), .inl (.int y0), x6]) (fX10_curve [.inr (10, 0), .inl (.int (xs (Int32.toNatClampNeg (x4 + 1)))), .inl (.int (xs (Int32.toNatClampNeg (x4 + 2)))), .inl (.int (xs (Int32.toNatClampNeg (x4 + 3))))] M)
    else none
   else none
  else none) = some res) : rL_law L xs (n + 100) 215 [.inr (29, 0), .inr (9, 0), .inr (10, 0), .inr (80, 0), .inl (.int x4), x5, x6] [.inl (.int y0)] M = some res := uL_law ((gL_law_215 L xs (rL_law L xs n) x4 x5 x6 y0 M).trans h)
set_option maxRecDepth 20000 in
theorem gL_law_283 (L : Nat) (xs : Nat → Int32) (k : Nat → List am_V → List am_V → am_M → am_R) (x4 : Int32) (x5 : am_V) (x6 : am_V) (y0 : Int32) (M : am_M) : gL_law L xs k 283 [.inr (29, 0), .inr (9, 0), .inr (10, 0), .inr (80, 0), .inl (.int x4), x5, x6] [.inl (.int y0)] M =
  if am_in (x4 + 1) L then
   am_ret [] 292 [] (k 295 [.inr (29, 0), .inr (9, 0), .inr (10, 0), .inr (80, 0), .inl (.int x4), .inl (.int y0), x6]) (fX10_seal [.inr (10, 0), .inl (.int (xs (Int32.toNatClampNeg (x4 + 1))))] M)
  else none := (rfl)
theorem eL_law_283 {L : Nat} {xs : Nat → Int32} {n : Nat} {x4 : Int32} {x5 : am_V} {x6 : am_V} {y0 : Int32} {M : am_M} {res : am_O × am_M} (h : (if am_in (x4 + 1) L then
   am_ret [] 292 [] (rL_law L xs n 295 [.inr (29, 0), .inr (9, 0), .inr (10, 0), .inr (80, 0), .inl (.int x4), .inl (.int y0), x6]) (fX10_seal [.inr (10, 0), .inl (.int (xs (Int32.toNatClampNeg (x4 + 1))))] M)
  else none) = some res) : rL_law L xs (n + 100) 283 [.inr (29, 0), .inr (9, 0), .inr (10, 0), .inr (80, 0), .inl (.int x4), x5, x6] [.inl (.int y0)] M = some res := uL_law ((gL_law_283 L xs (rL_law L xs n) x4 x5 x6 y0 M).trans h)
set_option maxRecDepth 20000 in
theorem gL_law_363 (L : Nat) (xs : Nat → Int32) (k : Nat → List am_V → List am_V → am_M → am_R) (x4 : Int32) (x5 : am_V) (x6 : am_V) (y0 : Int32) (M : am_M) : gL_law L xs k 363 [.inr (29, 0), .inr (9, 0), .inr (10, 0), .inr (80, 0), .inl (.int x4), x5, x6] [.inl (.int y0)] M =
  if am_in (x4 + 1) L then
   if am_in (x4 + 2) L then
    if am_in (x4 + 3) L then
     if am_in (x4 + 4) L then
      am_ret [] 390 [] (k 393 [.inr (29, 0), .inr (9, 0), .inr (10, 0), .inr (80, 0), .inl (.int x4), .inl (.int y0), x6]) (fX10_rack [.inr (10, 0), .inl (.int (xs (Int32.toNatClampNeg (x4 + 1)))), .inl (.int (xs (Int32.toNatClampNeg (x4 + 2)))), .inl (.int (xs (Int32.toNatClampNeg (x4 + 3)))), .inl (.int (xs (Int32.toNatClampNeg (x4 + 4))))] M)
     else none
    else none
   else none
  else none := (rfl)
theorem eL_law_363 {L : Nat} {xs : Nat → Int32} {n : Nat} {x4 : Int32} {x5 : am_V} {x6 : am_V} {y0 : Int32} {M : am_M} {res : am_O × am_M} (h : (if am_in (x4 + 1) L then
   if am_in (x4 + 2) L then
    if am_in (x4 + 3) L then
     if am_in (x4 + 4) L then
      am_ret [] 390 [] (rL_law L xs n 393 [.inr (29, 0), .inr (9, 0), .inr (10, 0), .inr (80, 0), .inl (.int x4), .inl (.int y0), x6]) (fX10_rack [.inr (10, 0), .inl (.int (xs (Int32.toNatClampNeg (x4 + 1)))), .inl (.int (xs (Int32.toNatClampNeg (x4 + 2)))), .inl (.int (xs (Int32.toNatClampNeg (x4 + 3)))), .inl (.int (xs (Int32.toNatClampNeg (x4 + 4))))] M)
     else none
    else none
   else none
  else none) = some res) : rL_law L xs (n + 100) 363 [.inr (29, 0), .inr (9, 0), .inr (10, 0), .inr (80, 0), .inl (.int x4), x5, x6] [.inl (.int y0)] M = some res := uL_law ((gL_law_363 L xs (rL_law L xs n) x4 x5 x6 y0 M).trans h)
set_option maxRecDepth 20000 in
theorem gL_law_418 (L : Nat) (xs : Nat → Int32) (k : Nat → List am_V → List am_V → am_M → am_R) (x4 : Int32) (x5 : am_V) (x6 : am_V) (y0 : Int32) (M : am_M) : gL_law L xs k 418 [.inr (29, 0), .inr (9, 0), .inr (10, 0), .inr (80, 0), .inl (.int x4), x5, x6] [.inl (.int y0)] M =
  if am_in (x4 + 1) L then
   am_ret [] 427 [] (k 430 [.inr (29, 0), .inr (9, 0), .inr (10, 0), .inr (80, 0), .inl (.int x4), .inl (.int y0), x6]) (fX10_removeRack [.inr (10, 0), .inl (.int (xs (Int32.toNatClampNeg (x4 + 1))))] M)
  else none := (rfl)
theorem eL_law_418 {L : Nat} {xs : Nat → Int32} {n : Nat} {x4 : Int32} {x5 : am_V} {x6 : am_V} {y0 : Int32} {M : am_M} {res : am_O × am_M} (h : (if am_in (x4 + 1) L then
   am_ret [] 427 [] (rL_law L xs n 430 [.inr (29, 0), .inr (9, 0), .inr (10, 0), .inr (80, 0), .inl (.int x4), .inl (.int y0), x6]) (fX10_removeRack [.inr (10, 0), .inl (.int (xs (Int32.toNatClampNeg (x4 + 1))))] M)
  else none) = some res) : rL_law L xs (n + 100) 418 [.inr (29, 0), .inr (9, 0), .inr (10, 0), .inr (80, 0), .inl (.int x4), x5, x6] [.inl (.int y0)] M = some res := uL_law ((gL_law_418 L xs (rL_law L xs n) x4 x5 x6 y0 M).trans h)
set_option maxRecDepth 20000 in
theorem gL_law_491 (L : Nat) (xs : Nat → Int32) (k : Nat → List am_V → List am_V → am_M → am_R) (x4 : Int32) (x5 : am_V) (x6 : am_V) (y0 : Int32) (M : am_M) : gL_law L xs k 491 [.inr (29, 0), .inr (9, 0), .inr (10, 0), .inr (80, 0), .inl (.int x4), x5, x6] [.inl (.int y0)] M =
  if am_in (x4 + 1) L then
   if am_in (x4 + 2) L then
    if am_in (x4 + 3) L then
     if am_in (x4 + 4) L then
      am_ret [] 518 [] (k 521 [.inr (29, 0), .inr (9, 0), .inr (10, 0), .inr (80, 0), .inl (.int x4), .inl (.int y0), x6]) (fX10_reagent [.inr (10, 0), .inl (.int (xs (Int32.toNatClampNeg (x4 + 1)))), .inl (.int (xs (Int32.toNatClampNeg (x4 + 2)))), .inl (.int (xs (Int32.toNatClampNeg (x4 + 3)))), .inl (.int (xs (Int32.toNatClampNeg (x4 + 4))))] M)
     else none
    else none
   else none
  else none := (rfl)
theorem eL_law_491 {L : Nat} {xs : Nat → Int32} {n : Nat} {x4 : Int32} {x5 : am_V} {x6 : am_V} {y0 : Int32} {M : am_M} {res : am_O × am_M} (h : (if am_in (x4 + 1) L then
   if am_in (x4 + 2) L then
    if am_in (x4 + 3) L then
     if am_in (x4 + 4) L then
      am_ret [] 518 [] (rL_law L xs n 521 [.inr (29, 0), .inr (9, 0), .inr (10, 0), .inr (80, 0), .inl (.int x4), .inl (.int y0), x6]) (fX10_reagent [.inr (10, 0), .inl (.int (xs (Int32.toNatClampNeg (x4 + 1)))), .inl (.int (xs (Int32.toNatClampNeg (x4 + 2)))), .inl (.int (xs (Int32.toNatClampNeg (x4 + 3)))), .inl (.int (xs (Int32.toNatClampNeg (x4 + 4))))] M)
     else none
    else none
   else none
  else none) = some res) : rL_law L xs (n + 100) 491 [.inr (29, 0), .inr (9, 0), .inr (10, 0), .inr (80, 0), .inl (.int x4), x5, x6] [.inl (.int y0)] M = some res := uL_law ((gL_law_491 L xs (rL_law L xs n) x4 x5 x6 y0 M).trans h)
set_option maxRecDepth 20000 in
theorem gL_law_552 (L : Nat) (xs : Nat → Int32) (k : Nat → List am_V → List am_V → am_M → am_R) (x4 : Int32) (x5 : am_V) (x6 : am_V) (y0 : Int32) (M : am_M) : gL_law L xs k 552 [.inr (29, 0), .inr (9, 0), .inr (10, 0), .inr (80, 0), .inl (.int x4), x5, x6] [.inl (.int y0)] M =
  if am_in (x4 + 1) L then
   if am_in (x4 + 2) L then
    am_ret [] 567 [] (k 570 [.inr (29, 0), .inr (9, 0), .inr (10, 0), .inr (80, 0), .inl (.int x4), .inl (.int y0), x6]) (fX10_forbid [.inr (10, 0), .inl (.int (xs (Int32.toNatClampNeg (x4 + 1)))), .inl (.int (xs (Int32.toNatClampNeg (x4 + 2))))] M)
   else none
  else none := (rfl)
theorem eL_law_552 {L : Nat} {xs : Nat → Int32} {n : Nat} {x4 : Int32} {x5 : am_V} {x6 : am_V} {y0 : Int32} {M : am_M} {res : am_O × am_M} (h : (if am_in (x4 + 1) L then
   if am_in (x4 + 2) L then
    am_ret [] 567 [] (rL_law L xs n 570 [.inr (29, 0), .inr (9, 0), .inr (10, 0), .inr (80, 0), .inl (.int x4), .inl (.int y0), x6]) (fX10_forbid [.inr (10, 0), .inl (.int (xs (Int32.toNatClampNeg (x4 + 1)))), .inl (.int (xs (Int32.toNatClampNeg (x4 + 2))))] M)
   else none
  else none) = some res) : rL_law L xs (n + 100) 552 [.inr (29, 0), .inr (9, 0), .inr (10, 0), .inr (80, 0), .inl (.int x4), x5, x6] [.inl (.int y0)] M = some res := uL_law ((gL_law_552 L xs (rL_law L xs n) x4 x5 x6 y0 M).trans h)
set_option maxRecDepth 20000 in
theorem gL_law_641 (L : Nat) (xs : Nat → Int32) (k : Nat → List am_V → List am_V → am_M → am_R) (x4 : Int32) (x5 : am_V) (x6 : am_V) (y0 : Int32) (M : am_M) : gL_law L xs k 641 [.inr (29, 0), .inr (9, 0), .inr (10, 0), .inr (80, 0), .inl (.int x4), x5, x6] [.inl (.int y0)] M =
  if am_in (x4 + 1) L then
   if am_in (x4 + 2) L then
    if am_in (x4 + 3) L then
     if (xs (Int32.toNatClampNeg (x4 + 3))) = 0 then
      am_ret [] 670 [] (k 673 [.inr (29, 0), .inr (9, 0), .inr (10, 0), .inr (80, 0), .inl (.int x4), .inl (.int y0), x6]) (fX10_order [.inr (10, 0), .inl (.int (xs (Int32.toNatClampNeg (x4 + 1)))), .inl (.int (xs (Int32.toNatClampNeg (x4 + 2)))), .inl (.int 0)] M)
     else am_ret [] 670 [] (k 673 [.inr (29, 0), .inr (9, 0), .inr (10, 0), .inr (80, 0), .inl (.int x4), .inl (.int y0), x6]) (fX10_order [.inr (10, 0), .inl (.int (xs (Int32.toNatClampNeg (x4 + 1)))), .inl (.int (xs (Int32.toNatClampNeg (x4 + 2)))), .inl (.int 1)] M)
    else none
   else none
  else none := (rfl)
theorem eL_law_641 {L : Nat} {xs : Nat → Int32} {n : Nat} {x4 : Int32} {x5 : am_V} {x6 : am_V} {y0 : Int32} {M : am_M} {res : am_O × am_M} (h : (if am_in (x4 + 1) L then
   if am_in (x4 + 2) L then
    if am_in (x4 + 3) L then
     if (xs (Int32.toNatClampNeg (x4 + 3))) = 0 then
      am_ret [] 670 [] (rL_law L xs n 673 [.inr (29, 0), .inr (9, 0), .inr (10, 0), .inr (80, 0), .inl (.int x4), .inl (.int y0), x6]) (fX10_order [.inr (10, 0), .inl (.int (xs (Int32.toNatClampNeg (x4 + 1)))), .inl (.int (xs (Int32.toNatClampNeg (x4 + 2)))), .inl (.int 0)] M)
     else am_ret [] 670 [] (rL_law L xs n 673 [.inr (29, 0), .inr (9, 0), .inr (10, 0), .inr (80, 0), .inl (.int x4), .inl (.int y0), x6]) (fX10_order [.inr (10, 0), .inl (.int (xs (Int32.toNatClampNeg (x4 + 1)))), .inl (.int (xs (Int32.toNatClampNeg (x4 + 2)))), .inl (.int 1)] M)
    else none
   else none
  else none) = some res) : rL_law L xs (n + 100) 641 [.inr (29, 0), .inr (9, 0), .inr (10, 0), .inr (80, 0), .inl (.int x4), x5, x6] [.inl (.int y0)] M = some res := uL_law ((gL_law_641 L xs (rL_law L xs n) x4 x5 x6 y0 M).trans h)
set_option maxRecDepth 20000 in
theorem gL_law_716 (L : Nat) (xs : Nat → Int32) (k : Nat → List am_V → List am_V → am_M → am_R) (x4 : Int32) (x5 : am_V) (x6 : am_V) (y0 : Int32) (M : am_M) : gL_law L xs k 716 [.inr (29, 0), .inr (9, 0), .inr (10, 0), .inr (80, 0), .inl (.int x4), x5, x6] [.inl (.int y0)] M =
  if am_in (x4 + 1) L then
   am_ret [] 725 [] (k 728 [.inr (29, 0), .inr (9, 0), .inr (10, 0), .inr (80, 0), .inl (.int x4), .inl (.int y0), x6]) (fX10_clock [.inr (10, 0), .inl (.int (xs (Int32.toNatClampNeg (x4 + 1))))] M)
  else none := (rfl)
theorem eL_law_716 {L : Nat} {xs : Nat → Int32} {n : Nat} {x4 : Int32} {x5 : am_V} {x6 : am_V} {y0 : Int32} {M : am_M} {res : am_O × am_M} (h : (if am_in (x4 + 1) L then
   am_ret [] 725 [] (rL_law L xs n 728 [.inr (29, 0), .inr (9, 0), .inr (10, 0), .inr (80, 0), .inl (.int x4), .inl (.int y0), x6]) (fX10_clock [.inr (10, 0), .inl (.int (xs (Int32.toNatClampNeg (x4 + 1))))] M)
  else none) = some res) : rL_law L xs (n + 100) 716 [.inr (29, 0), .inr (9, 0), .inr (10, 0), .inr (80, 0), .inl (.int x4), x5, x6] [.inl (.int y0)] M = some res := uL_law ((gL_law_716 L xs (rL_law L xs n) x4 x5 x6 y0 M).trans h)
set_option maxRecDepth 20000 in
theorem gL_law_752 (L : Nat) (xs : Nat → Int32) (k : Nat → List am_V → List am_V → am_M → am_R) (x4 : Int32) (x5 : am_V) (x6 : am_V) (y0 : Int32) (M : am_M) : gL_law L xs k 752 [.inr (29, 0), .inr (9, 0), .inr (10, 0), .inr (80, 0), .inl (.int x4), x5, x6] [.inl (.int y0)] M =
  if am_in (x4 + 1) L then
   am_ret [] 761 [] (k 764 [.inr (29, 0), .inr (9, 0), .inr (10, 0), .inr (80, 0), .inl (.int x4), .inl (.int y0), x6]) (fX10_light [.inr (10, 0), .inl (.int (xs (Int32.toNatClampNeg (x4 + 1))))] M)
  else none := (rfl)
theorem eL_law_752 {L : Nat} {xs : Nat → Int32} {n : Nat} {x4 : Int32} {x5 : am_V} {x6 : am_V} {y0 : Int32} {M : am_M} {res : am_O × am_M} (h : (if am_in (x4 + 1) L then
   am_ret [] 761 [] (rL_law L xs n 764 [.inr (29, 0), .inr (9, 0), .inr (10, 0), .inr (80, 0), .inl (.int x4), .inl (.int y0), x6]) (fX10_light [.inr (10, 0), .inl (.int (xs (Int32.toNatClampNeg (x4 + 1))))] M)
  else none) = some res) : rL_law L xs (n + 100) 752 [.inr (29, 0), .inr (9, 0), .inr (10, 0), .inr (80, 0), .inl (.int x4), x5, x6] [.inl (.int y0)] M = some res := uL_law ((gL_law_752 L xs (rL_law L xs n) x4 x5 x6 y0 M).trans h)
set_option maxRecDepth 20000 in
theorem gL_law_788 (L : Nat) (xs : Nat → Int32) (k : Nat → List am_V → List am_V → am_M → am_R) (x4 : Int32) (x5 : am_V) (x6 : am_V) (y0 : Int32) (M : am_M) : gL_law L xs k 788 [.inr (29, 0), .inr (9, 0), .inr (10, 0), .inr (80, 0), .inl (.int x4), x5, x6] [.inl (.int y0)] M =
  if am_in (x4 + 1) L then
   am_ret [] 797 [] (k 800 [.inr (29, 0), .inr (9, 0), .inr (10, 0), .inr (80, 0), .inl (.int x4), .inl (.int y0), x6]) (fX10_spoil [.inr (10, 0), .inl (.int (xs (Int32.toNatClampNeg (x4 + 1))))] M)
  else none := (rfl)
theorem eL_law_788 {L : Nat} {xs : Nat → Int32} {n : Nat} {x4 : Int32} {x5 : am_V} {x6 : am_V} {y0 : Int32} {M : am_M} {res : am_O × am_M} (h : (if am_in (x4 + 1) L then
   am_ret [] 797 [] (rL_law L xs n 800 [.inr (29, 0), .inr (9, 0), .inr (10, 0), .inr (80, 0), .inl (.int x4), .inl (.int y0), x6]) (fX10_spoil [.inr (10, 0), .inl (.int (xs (Int32.toNatClampNeg (x4 + 1))))] M)
  else none) = some res) : rL_law L xs (n + 100) 788 [.inr (29, 0), .inr (9, 0), .inr (10, 0), .inr (80, 0), .inl (.int x4), x5, x6] [.inl (.int y0)] M = some res := uL_law ((gL_law_788 L xs (rL_law L xs n) x4 x5 x6 y0 M).trans h)
set_option maxRecDepth 20000 in
theorem gL_law_818 (L : Nat) (xs : Nat → Int32) (k : Nat → List am_V → List am_V → am_M → am_R) (x4 : Int32) (x5 : am_V) (x6 : am_V) (y0 : Int32) (M : am_M) : gL_law L xs k 818 [.inr (29, 0), .inr (9, 0), .inr (10, 0), .inr (80, 0), .inl (.int x4), x5, x6] [.inl (.int y0)] M =
  am_ret [] 819 [.inl (.int y0)] (k 822 [.inr (29, 0), .inr (9, 0), .inr (10, 0), .inr (80, 0), .inl (.int x4), x5, x6]) (fX10_step [.inr (10, 0)] M) := (rfl)
theorem eL_law_818 {L : Nat} {xs : Nat → Int32} {n : Nat} {x4 : Int32} {x5 : am_V} {x6 : am_V} {y0 : Int32} {M : am_M} {res : am_O × am_M} (h : (am_ret [] 819 [.inl (.int y0)] (rL_law L xs n 822 [.inr (29, 0), .inr (9, 0), .inr (10, 0), .inr (80, 0), .inl (.int x4), x5, x6]) (fX10_step [.inr (10, 0)] M)) = some res) : rL_law L xs (n + 100) 818 [.inr (29, 0), .inr (9, 0), .inr (10, 0), .inr (80, 0), .inl (.int x4), x5, x6] [.inl (.int y0)] M = some res := uL_law ((gL_law_818 L xs (rL_law L xs n) x4 x5 x6 y0 M).trans h)
set_option maxRecDepth 20000 in
theorem gL_law_857 (L : Nat) (xs : Nat → Int32) (k : Nat → List am_V → List am_V → am_M → am_R) (x4 : Int32) (x5 : am_V) (x6 : am_V) (y0 : Int32) (M : am_M) : gL_law L xs k 857 [.inr (29, 0), .inr (9, 0), .inr (10, 0), .inr (80, 0), .inl (.int x4), x5, x6] [.inl (.int y0)] M =
  if am_in (x4 + 1) L then
   if am_in (x4 + 2) L then
    am_ret [] 872 [] (k 875 [.inr (29, 0), .inr (9, 0), .inr (10, 0), .inr (80, 0), .inl (.int x4), .inl (.int y0), x6]) (fX10_state [.inr (10, 0), .inl (.int (xs (Int32.toNatClampNeg (x4 + 1)))), .inl (.int (xs (Int32.toNatClampNeg (x4 + 2))))] M)
   else none
  else none := (rfl)
theorem eL_law_857 {L : Nat} {xs : Nat → Int32} {n : Nat} {x4 : Int32} {x5 : am_V} {x6 : am_V} {y0 : Int32} {M : am_M} {res : am_O × am_M} (h : (if am_in (x4 + 1) L then
   if am_in (x4 + 2) L then
    am_ret [] 872 [] (rL_law L xs n 875 [.inr (29, 0), .inr (9, 0), .inr (10, 0), .inr (80, 0), .inl (.int x4), .inl (.int y0), x6]) (fX10_state [.inr (10, 0), .inl (.int (xs (Int32.toNatClampNeg (x4 + 1)))), .inl (.int (xs (Int32.toNatClampNeg (x4 + 2))))] M)
   else none
  else none) = some res) : rL_law L xs (n + 100) 857 [.inr (29, 0), .inr (9, 0), .inr (10, 0), .inr (80, 0), .inl (.int x4), x5, x6] [.inl (.int y0)] M = some res := uL_law ((gL_law_857 L xs (rL_law L xs n) x4 x5 x6 y0 M).trans h)
set_option maxRecDepth 20000 in
theorem gL_law_925 (L : Nat) (xs : Nat → Int32) (k : Nat → List am_V → List am_V → am_M → am_R) (x4 : Int32) (x5 : am_V) (x6 : am_V) (y0 : Int32) (M : am_M) : gL_law L xs k 925 [.inr (29, 0), .inr (9, 0), .inr (10, 0), .inr (80, 0), .inl (.int x4), x5, x6] [.inl (.int y0)] M =
  if am_in (x4 + 1) L then
   if am_in (x4 + 2) L then
    am_ret [] 940 [] (k 943 [.inr (29, 0), .inr (9, 0), .inr (10, 0), .inr (80, 0), .inl (.int x4), .inl (.int y0), x6]) (fX10_cuvette [.inr (10, 0), .inl (.int (xs (Int32.toNatClampNeg (x4 + 1)))), .inl (.int (xs (Int32.toNatClampNeg (x4 + 2))))] M)
   else none
  else none := (rfl)
theorem eL_law_925 {L : Nat} {xs : Nat → Int32} {n : Nat} {x4 : Int32} {x5 : am_V} {x6 : am_V} {y0 : Int32} {M : am_M} {res : am_O × am_M} (h : (if am_in (x4 + 1) L then
   if am_in (x4 + 2) L then
    am_ret [] 940 [] (rL_law L xs n 943 [.inr (29, 0), .inr (9, 0), .inr (10, 0), .inr (80, 0), .inl (.int x4), .inl (.int y0), x6]) (fX10_cuvette [.inr (10, 0), .inl (.int (xs (Int32.toNatClampNeg (x4 + 1)))), .inl (.int (xs (Int32.toNatClampNeg (x4 + 2))))] M)
   else none
  else none) = some res) : rL_law L xs (n + 100) 925 [.inr (29, 0), .inr (9, 0), .inr (10, 0), .inr (80, 0), .inl (.int x4), x5, x6] [.inl (.int y0)] M = some res := uL_law ((gL_law_925 L xs (rL_law L xs n) x4 x5 x6 y0 M).trans h)
set_option maxRecDepth 20000 in
theorem gL_law_993 (L : Nat) (xs : Nat → Int32) (k : Nat → List am_V → List am_V → am_M → am_R) (x4 : Int32) (x5 : am_V) (x6 : am_V) (y0 : Int32) (M : am_M) : gL_law L xs k 993 [.inr (29, 0), .inr (9, 0), .inr (10, 0), .inr (80, 0), .inl (.int x4), x5, x6] [.inl (.int y0)] M =
  if am_in (x4 + 1) L then
   if am_in (x4 + 2) L then
    am_ret [] 1008 [] (k 1011 [.inr (29, 0), .inr (9, 0), .inr (10, 0), .inr (80, 0), .inl (.int x4), .inl (.int y0), x6]) (fX10_volume [.inr (10, 0), .inl (.int (xs (Int32.toNatClampNeg (x4 + 1)))), .inl (.int (xs (Int32.toNatClampNeg (x4 + 2))))] M)
   else none
  else none := (rfl)
theorem eL_law_993 {L : Nat} {xs : Nat → Int32} {n : Nat} {x4 : Int32} {x5 : am_V} {x6 : am_V} {y0 : Int32} {M : am_M} {res : am_O × am_M} (h : (if am_in (x4 + 1) L then
   if am_in (x4 + 2) L then
    am_ret [] 1008 [] (rL_law L xs n 1011 [.inr (29, 0), .inr (9, 0), .inr (10, 0), .inr (80, 0), .inl (.int x4), .inl (.int y0), x6]) (fX10_volume [.inr (10, 0), .inl (.int (xs (Int32.toNatClampNeg (x4 + 1)))), .inl (.int (xs (Int32.toNatClampNeg (x4 + 2))))] M)
   else none
  else none) = some res) : rL_law L xs (n + 100) 993 [.inr (29, 0), .inr (9, 0), .inr (10, 0), .inr (80, 0), .inl (.int x4), x5, x6] [.inl (.int y0)] M = some res := uL_law ((gL_law_993 L xs (rL_law L xs n) x4 x5 x6 y0 M).trans h)
set_option maxRecDepth 20000 in
theorem gL_law_1061 (L : Nat) (xs : Nat → Int32) (k : Nat → List am_V → List am_V → am_M → am_R) (x4 : Int32) (x5 : am_V) (x6 : am_V) (y0 : Int32) (M : am_M) : gL_law L xs k 1061 [.inr (29, 0), .inr (9, 0), .inr (10, 0), .inr (80, 0), .inl (.int x4), x5, x6] [.inl (.int y0)] M =
  if am_in (x4 + 1) L then
   if am_in (x4 + 2) L then
    am_ret [] 1076 [] (k 1079 [.inr (29, 0), .inr (9, 0), .inr (10, 0), .inr (80, 0), .inl (.int x4), .inl (.int y0), x6]) (fX10_trend [.inr (10, 0), .inl (.int (xs (Int32.toNatClampNeg (x4 + 1)))), .inl (.int (xs (Int32.toNatClampNeg (x4 + 2))))] M)
   else none
  else none := (rfl)
theorem eL_law_1061 {L : Nat} {xs : Nat → Int32} {n : Nat} {x4 : Int32} {x5 : am_V} {x6 : am_V} {y0 : Int32} {M : am_M} {res : am_O × am_M} (h : (if am_in (x4 + 1) L then
   if am_in (x4 + 2) L then
    am_ret [] 1076 [] (rL_law L xs n 1079 [.inr (29, 0), .inr (9, 0), .inr (10, 0), .inr (80, 0), .inl (.int x4), .inl (.int y0), x6]) (fX10_trend [.inr (10, 0), .inl (.int (xs (Int32.toNatClampNeg (x4 + 1)))), .inl (.int (xs (Int32.toNatClampNeg (x4 + 2))))] M)
   else none
  else none) = some res) : rL_law L xs (n + 100) 1061 [.inr (29, 0), .inr (9, 0), .inr (10, 0), .inr (80, 0), .inl (.int x4), x5, x6] [.inl (.int y0)] M = some res := uL_law ((gL_law_1061 L xs (rL_law L xs n) x4 x5 x6 y0 M).trans h)
set_option maxRecDepth 20000 in
theorem gL_law_1123 (L : Nat) (xs : Nat → Int32) (k : Nat → List am_V → List am_V → am_M → am_R) (x4 : Int32) (x5 : am_V) (x6 : am_V) (y0 : Int32) (M : am_M) : gL_law L xs k 1123 [.inr (29, 0), .inr (9, 0), .inr (10, 0), .inr (80, 0), .inl (.int x4), x5, x6] [.inl (.int y0)] M =
  if am_in (x4 + 1) L then
   am_ret [] 1132 [] (k 1135 [.inr (29, 0), .inr (9, 0), .inr (10, 0), .inr (80, 0), .inl (.int x4), .inl (.int y0), x6]) (fX10_rules [.inr (10, 0), .inl (.int (xs (Int32.toNatClampNeg (x4 + 1))))] M)
  else none := (rfl)
theorem eL_law_1123 {L : Nat} {xs : Nat → Int32} {n : Nat} {x4 : Int32} {x5 : am_V} {x6 : am_V} {y0 : Int32} {M : am_M} {res : am_O × am_M} (h : (if am_in (x4 + 1) L then
   am_ret [] 1132 [] (rL_law L xs n 1135 [.inr (29, 0), .inr (9, 0), .inr (10, 0), .inr (80, 0), .inl (.int x4), .inl (.int y0), x6]) (fX10_rules [.inr (10, 0), .inl (.int (xs (Int32.toNatClampNeg (x4 + 1))))] M)
  else none) = some res) : rL_law L xs (n + 100) 1123 [.inr (29, 0), .inr (9, 0), .inr (10, 0), .inr (80, 0), .inl (.int x4), x5, x6] [.inl (.int y0)] M = some res := uL_law ((gL_law_1123 L xs (rL_law L xs n) x4 x5 x6 y0 M).trans h)
set_option maxRecDepth 20000 in
theorem gL_law_1179 (L : Nat) (xs : Nat → Int32) (k : Nat → List am_V → List am_V → am_M → am_R) (x4 : Int32) (x5 : am_V) (x6 : am_V) (y0 : Int32) (M : am_M) : gL_law L xs k 1179 [.inr (29, 0), .inr (9, 0), .inr (10, 0), .inr (80, 0), .inl (.int x4), x5, x6] [.inl (.int y0)] M =
  if am_in (x4 + 1) L then
   am_ret [] 1188 [] (k 1191 [.inr (29, 0), .inr (9, 0), .inr (10, 0), .inr (80, 0), .inl (.int x4), .inl (.int y0), x6]) (fX10_host [.inr (10, 0), .inl (.int (xs (Int32.toNatClampNeg (x4 + 1))))] M)
  else none := (rfl)
theorem eL_law_1179 {L : Nat} {xs : Nat → Int32} {n : Nat} {x4 : Int32} {x5 : am_V} {x6 : am_V} {y0 : Int32} {M : am_M} {res : am_O × am_M} (h : (if am_in (x4 + 1) L then
   am_ret [] 1188 [] (rL_law L xs n 1191 [.inr (29, 0), .inr (9, 0), .inr (10, 0), .inr (80, 0), .inl (.int x4), .inl (.int y0), x6]) (fX10_host [.inr (10, 0), .inl (.int (xs (Int32.toNatClampNeg (x4 + 1))))] M)
  else none) = some res) : rL_law L xs (n + 100) 1179 [.inr (29, 0), .inr (9, 0), .inr (10, 0), .inr (80, 0), .inl (.int x4), x5, x6] [.inl (.int y0)] M = some res := uL_law ((gL_law_1179 L xs (rL_law L xs n) x4 x5 x6 y0 M).trans h)
set_option maxRecDepth 20000 in
theorem gL_law_1235 (L : Nat) (xs : Nat → Int32) (k : Nat → List am_V → List am_V → am_M → am_R) (x4 : Int32) (x5 : am_V) (x6 : am_V) (y0 : Int32) (M : am_M) : gL_law L xs k 1235 [.inr (29, 0), .inr (9, 0), .inr (10, 0), .inr (80, 0), .inl (.int x4), x5, x6] [.inl (.int y0)] M =
  if am_in (x4 + 1) L then
   am_ret [] 1244 [] (k 1247 [.inr (29, 0), .inr (9, 0), .inr (10, 0), .inr (80, 0), .inl (.int x4), .inl (.int y0), x6]) (fX10_took [.inr (10, 0), .inl (.int (xs (Int32.toNatClampNeg (x4 + 1))))] M)
  else none := (rfl)
theorem eL_law_1235 {L : Nat} {xs : Nat → Int32} {n : Nat} {x4 : Int32} {x5 : am_V} {x6 : am_V} {y0 : Int32} {M : am_M} {res : am_O × am_M} (h : (if am_in (x4 + 1) L then
   am_ret [] 1244 [] (rL_law L xs n 1247 [.inr (29, 0), .inr (9, 0), .inr (10, 0), .inr (80, 0), .inl (.int x4), .inl (.int y0), x6]) (fX10_took [.inr (10, 0), .inl (.int (xs (Int32.toNatClampNeg (x4 + 1))))] M)
  else none) = some res) : rL_law L xs (n + 100) 1235 [.inr (29, 0), .inr (9, 0), .inr (10, 0), .inr (80, 0), .inl (.int x4), x5, x6] [.inl (.int y0)] M = some res := uL_law ((gL_law_1235 L xs (rL_law L xs n) x4 x5 x6 y0 M).trans h)
set_option maxRecDepth 20000 in
theorem gL_law_178 (L : Nat) (xs : Nat → Int32) (k : Nat → List am_V → List am_V → am_M → am_R) (x4 : Int32) (x5 : Int32) (x6 : am_V) (M : am_M) : gL_law L xs k 178 [.inr (29, 0), .inr (9, 0), .inr (10, 0), .inr (80, 0), .inl (.int x4), .inl (.int x5), x6] [] M =
  if (M 10 0 45) = x5 then
   k 1280 [.inr (29, 0), .inr (9, 0), .inr (10, 0), .inr (80, 0), .inl (.int x4), .inl (.int x5), x6] [] M
  else some (.inl (some (.inl (.int 0))), M) := (rfl)
theorem eL_law_178 {L : Nat} {xs : Nat → Int32} {n : Nat} {x4 : Int32} {x5 : Int32} {x6 : am_V} {M : am_M} {res : am_O × am_M} (h : (if (M 10 0 45) = x5 then
   rL_law L xs n 1280 [.inr (29, 0), .inr (9, 0), .inr (10, 0), .inr (80, 0), .inl (.int x4), .inl (.int x5), x6] [] M
  else some (.inl (some (.inl (.int 0))), M)) = some res) : rL_law L xs (n + 100) 178 [.inr (29, 0), .inr (9, 0), .inr (10, 0), .inr (80, 0), .inl (.int x4), .inl (.int x5), x6] [] M = some res := uL_law ((gL_law_178 L xs (rL_law L xs n) x4 x5 x6 M).trans h)
set_option maxRecDepth 20000 in
theorem gL_law_239 (L : Nat) (xs : Nat → Int32) (k : Nat → List am_V → List am_V → am_M → am_R) (x4 : Int32) (x5 : Int32) (x6 : am_V) (y0 : Int32) (M : am_M) : gL_law L xs k 239 [.inr (29, 0), .inr (9, 0), .inr (10, 0), .inr (80, 0), .inl (.int x4), .inl (.int x5), x6] [.inl (.int y0)] M =
  if (M 10 0 45) = x5 then
   if x5 = 0 then
    if (lg_cmp (am_jn (M 80 0 (2 * 0)) (M 80 0 (2 * 0 + 1))) (Int32.toInt64 y0)) = 0 then
     k 1280 [.inr (29, 0), .inr (9, 0), .inr (10, 0), .inr (80, 0), .inl (.int x4), .inl (.int x5), .inl (.int y0)] [] M
    else some (.inl (some (.inl (.int 0))), M)
   else k 1280 [.inr (29, 0), .inr (9, 0), .inr (10, 0), .inr (80, 0), .inl (.int x4), .inl (.int x5), .inl (.int y0)] [] M
  else some (.inl (some (.inl (.int 0))), M) := (rfl)
theorem eL_law_239 {L : Nat} {xs : Nat → Int32} {n : Nat} {x4 : Int32} {x5 : Int32} {x6 : am_V} {y0 : Int32} {M : am_M} {res : am_O × am_M} (h : (if (M 10 0 45) = x5 then
   if x5 = 0 then
    if (lg_cmp (am_jn (M 80 0 (2 * 0)) (M 80 0 (2 * 0 + 1))) (Int32.toInt64 y0)) = 0 then
     rL_law L xs n 1280 [.inr (29, 0), .inr (9, 0), .inr (10, 0), .inr (80, 0), .inl (.int x4), .inl (.int x5), .inl (.int y0)] [] M
    else some (.inl (some (.inl (.int 0))), M)
   else rL_law L xs n 1280 [.inr (29, 0), .inr (9, 0), .inr (10, 0), .inr (80, 0), .inl (.int x4), .inl (.int x5), .inl (.int y0)] [] M
  else some (.inl (some (.inl (.int 0))), M)) = some res) : rL_law L xs (n + 100) 239 [.inr (29, 0), .inr (9, 0), .inr (10, 0), .inr (80, 0), .inl (.int x4), .inl (.int x5), x6] [.inl (.int y0)] M = some res := uL_law ((gL_law_239 L xs (rL_law L xs n) x4 x5 x6 y0 M).trans h)
set_option maxRecDepth 20000 in
theorem gL_law_295 (L : Nat) (xs : Nat → Int32) (k : Nat → List am_V → List am_V → am_M → am_R) (x4 : Int32) (x5 : Int32) (x6 : am_V) (y0 : Int32) (M : am_M) : gL_law L xs k 295 [.inr (29, 0), .inr (9, 0), .inr (10, 0), .inr (80, 0), .inl (.int x4), .inl (.int x5), x6] [.inl (.int y0)] M =
  if (M 10 0 45) = x5 then
   if x5 = 0 then
    if y0 = 0 then
     if (lg_cmp (am_jn (M 80 0 (2 * 0)) (M 80 0 (2 * 0 + 1))) 0) = 0 then
      k 1280 [.inr (29, 0), .inr (9, 0), .inr (10, 0), .inr (80, 0), .inl (.int x4), .inl (.int x5), .inl (.int y0)] [] M
     else some (.inl (some (.inl (.int 0))), M)
    else if (lg_cmp (am_jn (M 80 0 (2 * 0)) (M 80 0 (2 * 0 + 1))) 1) = 0 then
     k 1280 [.inr (29, 0), .inr (9, 0), .inr (10, 0), .inr (80, 0), .inl (.int x4), .inl (.int x5), .inl (.int y0)] [] M
    else some (.inl (some (.inl (.int 0))), M)
   else k 1280 [.inr (29, 0), .inr (9, 0), .inr (10, 0), .inr (80, 0), .inl (.int x4), .inl (.int x5), .inl (.int y0)] [] M
  else some (.inl (some (.inl (.int 0))), M) := (rfl)
theorem eL_law_295 {L : Nat} {xs : Nat → Int32} {n : Nat} {x4 : Int32} {x5 : Int32} {x6 : am_V} {y0 : Int32} {M : am_M} {res : am_O × am_M} (h : (if (M 10 0 45) = x5 then
   if x5 = 0 then
    if y0 = 0 then
     if (lg_cmp (am_jn (M 80 0 (2 * 0)) (M 80 0 (2 * 0 + 1))) 0) = 0 then
      rL_law L xs n 1280 [.inr (29, 0), .inr (9, 0), .inr (10, 0), .inr (80, 0), .inl (.int x4), .inl (.int x5), .inl (.int y0)] [] M
     else some (.inl (some (.inl (.int 0))), M)
    else if (lg_cmp (am_jn (M 80 0 (2 * 0)) (M 80 0 (2 * 0 + 1))) 1) = 0 then
     rL_law L xs n 1280 [.inr (29, 0), .inr (9, 0), .inr (10, 0), .inr (80, 0), .inl (.int x4), .inl (.int x5), .inl (.int y0)] [] M
    else some (.inl (some (.inl (.int 0))), M)
   else rL_law L xs n 1280 [.inr (29, 0), .inr (9, 0), .inr (10, 0), .inr (80, 0), .inl (.int x4), .inl (.int x5), .inl (.int y0)] [] M
  else some (.inl (some (.inl (.int 0))), M)) = some res) : rL_law L xs (n + 100) 295 [.inr (29, 0), .inr (9, 0), .inr (10, 0), .inr (80, 0), .inl (.int x4), .inl (.int x5), x6] [.inl (.int y0)] M = some res := uL_law ((gL_law_295 L xs (rL_law L xs n) x4 x5 x6 y0 M).trans h)
set_option maxRecDepth 20000 in
theorem gL_law_393 (L : Nat) (xs : Nat → Int32) (k : Nat → List am_V → List am_V → am_M → am_R) (x4 : Int32) (x5 : Int32) (x6 : am_V) (M : am_M) : gL_law L xs k 393 [.inr (29, 0), .inr (9, 0), .inr (10, 0), .inr (80, 0), .inl (.int x4), .inl (.int x5), x6] [] M =
  if (M 10 0 45) = x5 then
   k 1280 [.inr (29, 0), .inr (9, 0), .inr (10, 0), .inr (80, 0), .inl (.int x4), .inl (.int x5), x6] [] M
  else some (.inl (some (.inl (.int 0))), M) := (rfl)
theorem eL_law_393 {L : Nat} {xs : Nat → Int32} {n : Nat} {x4 : Int32} {x5 : Int32} {x6 : am_V} {M : am_M} {res : am_O × am_M} (h : (if (M 10 0 45) = x5 then
   rL_law L xs n 1280 [.inr (29, 0), .inr (9, 0), .inr (10, 0), .inr (80, 0), .inl (.int x4), .inl (.int x5), x6] [] M
  else some (.inl (some (.inl (.int 0))), M)) = some res) : rL_law L xs (n + 100) 393 [.inr (29, 0), .inr (9, 0), .inr (10, 0), .inr (80, 0), .inl (.int x4), .inl (.int x5), x6] [] M = some res := uL_law ((gL_law_393 L xs (rL_law L xs n) x4 x5 x6 M).trans h)
set_option maxRecDepth 20000 in
theorem gL_law_430 (L : Nat) (xs : Nat → Int32) (k : Nat → List am_V → List am_V → am_M → am_R) (x4 : Int32) (x5 : Int32) (x6 : am_V) (y0 : Int32) (M : am_M) : gL_law L xs k 430 [.inr (29, 0), .inr (9, 0), .inr (10, 0), .inr (80, 0), .inl (.int x4), .inl (.int x5), x6] [.inl (.int y0)] M =
  if (M 10 0 45) = x5 then
   if x5 = 0 then
    if (lg_cmp (am_jn (M 80 0 (2 * 0)) (M 80 0 (2 * 0 + 1))) (Int32.toInt64 y0)) = 0 then
     k 1280 [.inr (29, 0), .inr (9, 0), .inr (10, 0), .inr (80, 0), .inl (.int x4), .inl (.int x5), .inl (.int y0)] [] M
    else some (.inl (some (.inl (.int 0))), M)
   else k 1280 [.inr (29, 0), .inr (9, 0), .inr (10, 0), .inr (80, 0), .inl (.int x4), .inl (.int x5), .inl (.int y0)] [] M
  else some (.inl (some (.inl (.int 0))), M) := (rfl)
theorem eL_law_430 {L : Nat} {xs : Nat → Int32} {n : Nat} {x4 : Int32} {x5 : Int32} {x6 : am_V} {y0 : Int32} {M : am_M} {res : am_O × am_M} (h : (if (M 10 0 45) = x5 then
   if x5 = 0 then
    if (lg_cmp (am_jn (M 80 0 (2 * 0)) (M 80 0 (2 * 0 + 1))) (Int32.toInt64 y0)) = 0 then
     rL_law L xs n 1280 [.inr (29, 0), .inr (9, 0), .inr (10, 0), .inr (80, 0), .inl (.int x4), .inl (.int x5), .inl (.int y0)] [] M
    else some (.inl (some (.inl (.int 0))), M)
   else rL_law L xs n 1280 [.inr (29, 0), .inr (9, 0), .inr (10, 0), .inr (80, 0), .inl (.int x4), .inl (.int x5), .inl (.int y0)] [] M
  else some (.inl (some (.inl (.int 0))), M)) = some res) : rL_law L xs (n + 100) 430 [.inr (29, 0), .inr (9, 0), .inr (10, 0), .inr (80, 0), .inl (.int x4), .inl (.int x5), x6] [.inl (.int y0)] M = some res := uL_law ((gL_law_430 L xs (rL_law L xs n) x4 x5 x6 y0 M).trans h)
set_option maxRecDepth 20000 in
theorem gL_law_521 (L : Nat) (xs : Nat → Int32) (k : Nat → List am_V → List am_V → am_M → am_R) (x4 : Int32) (x5 : Int32) (x6 : am_V) (M : am_M) : gL_law L xs k 521 [.inr (29, 0), .inr (9, 0), .inr (10, 0), .inr (80, 0), .inl (.int x4), .inl (.int x5), x6] [] M =
  if (M 10 0 45) = x5 then
   k 1280 [.inr (29, 0), .inr (9, 0), .inr (10, 0), .inr (80, 0), .inl (.int x4), .inl (.int x5), x6] [] M
  else some (.inl (some (.inl (.int 0))), M) := (rfl)
theorem eL_law_521 {L : Nat} {xs : Nat → Int32} {n : Nat} {x4 : Int32} {x5 : Int32} {x6 : am_V} {M : am_M} {res : am_O × am_M} (h : (if (M 10 0 45) = x5 then
   rL_law L xs n 1280 [.inr (29, 0), .inr (9, 0), .inr (10, 0), .inr (80, 0), .inl (.int x4), .inl (.int x5), x6] [] M
  else some (.inl (some (.inl (.int 0))), M)) = some res) : rL_law L xs (n + 100) 521 [.inr (29, 0), .inr (9, 0), .inr (10, 0), .inr (80, 0), .inl (.int x4), .inl (.int x5), x6] [] M = some res := uL_law ((gL_law_521 L xs (rL_law L xs n) x4 x5 x6 M).trans h)
set_option maxRecDepth 20000 in
theorem gL_law_570 (L : Nat) (xs : Nat → Int32) (k : Nat → List am_V → List am_V → am_M → am_R) (x4 : Int32) (x5 : Int32) (x6 : am_V) (y0 : Int32) (M : am_M) : gL_law L xs k 570 [.inr (29, 0), .inr (9, 0), .inr (10, 0), .inr (80, 0), .inl (.int x4), .inl (.int x5), x6] [.inl (.int y0)] M =
  if (M 10 0 45) = x5 then
   if x5 = 0 then
    if y0 = 0 then
     if (lg_cmp (am_jn (M 80 0 (2 * 0)) (M 80 0 (2 * 0 + 1))) 0) = 0 then
      k 1280 [.inr (29, 0), .inr (9, 0), .inr (10, 0), .inr (80, 0), .inl (.int x4), .inl (.int x5), .inl (.int y0)] [] M
     else some (.inl (some (.inl (.int 0))), M)
    else if (lg_cmp (am_jn (M 80 0 (2 * 0)) (M 80 0 (2 * 0 + 1))) 1) = 0 then
     k 1280 [.inr (29, 0), .inr (9, 0), .inr (10, 0), .inr (80, 0), .inl (.int x4), .inl (.int x5), .inl (.int y0)] [] M
    else some (.inl (some (.inl (.int 0))), M)
   else k 1280 [.inr (29, 0), .inr (9, 0), .inr (10, 0), .inr (80, 0), .inl (.int x4), .inl (.int x5), .inl (.int y0)] [] M
  else some (.inl (some (.inl (.int 0))), M) := (rfl)
theorem eL_law_570 {L : Nat} {xs : Nat → Int32} {n : Nat} {x4 : Int32} {x5 : Int32} {x6 : am_V} {y0 : Int32} {M : am_M} {res : am_O × am_M} (h : (if (M 10 0 45) = x5 then
   if x5 = 0 then
    if y0 = 0 then
     if (lg_cmp (am_jn (M 80 0 (2 * 0)) (M 80 0 (2 * 0 + 1))) 0) = 0 then
      rL_law L xs n 1280 [.inr (29, 0), .inr (9, 0), .inr (10, 0), .inr (80, 0), .inl (.int x4), .inl (.int x5), .inl (.int y0)] [] M
     else some (.inl (some (.inl (.int 0))), M)
    else if (lg_cmp (am_jn (M 80 0 (2 * 0)) (M 80 0 (2 * 0 + 1))) 1) = 0 then
     rL_law L xs n 1280 [.inr (29, 0), .inr (9, 0), .inr (10, 0), .inr (80, 0), .inl (.int x4), .inl (.int x5), .inl (.int y0)] [] M
    else some (.inl (some (.inl (.int 0))), M)
   else rL_law L xs n 1280 [.inr (29, 0), .inr (9, 0), .inr (10, 0), .inr (80, 0), .inl (.int x4), .inl (.int x5), .inl (.int y0)] [] M
  else some (.inl (some (.inl (.int 0))), M)) = some res) : rL_law L xs (n + 100) 570 [.inr (29, 0), .inr (9, 0), .inr (10, 0), .inr (80, 0), .inl (.int x4), .inl (.int x5), x6] [.inl (.int y0)] M = some res := uL_law ((gL_law_570 L xs (rL_law L xs n) x4 x5 x6 y0 M).trans h)
set_option maxRecDepth 20000 in
theorem gL_law_673 (L : Nat) (xs : Nat → Int32) (k : Nat → List am_V → List am_V → am_M → am_R) (x4 : Int32) (x5 : Int32) (x6 : am_V) (y0 : Int32) (M : am_M) : gL_law L xs k 673 [.inr (29, 0), .inr (9, 0), .inr (10, 0), .inr (80, 0), .inl (.int x4), .inl (.int x5), x6] [.inl (.int y0)] M =
  if (M 10 0 45) = x5 then
   if x5 = 0 then
    if (lg_cmp (am_jn (M 80 0 (2 * 0)) (M 80 0 (2 * 0 + 1))) (Int32.toInt64 y0)) = 0 then
     k 1280 [.inr (29, 0), .inr (9, 0), .inr (10, 0), .inr (80, 0), .inl (.int x4), .inl (.int x5), .inl (.int y0)] [] M
    else some (.inl (some (.inl (.int 0))), M)
   else k 1280 [.inr (29, 0), .inr (9, 0), .inr (10, 0), .inr (80, 0), .inl (.int x4), .inl (.int x5), .inl (.int y0)] [] M
  else some (.inl (some (.inl (.int 0))), M) := (rfl)
theorem eL_law_673 {L : Nat} {xs : Nat → Int32} {n : Nat} {x4 : Int32} {x5 : Int32} {x6 : am_V} {y0 : Int32} {M : am_M} {res : am_O × am_M} (h : (if (M 10 0 45) = x5 then
   if x5 = 0 then
    if (lg_cmp (am_jn (M 80 0 (2 * 0)) (M 80 0 (2 * 0 + 1))) (Int32.toInt64 y0)) = 0 then
     rL_law L xs n 1280 [.inr (29, 0), .inr (9, 0), .inr (10, 0), .inr (80, 0), .inl (.int x4), .inl (.int x5), .inl (.int y0)] [] M
    else some (.inl (some (.inl (.int 0))), M)
   else rL_law L xs n 1280 [.inr (29, 0), .inr (9, 0), .inr (10, 0), .inr (80, 0), .inl (.int x4), .inl (.int x5), .inl (.int y0)] [] M
  else some (.inl (some (.inl (.int 0))), M)) = some res) : rL_law L xs (n + 100) 673 [.inr (29, 0), .inr (9, 0), .inr (10, 0), .inr (80, 0), .inl (.int x4), .inl (.int x5), x6] [.inl (.int y0)] M = some res := uL_law ((gL_law_673 L xs (rL_law L xs n) x4 x5 x6 y0 M).trans h)
set_option maxRecDepth 20000 in
theorem gL_law_728 (L : Nat) (xs : Nat → Int32) (k : Nat → List am_V → List am_V → am_M → am_R) (x4 : Int32) (x5 : Int32) (x6 : am_V) (M : am_M) : gL_law L xs k 728 [.inr (29, 0), .inr (9, 0), .inr (10, 0), .inr (80, 0), .inl (.int x4), .inl (.int x5), x6] [] M =
  if (M 10 0 45) = x5 then
   k 1280 [.inr (29, 0), .inr (9, 0), .inr (10, 0), .inr (80, 0), .inl (.int x4), .inl (.int x5), x6] [] M
  else some (.inl (some (.inl (.int 0))), M) := (rfl)
theorem eL_law_728 {L : Nat} {xs : Nat → Int32} {n : Nat} {x4 : Int32} {x5 : Int32} {x6 : am_V} {M : am_M} {res : am_O × am_M} (h : (if (M 10 0 45) = x5 then
   rL_law L xs n 1280 [.inr (29, 0), .inr (9, 0), .inr (10, 0), .inr (80, 0), .inl (.int x4), .inl (.int x5), x6] [] M
  else some (.inl (some (.inl (.int 0))), M)) = some res) : rL_law L xs (n + 100) 728 [.inr (29, 0), .inr (9, 0), .inr (10, 0), .inr (80, 0), .inl (.int x4), .inl (.int x5), x6] [] M = some res := uL_law ((gL_law_728 L xs (rL_law L xs n) x4 x5 x6 M).trans h)
set_option maxRecDepth 20000 in
theorem gL_law_764 (L : Nat) (xs : Nat → Int32) (k : Nat → List am_V → List am_V → am_M → am_R) (x4 : Int32) (x5 : Int32) (x6 : am_V) (M : am_M) : gL_law L xs k 764 [.inr (29, 0), .inr (9, 0), .inr (10, 0), .inr (80, 0), .inl (.int x4), .inl (.int x5), x6] [] M =
  if (M 10 0 45) = x5 then
   k 1280 [.inr (29, 0), .inr (9, 0), .inr (10, 0), .inr (80, 0), .inl (.int x4), .inl (.int x5), x6] [] M
  else some (.inl (some (.inl (.int 0))), M) := (rfl)
theorem eL_law_764 {L : Nat} {xs : Nat → Int32} {n : Nat} {x4 : Int32} {x5 : Int32} {x6 : am_V} {M : am_M} {res : am_O × am_M} (h : (if (M 10 0 45) = x5 then
   rL_law L xs n 1280 [.inr (29, 0), .inr (9, 0), .inr (10, 0), .inr (80, 0), .inl (.int x4), .inl (.int x5), x6] [] M
  else some (.inl (some (.inl (.int 0))), M)) = some res) : rL_law L xs (n + 100) 764 [.inr (29, 0), .inr (9, 0), .inr (10, 0), .inr (80, 0), .inl (.int x4), .inl (.int x5), x6] [] M = some res := uL_law ((gL_law_764 L xs (rL_law L xs n) x4 x5 x6 M).trans h)
set_option maxRecDepth 20000 in
theorem gL_law_800 (L : Nat) (xs : Nat → Int32) (k : Nat → List am_V → List am_V → am_M → am_R) (x4 : Int32) (x5 : Int32) (x6 : am_V) (M : am_M) : gL_law L xs k 800 [.inr (29, 0), .inr (9, 0), .inr (10, 0), .inr (80, 0), .inl (.int x4), .inl (.int x5), x6] [] M =
  if (M 10 0 45) = x5 then
   k 1280 [.inr (29, 0), .inr (9, 0), .inr (10, 0), .inr (80, 0), .inl (.int x4), .inl (.int x5), x6] [] M
  else some (.inl (some (.inl (.int 0))), M) := (rfl)
theorem eL_law_800 {L : Nat} {xs : Nat → Int32} {n : Nat} {x4 : Int32} {x5 : Int32} {x6 : am_V} {M : am_M} {res : am_O × am_M} (h : (if (M 10 0 45) = x5 then
   rL_law L xs n 1280 [.inr (29, 0), .inr (9, 0), .inr (10, 0), .inr (80, 0), .inl (.int x4), .inl (.int x5), x6] [] M
  else some (.inl (some (.inl (.int 0))), M)) = some res) : rL_law L xs (n + 100) 800 [.inr (29, 0), .inr (9, 0), .inr (10, 0), .inr (80, 0), .inl (.int x4), .inl (.int x5), x6] [] M = some res := uL_law ((gL_law_800 L xs (rL_law L xs n) x4 x5 x6 M).trans h)
set_option maxRecDepth 20000 in
theorem gL_law_822 (L : Nat) (xs : Nat → Int32) (k : Nat → List am_V → List am_V → am_M → am_R) (x4 : Int32) (x5 : am_V) (x6 : am_V) (y0 : Int32) (y1 : Int32) (M : am_M) : gL_law L xs k 822 [.inr (29, 0), .inr (9, 0), .inr (10, 0), .inr (80, 0), .inl (.int x4), x5, x6] [.inl (.int y0), .inl (.int y1)] M =
  if y1 = y0 then
   k 1280 [.inr (29, 0), .inr (9, 0), .inr (10, 0), .inr (80, 0), .inl (.int x4), x5, x6] [] M
  else some (.inl (some (.inl (.int 0))), M) := (rfl)
theorem eL_law_822 {L : Nat} {xs : Nat → Int32} {n : Nat} {x4 : Int32} {x5 : am_V} {x6 : am_V} {y0 : Int32} {y1 : Int32} {M : am_M} {res : am_O × am_M} (h : (if y1 = y0 then
   rL_law L xs n 1280 [.inr (29, 0), .inr (9, 0), .inr (10, 0), .inr (80, 0), .inl (.int x4), x5, x6] [] M
  else some (.inl (some (.inl (.int 0))), M)) = some res) : rL_law L xs (n + 100) 822 [.inr (29, 0), .inr (9, 0), .inr (10, 0), .inr (80, 0), .inl (.int x4), x5, x6] [.inl (.int y0), .inl (.int y1)] M = some res := uL_law ((gL_law_822 L xs (rL_law L xs n) x4 x5 x6 y0 y1 M).trans h)
set_option maxRecDepth 20000 in
theorem gL_law_875 (L : Nat) (xs : Nat → Int32) (k : Nat → List am_V → List am_V → am_M → am_R) (x4 : Int32) (x5 : Int32) (x6 : am_V) (y0 : Int32) (M : am_M) : gL_law L xs k 875 [.inr (29, 0), .inr (9, 0), .inr (10, 0), .inr (80, 0), .inl (.int x4), .inl (.int x5), x6] [.inl (.int y0)] M =
  if (M 10 0 45) = x5 then
   if x5 = 0 then
    if (lg_cmp (am_jn (M 80 0 (2 * 0)) (M 80 0 (2 * 0 + 1))) (Int32.toInt64 y0)) = 0 then
     k 1280 [.inr (29, 0), .inr (9, 0), .inr (10, 0), .inr (80, 0), .inl (.int x4), .inl (.int x5), .inl (.int y0)] [] M
    else some (.inl (some (.inl (.int 0))), M)
   else k 1280 [.inr (29, 0), .inr (9, 0), .inr (10, 0), .inr (80, 0), .inl (.int x4), .inl (.int x5), .inl (.int y0)] [] M
  else some (.inl (some (.inl (.int 0))), M) := (rfl)
theorem eL_law_875 {L : Nat} {xs : Nat → Int32} {n : Nat} {x4 : Int32} {x5 : Int32} {x6 : am_V} {y0 : Int32} {M : am_M} {res : am_O × am_M} (h : (if (M 10 0 45) = x5 then
   if x5 = 0 then
    if (lg_cmp (am_jn (M 80 0 (2 * 0)) (M 80 0 (2 * 0 + 1))) (Int32.toInt64 y0)) = 0 then
     rL_law L xs n 1280 [.inr (29, 0), .inr (9, 0), .inr (10, 0), .inr (80, 0), .inl (.int x4), .inl (.int x5), .inl (.int y0)] [] M
    else some (.inl (some (.inl (.int 0))), M)
   else rL_law L xs n 1280 [.inr (29, 0), .inr (9, 0), .inr (10, 0), .inr (80, 0), .inl (.int x4), .inl (.int x5), .inl (.int y0)] [] M
  else some (.inl (some (.inl (.int 0))), M)) = some res) : rL_law L xs (n + 100) 875 [.inr (29, 0), .inr (9, 0), .inr (10, 0), .inr (80, 0), .inl (.int x4), .inl (.int x5), x6] [.inl (.int y0)] M = some res := uL_law ((gL_law_875 L xs (rL_law L xs n) x4 x5 x6 y0 M).trans h)
set_option maxRecDepth 20000 in
theorem gL_law_943 (L : Nat) (xs : Nat → Int32) (k : Nat → List am_V → List am_V → am_M → am_R) (x4 : Int32) (x5 : Int32) (x6 : am_V) (y0 : Int32) (M : am_M) : gL_law L xs k 943 [.inr (29, 0), .inr (9, 0), .inr (10, 0), .inr (80, 0), .inl (.int x4), .inl (.int x5), x6] [.inl (.int y0)] M =
  if (M 10 0 45) = x5 then
   if x5 = 0 then
    if (lg_cmp (am_jn (M 80 0 (2 * 0)) (M 80 0 (2 * 0 + 1))) (Int32.toInt64 y0)) = 0 then
     k 1280 [.inr (29, 0), .inr (9, 0), .inr (10, 0), .inr (80, 0), .inl (.int x4), .inl (.int x5), .inl (.int y0)] [] M
    else some (.inl (some (.inl (.int 0))), M)
   else k 1280 [.inr (29, 0), .inr (9, 0), .inr (10, 0), .inr (80, 0), .inl (.int x4), .inl (.int x5), .inl (.int y0)] [] M
  else some (.inl (some (.inl (.int 0))), M) := (rfl)
theorem eL_law_943 {L : Nat} {xs : Nat → Int32} {n : Nat} {x4 : Int32} {x5 : Int32} {x6 : am_V} {y0 : Int32} {M : am_M} {res : am_O × am_M} (h : (if (M 10 0 45) = x5 then
   if x5 = 0 then
    if (lg_cmp (am_jn (M 80 0 (2 * 0)) (M 80 0 (2 * 0 + 1))) (Int32.toInt64 y0)) = 0 then
     rL_law L xs n 1280 [.inr (29, 0), .inr (9, 0), .inr (10, 0), .inr (80, 0), .inl (.int x4), .inl (.int x5), .inl (.int y0)] [] M
    else some (.inl (some (.inl (.int 0))), M)
   else rL_law L xs n 1280 [.inr (29, 0), .inr (9, 0), .inr (10, 0), .inr (80, 0), .inl (.int x4), .inl (.int x5), .inl (.int y0)] [] M
  else some (.inl (some (.inl (.int 0))), M)) = some res) : rL_law L xs (n + 100) 943 [.inr (29, 0), .inr (9, 0), .inr (10, 0), .inr (80, 0), .inl (.int x4), .inl (.int x5), x6] [.inl (.int y0)] M = some res := uL_law ((gL_law_943 L xs (rL_law L xs n) x4 x5 x6 y0 M).trans h)
set_option maxRecDepth 20000 in
theorem gL_law_1011 (L : Nat) (xs : Nat → Int32) (k : Nat → List am_V → List am_V → am_M → am_R) (x4 : Int32) (x5 : Int32) (x6 : am_V) (y0 : Int32) (M : am_M) : gL_law L xs k 1011 [.inr (29, 0), .inr (9, 0), .inr (10, 0), .inr (80, 0), .inl (.int x4), .inl (.int x5), x6] [.inl (.int y0)] M =
  if (M 10 0 45) = x5 then
   if x5 = 0 then
    if (lg_cmp (am_jn (M 80 0 (2 * 0)) (M 80 0 (2 * 0 + 1))) (Int32.toInt64 y0)) = 0 then
     k 1280 [.inr (29, 0), .inr (9, 0), .inr (10, 0), .inr (80, 0), .inl (.int x4), .inl (.int x5), .inl (.int y0)] [] M
    else some (.inl (some (.inl (.int 0))), M)
   else k 1280 [.inr (29, 0), .inr (9, 0), .inr (10, 0), .inr (80, 0), .inl (.int x4), .inl (.int x5), .inl (.int y0)] [] M
  else some (.inl (some (.inl (.int 0))), M) := (rfl)
theorem eL_law_1011 {L : Nat} {xs : Nat → Int32} {n : Nat} {x4 : Int32} {x5 : Int32} {x6 : am_V} {y0 : Int32} {M : am_M} {res : am_O × am_M} (h : (if (M 10 0 45) = x5 then
   if x5 = 0 then
    if (lg_cmp (am_jn (M 80 0 (2 * 0)) (M 80 0 (2 * 0 + 1))) (Int32.toInt64 y0)) = 0 then
     rL_law L xs n 1280 [.inr (29, 0), .inr (9, 0), .inr (10, 0), .inr (80, 0), .inl (.int x4), .inl (.int x5), .inl (.int y0)] [] M
    else some (.inl (some (.inl (.int 0))), M)
   else rL_law L xs n 1280 [.inr (29, 0), .inr (9, 0), .inr (10, 0), .inr (80, 0), .inl (.int x4), .inl (.int x5), .inl (.int y0)] [] M
  else some (.inl (some (.inl (.int 0))), M)) = some res) : rL_law L xs (n + 100) 1011 [.inr (29, 0), .inr (9, 0), .inr (10, 0), .inr (80, 0), .inl (.int x4), .inl (.int x5), x6] [.inl (.int y0)] M = some res := uL_law ((gL_law_1011 L xs (rL_law L xs n) x4 x5 x6 y0 M).trans h)
set_option maxRecDepth 20000 in
theorem gL_law_1079 (L : Nat) (xs : Nat → Int32) (k : Nat → List am_V → List am_V → am_M → am_R) (x4 : Int32) (x5 : Int32) (x6 : am_V) (y0 : Int32) (M : am_M) : gL_law L xs k 1079 [.inr (29, 0), .inr (9, 0), .inr (10, 0), .inr (80, 0), .inl (.int x4), .inl (.int x5), x6] [.inl (.int y0)] M =
  if (M 10 0 45) = x5 then
   if x5 = 0 then
    if (lg_cmp (am_jn (M 80 0 (2 * 0)) (M 80 0 (2 * 0 + 1))) (Int32.toInt64 y0)) = 0 then
     k 1280 [.inr (29, 0), .inr (9, 0), .inr (10, 0), .inr (80, 0), .inl (.int x4), .inl (.int x5), .inl (.int y0)] [] M
    else some (.inl (some (.inl (.int 0))), M)
   else k 1280 [.inr (29, 0), .inr (9, 0), .inr (10, 0), .inr (80, 0), .inl (.int x4), .inl (.int x5), .inl (.int y0)] [] M
  else some (.inl (some (.inl (.int 0))), M) := (rfl)
theorem eL_law_1079 {L : Nat} {xs : Nat → Int32} {n : Nat} {x4 : Int32} {x5 : Int32} {x6 : am_V} {y0 : Int32} {M : am_M} {res : am_O × am_M} (h : (if (M 10 0 45) = x5 then
   if x5 = 0 then
    if (lg_cmp (am_jn (M 80 0 (2 * 0)) (M 80 0 (2 * 0 + 1))) (Int32.toInt64 y0)) = 0 then
     rL_law L xs n 1280 [.inr (29, 0), .inr (9, 0), .inr (10, 0), .inr (80, 0), .inl (.int x4), .inl (.int x5), .inl (.int y0)] [] M
    else some (.inl (some (.inl (.int 0))), M)
   else rL_law L xs n 1280 [.inr (29, 0), .inr (9, 0), .inr (10, 0), .inr (80, 0), .inl (.int x4), .inl (.int x5), .inl (.int y0)] [] M
  else some (.inl (some (.inl (.int 0))), M)) = some res) : rL_law L xs (n + 100) 1079 [.inr (29, 0), .inr (9, 0), .inr (10, 0), .inr (80, 0), .inl (.int x4), .inl (.int x5), x6] [.inl (.int y0)] M = some res := uL_law ((gL_law_1079 L xs (rL_law L xs n) x4 x5 x6 y0 M).trans h)
set_option maxRecDepth 20000 in
theorem gL_law_1135 (L : Nat) (xs : Nat → Int32) (k : Nat → List am_V → List am_V → am_M → am_R) (x4 : Int32) (x5 : Int32) (x6 : am_V) (y0 : Int32) (M : am_M) : gL_law L xs k 1135 [.inr (29, 0), .inr (9, 0), .inr (10, 0), .inr (80, 0), .inl (.int x4), .inl (.int x5), x6] [.inl (.int y0)] M =
  if (M 10 0 45) = x5 then
   if x5 = 0 then
    if (lg_cmp (am_jn (M 80 0 (2 * 0)) (M 80 0 (2 * 0 + 1))) (Int32.toInt64 y0)) = 0 then
     k 1280 [.inr (29, 0), .inr (9, 0), .inr (10, 0), .inr (80, 0), .inl (.int x4), .inl (.int x5), .inl (.int y0)] [] M
    else some (.inl (some (.inl (.int 0))), M)
   else k 1280 [.inr (29, 0), .inr (9, 0), .inr (10, 0), .inr (80, 0), .inl (.int x4), .inl (.int x5), .inl (.int y0)] [] M
  else some (.inl (some (.inl (.int 0))), M) := (rfl)
theorem eL_law_1135 {L : Nat} {xs : Nat → Int32} {n : Nat} {x4 : Int32} {x5 : Int32} {x6 : am_V} {y0 : Int32} {M : am_M} {res : am_O × am_M} (h : (if (M 10 0 45) = x5 then
   if x5 = 0 then
    if (lg_cmp (am_jn (M 80 0 (2 * 0)) (M 80 0 (2 * 0 + 1))) (Int32.toInt64 y0)) = 0 then
     rL_law L xs n 1280 [.inr (29, 0), .inr (9, 0), .inr (10, 0), .inr (80, 0), .inl (.int x4), .inl (.int x5), .inl (.int y0)] [] M
    else some (.inl (some (.inl (.int 0))), M)
   else rL_law L xs n 1280 [.inr (29, 0), .inr (9, 0), .inr (10, 0), .inr (80, 0), .inl (.int x4), .inl (.int x5), .inl (.int y0)] [] M
  else some (.inl (some (.inl (.int 0))), M)) = some res) : rL_law L xs (n + 100) 1135 [.inr (29, 0), .inr (9, 0), .inr (10, 0), .inr (80, 0), .inl (.int x4), .inl (.int x5), x6] [.inl (.int y0)] M = some res := uL_law ((gL_law_1135 L xs (rL_law L xs n) x4 x5 x6 y0 M).trans h)
set_option maxRecDepth 20000 in
theorem gL_law_1191 (L : Nat) (xs : Nat → Int32) (k : Nat → List am_V → List am_V → am_M → am_R) (x4 : Int32) (x5 : Int32) (x6 : am_V) (y0 : Int32) (M : am_M) : gL_law L xs k 1191 [.inr (29, 0), .inr (9, 0), .inr (10, 0), .inr (80, 0), .inl (.int x4), .inl (.int x5), x6] [.inl (.int y0)] M =
  if (M 10 0 45) = x5 then
   if x5 = 0 then
    if (lg_cmp (am_jn (M 80 0 (2 * 0)) (M 80 0 (2 * 0 + 1))) (Int32.toInt64 y0)) = 0 then
     k 1280 [.inr (29, 0), .inr (9, 0), .inr (10, 0), .inr (80, 0), .inl (.int x4), .inl (.int x5), .inl (.int y0)] [] M
    else some (.inl (some (.inl (.int 0))), M)
   else k 1280 [.inr (29, 0), .inr (9, 0), .inr (10, 0), .inr (80, 0), .inl (.int x4), .inl (.int x5), .inl (.int y0)] [] M
  else some (.inl (some (.inl (.int 0))), M) := (rfl)
theorem eL_law_1191 {L : Nat} {xs : Nat → Int32} {n : Nat} {x4 : Int32} {x5 : Int32} {x6 : am_V} {y0 : Int32} {M : am_M} {res : am_O × am_M} (h : (if (M 10 0 45) = x5 then
   if x5 = 0 then
    if (lg_cmp (am_jn (M 80 0 (2 * 0)) (M 80 0 (2 * 0 + 1))) (Int32.toInt64 y0)) = 0 then
     rL_law L xs n 1280 [.inr (29, 0), .inr (9, 0), .inr (10, 0), .inr (80, 0), .inl (.int x4), .inl (.int x5), .inl (.int y0)] [] M
    else some (.inl (some (.inl (.int 0))), M)
   else rL_law L xs n 1280 [.inr (29, 0), .inr (9, 0), .inr (10, 0), .inr (80, 0), .inl (.int x4), .inl (.int x5), .inl (.int y0)] [] M
  else some (.inl (some (.inl (.int 0))), M)) = some res) : rL_law L xs (n + 100) 1191 [.inr (29, 0), .inr (9, 0), .inr (10, 0), .inr (80, 0), .inl (.int x4), .inl (.int x5), x6] [.inl (.int y0)] M = some res := uL_law ((gL_law_1191 L xs (rL_law L xs n) x4 x5 x6 y0 M).trans h)
set_option maxRecDepth 20000 in
theorem gL_law_1247 (L : Nat) (xs : Nat → Int32) (k : Nat → List am_V → List am_V → am_M → am_R) (x4 : Int32) (x5 : Int32) (x6 : am_V) (y0 : Int32) (M : am_M) : gL_law L xs k 1247 [.inr (29, 0), .inr (9, 0), .inr (10, 0), .inr (80, 0), .inl (.int x4), .inl (.int x5), x6] [.inl (.int y0)] M =
  if (M 10 0 45) = x5 then
   if x5 = 0 then
    if (lg_cmp (am_jn (M 80 0 (2 * 0)) (M 80 0 (2 * 0 + 1))) (Int32.toInt64 y0)) = 0 then
     k 1280 [.inr (29, 0), .inr (9, 0), .inr (10, 0), .inr (80, 0), .inl (.int x4), .inl (.int x5), .inl (.int y0)] [] M
    else some (.inl (some (.inl (.int 0))), M)
   else k 1280 [.inr (29, 0), .inr (9, 0), .inr (10, 0), .inr (80, 0), .inl (.int x4), .inl (.int x5), .inl (.int y0)] [] M
  else some (.inl (some (.inl (.int 0))), M) := (rfl)
theorem eL_law_1247 {L : Nat} {xs : Nat → Int32} {n : Nat} {x4 : Int32} {x5 : Int32} {x6 : am_V} {y0 : Int32} {M : am_M} {res : am_O × am_M} (h : (if (M 10 0 45) = x5 then
   if x5 = 0 then
    if (lg_cmp (am_jn (M 80 0 (2 * 0)) (M 80 0 (2 * 0 + 1))) (Int32.toInt64 y0)) = 0 then
     rL_law L xs n 1280 [.inr (29, 0), .inr (9, 0), .inr (10, 0), .inr (80, 0), .inl (.int x4), .inl (.int x5), .inl (.int y0)] [] M
    else some (.inl (some (.inl (.int 0))), M)
   else rL_law L xs n 1280 [.inr (29, 0), .inr (9, 0), .inr (10, 0), .inr (80, 0), .inl (.int x4), .inl (.int x5), .inl (.int y0)] [] M
  else some (.inl (some (.inl (.int 0))), M)) = some res) : rL_law L xs (n + 100) 1247 [.inr (29, 0), .inr (9, 0), .inr (10, 0), .inr (80, 0), .inl (.int x4), .inl (.int x5), x6] [.inl (.int y0)] M = some res := uL_law ((gL_law_1247 L xs (rL_law L xs n) x4 x5 x6 y0 M).trans h)
