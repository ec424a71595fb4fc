/-! ===== the runs, piece by piece ===== -/
def rX10_remember (n pc : Nat) (ls st : List am_V) (M : am_M) : am_R := am_run [] [] 0 am_X0 pX10_remember n pc ls st M
def gX10_remember (k : Nat → List am_V → List am_V → am_M → am_R) (pc : Nat) (ls st : List am_V) (M : am_M) : am_R := am_go [] [] 0 am_X0 pX10_remember [13] k 100 pc ls st M
theorem uX10_remember {n pc : Nat} {ls st : List am_V} {M : am_M} {res : am_O × am_M} (h : gX10_remember (rX10_remember n) pc ls st M = some res) : rX10_remember (n + 100) pc ls st M = some res := am_go_ok h
theorem eX10_remember (x1 : Int32) (x2 : Int32) (M : am_M) : fX10_remember [.inr (10, 0), .inl (.int x1), .inl (.int x2)] M = rX10_remember 100000 0 [.inr (10, 0), .inl (.int x1), .inl (.int x2), am_D] [] M := am_meth_eq rfl rfl
set_option maxRecDepth 20000 in
theorem gX10_remember_0 (k : Nat → List am_V → List am_V → am_M → am_R) (x1 : Int32) (x2 : Int32) (M : am_M) : gX10_remember k 0 [.inr (10, 0), .inl (.int x1), .inl (.int x2), am_D] [] M =
  if am_in x1 4 then
   if (M 36 0 (Int32.toNatClampNeg x1)) = 10 then
    k 13 [.inr (10, 0), .inl (.int x1), .inl (.int x2), .inl (.int 1)] [] M
   else if am_in x1 4 then
    if am_in ((10 * x1) + (M 36 0 (Int32.toNatClampNeg x1))) 40 then
     if am_in x1 4 then
      if am_in x1 4 then
       some (.inl none, (am_put (am_put M 35 0 (Int32.toNatClampNeg ((10 * x1) + (M 36 0 (Int32.toNatClampNeg x1)))) x2) 36 0 (Int32.toNatClampNeg x1) ((M 36 0 (Int32.toNatClampNeg x1)) + 1)))
      else none
     else none
    else none
   else none
  else none := (rfl)
theorem eX10_remember_0 {n : Nat} {x1 : Int32} {x2 : Int32} {M : am_M} {res : am_O × am_M} (h : (if am_in x1 4 then
   if (M 36 0 (Int32.toNatClampNeg x1)) = 10 then
    rX10_remember n 13 [.inr (10, 0), .inl (.int x1), .inl (.int x2), .inl (.int 1)] [] M
   else if am_in x1 4 then
    if am_in ((10 * x1) + (M 36 0 (Int32.toNatClampNeg x1))) 40 then
     if am_in x1 4 then
      if am_in x1 4 then
       some (.inl none, (am_put (am_put M 35 0 (Int32.toNatClampNeg ((10 * x1) + (M 36 0 (Int32.toNatClampNeg x1)))) x2) 36 0 (Int32.toNatClampNeg x1) ((M 36 0 (Int32.toNatClampNeg x1)) + 1)))
      else none
     else none
    else none
   else none
  else none) = some res) : rX10_remember (n + 100) 0 [.inr (10, 0), .inl (.int x1), .inl (.int x2), am_D] [] M = some res := uX10_remember ((gX10_remember_0 (rX10_remember n) x1 x2 M).trans h)
set_option maxRecDepth 20000 in
theorem gX10_remember_13 (k : Nat → List am_V → List am_V → am_M → am_R) (x1 : Int32) (x2 : Int32) (x3 : Int32) (M : am_M) : gX10_remember k 13 [.inr (10, 0), .inl (.int x1), .inl (.int x2), .inl (.int x3)] [] M =
  if 10 ≤ x3 then
   if am_in x1 4 then
    if am_in x1 4 then
     if am_in ((10 * x1) + ((am_put M 36 0 (Int32.toNatClampNeg x1) 9) 36 0 (Int32.toNatClampNeg x1))) 40 then
      if am_in x1 4 then
       if am_in x1 4 then
        some (.inl none, (am_put (am_put (am_put M 36 0 (Int32.toNatClampNeg x1) 9) 35 0 (Int32.toNatClampNeg ((10 * x1) + ((am_put M 36 0 (Int32.toNatClampNeg x1) 9) 36 0 (Int32.toNatClampNeg x1)))) x2) 36 0 (Int32.toNatClampNeg x1) (((am_put M 36 0 (Int32.toNatClampNeg x1) 9) 36 0 (Int32.toNatClampNeg x1)) + 1)))
       else none
      else none
     else none
    else none
   else none
  else if am_in ((10 * x1) + x3) 40 then
   if am_in (((10 * x1) + x3) - 1) 40 then
    k 13 [.inr (10, 0), .inl (.int x1), .inl (.int x2), .inl (.int (x3 + 1))] [] (am_put M 35 0 (Int32.toNatClampNeg (((10 * x1) + x3) - 1)) (M 35 0 (Int32.toNatClampNeg ((10 * x1) + x3))))
   else none
  else none := (rfl)
theorem eX10_remember_13 {n : Nat} {x1 : Int32} {x2 : Int32} {x3 : Int32} {M : am_M} {res : am_O × am_M} (h : (if 10 ≤ x3 then
   if am_in x1 4 then
    if am_in x1 4 then
     if am_in ((10 * x1) + ((am_put M 36 0 (Int32.toNatClampNeg x1) 9) 36 0 (Int32.toNatClampNeg x1))) 40 then
      if am_in x1 4 then
       if am_in x1 4 then
        some (.inl none, (am_put (am_put (am_put M 36 0 (Int32.toNatClampNeg x1) 9) 35 0 (Int32.toNatClampNeg ((10 * x1) + ((am_put M 36 0 (Int32.toNatClampNeg x1) 9) 36 0 (Int32.toNatClampNeg x1)))) x2) 36 0 (Int32.toNatClampNeg x1) (((am_put M 36 0 (Int32.toNatClampNeg x1) 9) 36 0 (Int32.toNatClampNeg x1)) + 1)))
       else none
      else none
     else none
    else none
   else none
  else if am_in ((10 * x1) + x3) 40 then
   if am_in (((10 * x1) + x3) - 1) 40 then
    rX10_remember n 13 [.inr (10, 0), .inl (.int x1), .inl (.int x2), .inl (.int (x3 + 1))] [] (am_put M 35 0 (Int32.toNatClampNeg (((10 * x1) + x3) - 1)) (M 35 0 (Int32.toNatClampNeg ((10 * x1) + x3))))
   else none
  else none) = some res) : rX10_remember (n + 100) 13 [.inr (10, 0), .inl (.int x1), .inl (.int x2), .inl (.int x3)] [] M = some res := uX10_remember ((gX10_remember_13 (rX10_remember n) x1 x2 x3 M).trans h)
def rX10_judge (n pc : Nat) (ls st : List am_V) (M : am_M) : am_R := am_run [fX10_resultOf, fX10_byCurve, fX10_of, fX10_leave, fX10_remember, fX10_release] [] 0 am_X0 pX10_judge n pc ls st M
def gX10_judge (F0 F1 F2 F3 F4 F5 : am_F) (k : Nat → List am_V → List am_V → am_M → am_R) (pc : Nat) (ls st : List am_V) (M : am_M) : am_R := am_go [F0, F1, F2, F3, F4, F5] [] 0 am_X0 pX10_judge [14, 17, 33, 37, 68, 79, 87, 96, 104, 118, 135, 151, 159, 175, 184, 204, 222, 252, 261, 274] k 100 pc ls st M
theorem uX10_judge {n pc : Nat} {ls st : List am_V} {M : am_M} {res : am_O × am_M} (h : gX10_judge fX10_resultOf fX10_byCurve fX10_of fX10_leave fX10_remember fX10_release (rX10_judge n) pc ls st M = some res) : rX10_judge (n + 100) pc ls st M = some res := am_go_ok h
theorem eX10_judge (x1 : Int32) (M : am_M) : fX10_judge [.inr (10, 0), .inl (.int x1)] M = rX10_judge 100000 0 [.inr (10, 0), .inl (.int x1), am_D, am_D, am_D, am_D, am_D] [] M := am_meth_eq rfl rfl
set_option maxRecDepth 20000 in
theorem gX10_judge_0 (F0 F1 F2 F3 F4 F5 : am_F) (k : Nat → List am_V → List am_V → am_M → am_R) (x1 : Int32) (M : am_M) : gX10_judge F0 F1 F2 F3 F4 F5 k 0 [.inr (10, 0), .inl (.int x1), am_D, am_D, am_D, am_D, am_D] [] M =
  if am_in x1 40 then
   am_ret [] 11 [.inl (.int (M 46 0 (Int32.toNatClampNeg x1))), .inr (10, 0)] (k 14 [.inr (10, 0), .inl (.int x1), .inl (.int (M 46 0 (Int32.toNatClampNeg x1))), am_D, am_D, am_D, am_D]) (F0 [.inr (10, 0), .inl (.int x1)] M)
  else none := (rfl)
theorem eX10_judge_0 {n : Nat} {x1 : Int32} {M : am_M} {res : am_O × am_M} (h : (if am_in x1 40 then
   am_ret [] 11 [.inl (.int (M 46 0 (Int32.toNatClampNeg x1))), .inr (10, 0)] (rX10_judge n 14 [.inr (10, 0), .inl (.int x1), .inl (.int (M 46 0 (Int32.toNatClampNeg x1))), am_D, am_D, am_D, am_D]) (fX10_resultOf [.inr (10, 0), .inl (.int x1)] M)
  else none) = some res) : rX10_judge (n + 100) 0 [.inr (10, 0), .inl (.int x1), am_D, am_D, am_D, am_D, am_D] [] M = some res := uX10_judge ((gX10_judge_0 fX10_resultOf fX10_byCurve fX10_of fX10_leave fX10_remember fX10_release (rX10_judge n) x1 M).trans h)
set_option maxRecDepth 20000 in
theorem gX10_judge_14 (F0 F1 F2 F3 F4 F5 : am_F) (k : Nat → List am_V → List am_V → am_M → am_R) (x1 : Int32) (x2 : Int32) (y0 : Int64) (y1 : Int32) (M : am_M) : gX10_judge F0 F1 F2 F3 F4 F5 k 14 [.inr (10, 0), .inl (.int x1), .inl (.int x2), am_D, am_D, am_D, am_D] [.inl (.long y0), .inl (.int y1), .inr (10, 0)] M =
  am_ret [] 14 [] (k 17 [.inr (10, 0), .inl (.int x1), .inl (.int x2), am_D, am_D, am_D, am_D]) (F1 [.inr (10, 0), .inl (.int y1), .inl (.long y0)] M) := (rfl)
theorem eX10_judge_14 {n : Nat} {x1 : Int32} {x2 : Int32} {y0 : Int64} {y1 : Int32} {M : am_M} {res : am_O × am_M} (h : (am_ret [] 14 [] (rX10_judge n 17 [.inr (10, 0), .inl (.int x1), .inl (.int x2), am_D, am_D, am_D, am_D]) (fX10_byCurve [.inr (10, 0), .inl (.int y1), .inl (.long y0)] M)) = some res) : rX10_judge (n + 100) 14 [.inr (10, 0), .inl (.int x1), .inl (.int x2), am_D, am_D, am_D, am_D] [.inl (.long y0), .inl (.int y1), .inr (10, 0)] M = some res := uX10_judge ((gX10_judge_14 fX10_resultOf fX10_byCurve fX10_of fX10_leave fX10_remember fX10_release (rX10_judge n) x1 x2 y0 y1 M).trans h)
set_option maxRecDepth 20000 in
theorem gX10_judge_17 (F0 F1 F2 F3 F4 F5 : am_F) (k : Nat → List am_V → List am_V → am_M → am_R) (x1 : Int32) (x2 : Int32) (y0 : Int64) (M : am_M) : gX10_judge F0 F1 F2 F3 F4 F5 k 17 [.inr (10, 0), .inl (.int x1), .inl (.int x2), am_D, am_D, am_D, am_D] [.inl (.long y0)] M =
  if am_in x1 40 then
   if (am_b (M 53 0 (Int32.toNatClampNeg x1))) = 0 then
    k 37 [.inr (10, 0), .inl (.int x1), .inl (.int x2), am_D, am_D, am_D, am_D] [.inl (.int 1), .inl (.long y0)] M
   else am_ret [] 30 [.inl (.long y0)] (k 33 [.inr (10, 0), .inl (.int x1), .inl (.int x2), am_D, am_D, am_D, am_D]) (F2 [.inr (10, 0), .inl (.int x2), .inl (.int 13)] M)
  else none := (rfl)
theorem eX10_judge_17 {n : Nat} {x1 : Int32} {x2 : Int32} {y0 : Int64} {M : am_M} {res : am_O × am_M} (h : (if am_in x1 40 then
   if (am_b (M 53 0 (Int32.toNatClampNeg x1))) = 0 then
    rX10_judge n 37 [.inr (10, 0), .inl (.int x1), .inl (.int x2), am_D, am_D, am_D, am_D] [.inl (.int 1), .inl (.long y0)] M
   else am_ret [] 30 [.inl (.long y0)] (rX10_judge n 33 [.inr (10, 0), .inl (.int x1), .inl (.int x2), am_D, am_D, am_D, am_D]) (fX10_of [.inr (10, 0), .inl (.int x2), .inl (.int 13)] M)
  else none) = some res) : rX10_judge (n + 100) 17 [.inr (10, 0), .inl (.int x1), .inl (.int x2), am_D, am_D, am_D, am_D] [.inl (.long y0)] M = some res := uX10_judge ((gX10_judge_17 fX10_resultOf fX10_byCurve fX10_of fX10_leave fX10_remember fX10_release (rX10_judge n) x1 x2 y0 M).trans h)
set_option maxRecDepth 20000 in
theorem gX10_judge_37 (F0 F1 F2 F3 F4 F5 : am_F) (k : Nat → List am_V → List am_V → am_M → am_R) (x1 : Int32) (x2 : Int32) (y0 : Int32) (y1 : Int64) (M : am_M) : gX10_judge F0 F1 F2 F3 F4 F5 k 37 [.inr (10, 0), .inl (.int x1), .inl (.int x2), am_D, am_D, am_D, am_D] [.inl (.int y0), .inl (.long y1)] M =
  if (lg_cmp (y1 * (Int32.toInt64 y0)) 1000000000) ≤ 0 then
   if 0 ≤ (lg_cmp (y1 * (Int32.toInt64 y0)) (-1000000000)) then
    k 68 [.inr (10, 0), .inl (.int x1), .inl (.int x2), .inl (.long (y1 * (Int32.toInt64 y0))), am_D, am_D, am_D] [.inl (.int (Int64.toInt32 (y1 * (Int32.toInt64 y0))))] M
   else k 68 [.inr (10, 0), .inl (.int x1), .inl (.int x2), .inl (.long (y1 * (Int32.toInt64 y0))), am_D, am_D, am_D] [.inl (.int (-1000000000))] M
  else k 68 [.inr (10, 0), .inl (.int x1), .inl (.int x2), .inl (.long (y1 * (Int32.toInt64 y0))), am_D, am_D, am_D] [.inl (.int 1000000000)] M := (rfl)
theorem eX10_judge_37 {n : Nat} {x1 : Int32} {x2 : Int32} {y0 : Int32} {y1 : Int64} {M : am_M} {res : am_O × am_M} (h : (if (lg_cmp (y1 * (Int32.toInt64 y0)) 1000000000) ≤ 0 then
   if 0 ≤ (lg_cmp (y1 * (Int32.toInt64 y0)) (-1000000000)) then
    rX10_judge n 68 [.inr (10, 0), .inl (.int x1), .inl (.int x2), .inl (.long (y1 * (Int32.toInt64 y0))), am_D, am_D, am_D] [.inl (.int (Int64.toInt32 (y1 * (Int32.toInt64 y0))))] M
   else rX10_judge n 68 [.inr (10, 0), .inl (.int x1), .inl (.int x2), .inl (.long (y1 * (Int32.toInt64 y0))), am_D, am_D, am_D] [.inl (.int (-1000000000))] M
  else rX10_judge n 68 [.inr (10, 0), .inl (.int x1), .inl (.int x2), .inl (.long (y1 * (Int32.toInt64 y0))), am_D, am_D, am_D] [.inl (.int 1000000000)] M) = some res) : rX10_judge (n + 100) 37 [.inr (10, 0), .inl (.int x1), .inl (.int x2), am_D, am_D, am_D, am_D] [.inl (.int y0), .inl (.long y1)] M = some res := uX10_judge ((gX10_judge_37 fX10_resultOf fX10_byCurve fX10_of fX10_leave fX10_remember fX10_release (rX10_judge n) x1 x2 y0 y1 M).trans h)
set_option maxRecDepth 20000 in
theorem gX10_judge_33 (F0 F1 F2 F3 F4 F5 : am_F) (k : Nat → List am_V → List am_V → am_M → am_R) (x1 : Int32) (x2 : Int32) (y0 : Int32) (y1 : Int64) (M : am_M) : gX10_judge F0 F1 F2 F3 F4 F5 k 33 [.inr (10, 0), .inl (.int x1), .inl (.int x2), am_D, am_D, am_D, am_D] [.inl (.int y0), .inl (.long y1)] M =
  k 37 [.inr (10, 0), .inl (.int x1), .inl (.int x2), am_D, am_D, am_D, am_D] [.inl (.int y0), .inl (.long y1)] M := (rfl)
theorem eX10_judge_33 {n : Nat} {x1 : Int32} {x2 : Int32} {y0 : Int32} {y1 : Int64} {M : am_M} {res : am_O × am_M} (h : (rX10_judge n 37 [.inr (10, 0), .inl (.int x1), .inl (.int x2), am_D, am_D, am_D, am_D] [.inl (.int y0), .inl (.long y1)] M) = some res) : rX10_judge (n + 100) 33 [.inr (10, 0), .inl (.int x1), .inl (.int x2), am_D, am_D, am_D, am_D] [.inl (.int y0), .inl (.long y1)] M = some res := uX10_judge ((gX10_judge_33 fX10_resultOf fX10_byCurve fX10_of fX10_leave fX10_remember fX10_release (rX10_judge n) x1 x2 y0 y1 M).trans h)
set_option maxRecDepth 20000 in
theorem gX10_judge_68 (F0 F1 F2 F3 F4 F5 : am_F) (k : Nat → List am_V → List am_V → am_M → am_R) (x1 : Int32) (x2 : Int32) (x3 : Int64) (y0 : Int32) (M : am_M) : gX10_judge F0 F1 F2 F3 F4 F5 k 68 [.inr (10, 0), .inl (.int x1), .inl (.int x2), .inl (.long x3), am_D, am_D, am_D] [.inl (.int y0)] M =
  am_ret [] 76 [.inl (.int y0)] (k 79 [.inr (10, 0), .inl (.int x1), .inl (.int x2), .inl (.long x3), am_D, .inl (.int y0), am_D]) (F2 [.inr (10, 0), .inl (.int x2), .inl (.int 10)] M) := (rfl)
theorem eX10_judge_68 {n : Nat} {x1 : Int32} {x2 : Int32} {x3 : Int64} {y0 : Int32} {M : am_M} {res : am_O × am_M} (h : (am_ret [] 76 [.inl (.int y0)] (rX10_judge n 79 [.inr (10, 0), .inl (.int x1), .inl (.int x2), .inl (.long x3), am_D, .inl (.int y0), am_D]) (fX10_of [.inr (10, 0), .inl (.int x2), .inl (.int 10)] M)) = some res) : rX10_judge (n + 100) 68 [.inr (10, 0), .inl (.int x1), .inl (.int x2), .inl (.long x3), am_D, am_D, am_D] [.inl (.int y0)] M = some res := uX10_judge ((gX10_judge_68 fX10_resultOf fX10_byCurve fX10_of fX10_leave fX10_remember fX10_release (rX10_judge n) x1 x2 x3 y0 M).trans h)
set_option maxRecDepth 20000 in
theorem gX10_judge_79 (F0 F1 F2 F3 F4 F5 : am_F) (k : Nat → List am_V → List am_V → am_M → am_R) (x1 : Int32) (x2 : Int32) (x3 : Int64) (x5 : Int32) (y0 : Int32) (y1 : Int32) (M : am_M) : gX10_judge F0 F1 F2 F3 F4 F5 k 79 [.inr (10, 0), .inl (.int x1), .inl (.int x2), .inl (.long x3), am_D, .inl (.int x5), am_D] [.inl (.int y0), .inl (.int y1)] M =
  if y0 ≤ y1 then
   k 87 [.inr (10, 0), .inl (.int x1), .inl (.int x2), .inl (.long x3), am_D, .inl (.int x5), am_D] [.inl (.int 0)] M
  else k 87 [.inr (10, 0), .inl (.int x1), .inl (.int x2), .inl (.long x3), am_D, .inl (.int x5), am_D] [.inl (.int 1)] M := (rfl)
theorem eX10_judge_79 {n : Nat} {x1 : Int32} {x2 : Int32} {x3 : Int64} {x5 : Int32} {y0 : Int32} {y1 : Int32} {M : am_M} {res : am_O × am_M} (h : (if y0 ≤ y1 then
   rX10_judge n 87 [.inr (10, 0), .inl (.int x1), .inl (.int x2), .inl (.long x3), am_D, .inl (.int x5), am_D] [.inl (.int 0)] M
  else rX10_judge n 87 [.inr (10, 0), .inl (.int x1), .inl (.int x2), .inl (.long x3), am_D, .inl (.int x5), am_D] [.inl (.int 1)] M) = some res) : rX10_judge (n + 100) 79 [.inr (10, 0), .inl (.int x1), .inl (.int x2), .inl (.long x3), am_D, .inl (.int x5), am_D] [.inl (.int y0), .inl (.int y1)] M = some res := uX10_judge ((gX10_judge_79 fX10_resultOf fX10_byCurve fX10_of fX10_leave fX10_remember fX10_release (rX10_judge n) x1 x2 x3 x5 y0 y1 M).trans h)
set_option maxRecDepth 20000 in
theorem gX10_judge_87 (F0 F1 F2 F3 F4 F5 : am_F) (k : Nat → List am_V → List am_V → am_M → am_R) (x1 : Int32) (x2 : Int32) (x3 : Int64) (x5 : Int32) (y0 : Int32) (M : am_M) : gX10_judge F0 F1 F2 F3 F4 F5 k 87 [.inr (10, 0), .inl (.int x1), .inl (.int x2), .inl (.long x3), am_D, .inl (.int x5), am_D] [.inl (.int y0)] M =
  am_ret [] 93 [.inl (.int x5), .inl (.int y0)] (k 96 [.inr (10, 0), .inl (.int x1), .inl (.int x2), .inl (.long x3), am_D, .inl (.int x5), am_D]) (F2 [.inr (10, 0), .inl (.int x2), .inl (.int 11)] M) := (rfl)
theorem eX10_judge_87 {n : Nat} {x1 : Int32} {x2 : Int32} {x3 : Int64} {x5 : Int32} {y0 : Int32} {M : am_M} {res : am_O × am_M} (h : (am_ret [] 93 [.inl (.int x5), .inl (.int y0)] (rX10_judge n 96 [.inr (10, 0), .inl (.int x1), .inl (.int x2), .inl (.long x3), am_D, .inl (.int x5), am_D]) (fX10_of [.inr (10, 0), .inl (.int x2), .inl (.int 11)] M)) = some res) : rX10_judge (n + 100) 87 [.inr (10, 0), .inl (.int x1), .inl (.int x2), .inl (.long x3), am_D, .inl (.int x5), am_D] [.inl (.int y0)] M = some res := uX10_judge ((gX10_judge_87 fX10_resultOf fX10_byCurve fX10_of fX10_leave fX10_remember fX10_release (rX10_judge n) x1 x2 x3 x5 y0 M).trans h)
set_option maxRecDepth 20000 in
theorem gX10_judge_96 (F0 F1 F2 F3 F4 F5 : am_F) (k : Nat → List am_V → List am_V → am_M → am_R) (x1 : Int32) (x2 : Int32) (x3 : Int64) (x5 : Int32) (y0 : Int32) (y1 : Int32) (y2 : Int32) (M : am_M) : gX10_judge F0 F1 F2 F3 F4 F5 k 96 [.inr (10, 0), .inl (.int x1), .inl (.int x2), .inl (.long x3), am_D, .inl (.int x5), am_D] [.inl (.int y0), .inl (.int y1), .inl (.int y2)] M =
  if y1 ≤ y0 then
   k 104 [.inr (10, 0), .inl (.int x1), .inl (.int x2), .inl (.long x3), am_D, .inl (.int x5), am_D] [.inl (.int 0), .inl (.int y2)] M
  else k 104 [.inr (10, 0), .inl (.int x1), .inl (.int x2), .inl (.long x3), am_D, .inl (.int x5), am_D] [.inl (.int 2), .inl (.int y2)] M := (rfl)
theorem eX10_judge_96 {n : Nat} {x1 : Int32} {x2 : Int32} {x3 : Int64} {x5 : Int32} {y0 : Int32} {y1 : Int32} {y2 : Int32} {M : am_M} {res : am_O × am_M} (h : (if y1 ≤ y0 then
   rX10_judge n 104 [.inr (10, 0), .inl (.int x1), .inl (.int x2), .inl (.long x3), am_D, .inl (.int x5), am_D] [.inl (.int 0), .inl (.int y2)] M
  else rX10_judge n 104 [.inr (10, 0), .inl (.int x1), .inl (.int x2), .inl (.long x3), am_D, .inl (.int x5), am_D] [.inl (.int 2), .inl (.int y2)] M) = some res) : rX10_judge (n + 100) 96 [.inr (10, 0), .inl (.int x1), .inl (.int x2), .inl (.long x3), am_D, .inl (.int x5), am_D] [.inl (.int y0), .inl (.int y1), .inl (.int y2)] M = some res := uX10_judge ((gX10_judge_96 fX10_resultOf fX10_byCurve fX10_of fX10_leave fX10_remember fX10_release (rX10_judge n) x1 x2 x3 x5 y0 y1 y2 M).trans h)
set_option maxRecDepth 20000 in
theorem gX10_judge_104 (F0 F1 F2 F3 F4 F5 : am_F) (k : Nat → List am_V → List am_V → am_M → am_R) (x1 : Int32) (x2 : Int32) (x3 : Int64) (x5 : Int32) (y0 : Int32) (y1 : Int32) (M : am_M) : gX10_judge F0 F1 F2 F3 F4 F5 k 104 [.inr (10, 0), .inl (.int x1), .inl (.int x2), .inl (.long x3), am_D, .inl (.int x5), am_D] [.inl (.int y0), .inl (.int y1)] M =
  if (lg_cmp (Int32.toInt64 x5) x3) = 0 then
   k 118 [.inr (10, 0), .inl (.int x1), .inl (.int x2), .inl (.long x3), am_D, .inl (.int x5), am_D] [.inl (.int 0), .inl (.int (y1 + y0))] M
  else k 118 [.inr (10, 0), .inl (.int x1), .inl (.int x2), .inl (.long x3), am_D, .inl (.int x5), am_D] [.inl (.int 4), .inl (.int (y1 + y0))] M := (rfl)
theorem eX10_judge_104 {n : Nat} {x1 : Int32} {x2 : Int32} {x3 : Int64} {x5 : Int32} {y0 : Int32} {y1 : Int32} {M : am_M} {res : am_O × am_M} (h : (if (lg_cmp (Int32.toInt64 x5) x3) = 0 then
   rX10_judge n 118 [.inr (10, 0), .inl (.int x1), .inl (.int x2), .inl (.long x3), am_D, .inl (.int x5), am_D] [.inl (.int 0), .inl (.int (y1 + y0))] M
  else rX10_judge n 118 [.inr (10, 0), .inl (.int x1), .inl (.int x2), .inl (.long x3), am_D, .inl (.int x5), am_D] [.inl (.int 4), .inl (.int (y1 + y0))] M) = some res) : rX10_judge (n + 100) 104 [.inr (10, 0), .inl (.int x1), .inl (.int x2), .inl (.long x3), am_D, .inl (.int x5), am_D] [.inl (.int y0), .inl (.int y1)] M = some res := uX10_judge ((gX10_judge_104 fX10_resultOf fX10_byCurve fX10_of fX10_leave fX10_remember fX10_release (rX10_judge n) x1 x2 x3 x5 y0 y1 M).trans h)
set_option maxRecDepth 20000 in
theorem gX10_judge_118 (F0 F1 F2 F3 F4 F5 : am_F) (k : Nat → List am_V → List am_V → am_M → am_R) (x1 : Int32) (x2 : Int32) (x3 : Int64) (x5 : Int32) (y0 : Int32) (y1 : Int32) (M : am_M) : gX10_judge F0 F1 F2 F3 F4 F5 k 118 [.inr (10, 0), .inl (.int x1), .inl (.int x2), .inl (.long x3), am_D, .inl (.int x5), am_D] [.inl (.int y0), .inl (.int y1)] M =
  if am_in x1 40 then
   if (M 50 0 (Int32.toNatClampNeg x1)) = 2 then
    k 135 [.inr (10, 0), .inl (.int x1), .inl (.int x2), .inl (.long x3), am_D, .inl (.int x5), am_D] [.inl (.int 8), .inl (.int (y1 + y0))] M
   else k 135 [.inr (10, 0), .inl (.int x1), .inl (.int x2), .inl (.long x3), am_D, .inl (.int x5), am_D] [.inl (.int 0), .inl (.int (y1 + y0))] M
  else none := (rfl)
theorem eX10_judge_118 {n : Nat} {x1 : Int32} {x2 : Int32} {x3 : Int64} {x5 : Int32} {y0 : Int32} {y1 : Int32} {M : am_M} {res : am_O × am_M} (h : (if am_in x1 40 then
   if (M 50 0 (Int32.toNatClampNeg x1)) = 2 then
    rX10_judge n 135 [.inr (10, 0), .inl (.int x1), .inl (.int x2), .inl (.long x3), am_D, .inl (.int x5), am_D] [.inl (.int 8), .inl (.int (y1 + y0))] M
   else rX10_judge n 135 [.inr (10, 0), .inl (.int x1), .inl (.int x2), .inl (.long x3), am_D, .inl (.int x5), am_D] [.inl (.int 0), .inl (.int (y1 + y0))] M
  else none) = some res) : rX10_judge (n + 100) 118 [.inr (10, 0), .inl (.int x1), .inl (.int x2), .inl (.long x3), am_D, .inl (.int x5), am_D] [.inl (.int y0), .inl (.int y1)] M = some res := uX10_judge ((gX10_judge_118 fX10_resultOf fX10_byCurve fX10_of fX10_leave fX10_remember fX10_release (rX10_judge n) x1 x2 x3 x5 y0 y1 M).trans h)
set_option maxRecDepth 20000 in
theorem gX10_judge_135 (F0 F1 F2 F3 F4 F5 : am_F) (k : Nat → List am_V → List am_V → am_M → am_R) (x1 : Int32) (x2 : Int32) (x3 : Int64) (x5 : Int32) (y0 : Int32) (y1 : Int32) (M : am_M) : gX10_judge F0 F1 F2 F3 F4 F5 k 135 [.inr (10, 0), .inl (.int x1), .inl (.int x2), .inl (.long x3), am_D, .inl (.int x5), am_D] [.inl (.int y0), .inl (.int y1)] M =
  if am_in x1 40 then
   if (am_b (M 53 0 (Int32.toNatClampNeg x1))) = 0 then
    k 151 [.inr (10, 0), .inl (.int x1), .inl (.int x2), .inl (.long x3), am_D, .inl (.int x5), am_D] [.inl (.int 0), .inl (.int (y1 + y0))] M
   else k 151 [.inr (10, 0), .inl (.int x1), .inl (.int x2), .inl (.long x3), am_D, .inl (.int x5), am_D] [.inl (.int 16), .inl (.int (y1 + y0))] M
  else none := (rfl)
theorem eX10_judge_135 {n : Nat} {x1 : Int32} {x2 : Int32} {x3 : Int64} {x5 : Int32} {y0 : Int32} {y1 : Int32} {M : am_M} {res : am_O × am_M} (h : (if am_in x1 40 then
   if (am_b (M 53 0 (Int32.toNatClampNeg x1))) = 0 then
    rX10_judge n 151 [.inr (10, 0), .inl (.int x1), .inl (.int x2), .inl (.long x3), am_D, .inl (.int x5), am_D] [.inl (.int 0), .inl (.int (y1 + y0))] M
   else rX10_judge n 151 [.inr (10, 0), .inl (.int x1), .inl (.int x2), .inl (.long x3), am_D, .inl (.int x5), am_D] [.inl (.int 16), .inl (.int (y1 + y0))] M
  else none) = some res) : rX10_judge (n + 100) 135 [.inr (10, 0), .inl (.int x1), .inl (.int x2), .inl (.long x3), am_D, .inl (.int x5), am_D] [.inl (.int y0), .inl (.int y1)] M = some res := uX10_judge ((gX10_judge_135 fX10_resultOf fX10_byCurve fX10_of fX10_leave fX10_remember fX10_release (rX10_judge n) x1 x2 x3 x5 y0 y1 M).trans h)
set_option maxRecDepth 20000 in
theorem gX10_judge_151 (F0 F1 F2 F3 F4 F5 : am_F) (k : Nat → List am_V → List am_V → am_M → am_R) (x1 : Int32) (x2 : Int32) (x3 : Int64) (x5 : Int32) (y0 : Int32) (y1 : Int32) (M : am_M) : gX10_judge F0 F1 F2 F3 F4 F5 k 151 [.inr (10, 0), .inl (.int x1), .inl (.int x2), .inl (.long x3), am_D, .inl (.int x5), am_D] [.inl (.int y0), .inl (.int y1)] M =
  am_ret [] 156 [] (k 159 [.inr (10, 0), .inl (.int x1), .inl (.int x2), .inl (.long x3), am_D, .inl (.int x5), .inl (.int (y1 + y0))]) (F3 [.inr (10, 0), .inl (.int x1)] M) := (rfl)
theorem eX10_judge_151 {n : Nat} {x1 : Int32} {x2 : Int32} {x3 : Int64} {x5 : Int32} {y0 : Int32} {y1 : Int32} {M : am_M} {res : am_O × am_M} (h : (am_ret [] 156 [] (rX10_judge n 159 [.inr (10, 0), .inl (.int x1), .inl (.int x2), .inl (.long x3), am_D, .inl (.int x5), .inl (.int (y1 + y0))]) (fX10_leave [.inr (10, 0), .inl (.int x1)] M)) = some res) : rX10_judge (n + 100) 151 [.inr (10, 0), .inl (.int x1), .inl (.int x2), .inl (.long x3), am_D, .inl (.int x5), am_D] [.inl (.int y0), .inl (.int y1)] M = some res := uX10_judge ((gX10_judge_151 fX10_resultOf fX10_byCurve fX10_of fX10_leave fX10_remember fX10_release (rX10_judge n) x1 x2 x3 x5 y0 y1 M).trans h)
set_option maxRecDepth 20000 in
theorem gX10_judge_159 (F0 F1 F2 F3 F4 F5 : am_F) (k : Nat → List am_V → List am_V → am_M → am_R) (x1 : Int32) (x2 : Int32) (x3 : Int64) (x5 : Int32) (x6 : Int32) (M : am_M) : gX10_judge F0 F1 F2 F3 F4 F5 k 159 [.inr (10, 0), .inl (.int x1), .inl (.int x2), .inl (.long x3), am_D, .inl (.int x5), .inl (.int x6)] [] M =
  if am_in x1 40 then
   if (am_b (M 54 0 (Int32.toNatClampNeg x1))) = 0 then
    if am_in x1 40 then
     if (M 50 0 (Int32.toNatClampNeg x1)) = 1 then
      am_ret [] 201 [] (k 204 [.inr (10, 0), .inl (.int x1), .inl (.int x2), .inl (.long x3), am_D, .inl (.int x5), .inl (.int x6)]) (F2 [.inr (10, 0), .inl (.int x2), .inl (.int 12)] M)
     else am_ret [] 271 [] (k 274 [.inr (10, 0), .inl (.int x1), .inl (.int x2), .inl (.long x3), am_D, .inl (.int x5), .inl (.int x6)]) (F5 [.inr (10, 0), .inl (.int x1), .inl (.int x5), .inl (.int x6)] M)
    else none
   else am_ret [] 172 [] (k 175 [.inr (10, 0), .inl (.int x1), .inl (.int x2), .inl (.long x3), am_D, .inl (.int x5), .inl (.int x6)]) (F4 [.inr (10, 0), .inl (.int x2), .inl (.int x5)] M)
  else none := (rfl)
theorem eX10_judge_159 {n : Nat} {x1 : Int32} {x2 : Int32} {x3 : Int64} {x5 : Int32} {x6 : Int32} {M : am_M} {res : am_O × am_M} (h : (if am_in x1 40 then
   if (am_b (M 54 0 (Int32.toNatClampNeg x1))) = 0 then
    if am_in x1 40 then
     if (M 50 0 (Int32.toNatClampNeg x1)) = 1 then
      am_ret [] 201 [] (rX10_judge n 204 [.inr (10, 0), .inl (.int x1), .inl (.int x2), .inl (.long x3), am_D, .inl (.int x5), .inl (.int x6)]) (fX10_of [.inr (10, 0), .inl (.int x2), .inl (.int 12)] M)
     else am_ret [] 271 [] (rX10_judge n 274 [.inr (10, 0), .inl (.int x1), .inl (.int x2), .inl (.long x3), am_D, .inl (.int x5), .inl (.int x6)]) (fX10_release [.inr (10, 0), .inl (.int x1), .inl (.int x5), .inl (.int x6)] M)
    else none
   else am_ret [] 172 [] (rX10_judge n 175 [.inr (10, 0), .inl (.int x1), .inl (.int x2), .inl (.long x3), am_D, .inl (.int x5), .inl (.int x6)]) (fX10_remember [.inr (10, 0), .inl (.int x2), .inl (.int x5)] M)
  else none) = some res) : rX10_judge (n + 100) 159 [.inr (10, 0), .inl (.int x1), .inl (.int x2), .inl (.long x3), am_D, .inl (.int x5), .inl (.int x6)] [] M = some res := uX10_judge ((gX10_judge_159 fX10_resultOf fX10_byCurve fX10_of fX10_leave fX10_remember fX10_release (rX10_judge n) x1 x2 x3 x5 x6 M).trans h)
set_option maxRecDepth 20000 in
theorem gX10_judge_204 (F0 F1 F2 F3 F4 F5 : am_F) (k : Nat → List am_V → List am_V → am_M → am_R) (x1 : Int32) (x2 : Int32) (x3 : Int64) (x5 : Int32) (x6 : Int32) (y0 : Int32) (M : am_M) : gX10_judge F0 F1 F2 F3 F4 F5 k 204 [.inr (10, 0), .inl (.int x1), .inl (.int x2), .inl (.long x3), am_D, .inl (.int x5), .inl (.int x6)] [.inl (.int y0)] M =
  if y0 = 2 then
   if (x6 &&& 2) = 0 then
    am_ret [] 219 [] (k 222 [.inr (10, 0), .inl (.int x1), .inl (.int x2), .inl (.long x3), am_D, .inl (.int x5), .inl (.int x6)]) (F2 [.inr (10, 0), .inl (.int x2), .inl (.int 12)] M)
   else if am_in x1 40 then
    am_ret [] 249 [.inl (.int x1), .inr (53, 0)] (k 252 [.inr (10, 0), .inl (.int x1), .inl (.int x2), .inl (.long x3), am_D, .inl (.int x5), .inl (.int x6)]) (F2 [.inr (10, 0), .inl (.int x2), .inl (.int 12)] (am_put M 48 0 (Int32.toNatClampNeg x1) 0))
   else none
  else am_ret [] 219 [] (k 222 [.inr (10, 0), .inl (.int x1), .inl (.int x2), .inl (.long x3), am_D, .inl (.int x5), .inl (.int x6)]) (F2 [.inr (10, 0), .inl (.int x2), .inl (.int 12)] M) := (rfl)
theorem eX10_judge_204 {n : Nat} {x1 : Int32} {x2 : Int32} {x3 : Int64} {x5 : Int32} {x6 : Int32} {y0 : Int32} {M : am_M} {res : am_O × am_M} (h : (if y0 = 2 then
   if (x6 &&& 2) = 0 then
    am_ret [] 219 [] (rX10_judge n 222 [.inr (10, 0), .inl (.int x1), .inl (.int x2), .inl (.long x3), am_D, .inl (.int x5), .inl (.int x6)]) (fX10_of [.inr (10, 0), .inl (.int x2), .inl (.int 12)] M)
   else if am_in x1 40 then
    am_ret [] 249 [.inl (.int x1), .inr (53, 0)] (rX10_judge n 252 [.inr (10, 0), .inl (.int x1), .inl (.int x2), .inl (.long x3), am_D, .inl (.int x5), .inl (.int x6)]) (fX10_of [.inr (10, 0), .inl (.int x2), .inl (.int 12)] (am_put M 48 0 (Int32.toNatClampNeg x1) 0))
   else none
  else am_ret [] 219 [] (rX10_judge n 222 [.inr (10, 0), .inl (.int x1), .inl (.int x2), .inl (.long x3), am_D, .inl (.int x5), .inl (.int x6)]) (fX10_of [.inr (10, 0), .inl (.int x2), .inl (.int 12)] M)) = some res) : rX10_judge (n + 100) 204 [.inr (10, 0), .inl (.int x1), .inl (.int x2), .inl (.long x3), am_D, .inl (.int x5), .inl (.int x6)] [.inl (.int y0)] M = some res := uX10_judge ((gX10_judge_204 fX10_resultOf fX10_byCurve fX10_of fX10_leave fX10_remember fX10_release (rX10_judge n) x1 x2 x3 x5 x6 y0 M).trans h)
set_option maxRecDepth 20000 in
theorem gX10_judge_274 (F0 F1 F2 F3 F4 F5 : am_F) (k : Nat → List am_V → List am_V → am_M → am_R) (x1 : Int32) (x2 : Int32) (x3 : Int64) (x5 : Int32) (x6 : Int32) (M : am_M) : gX10_judge F0 F1 F2 F3 F4 F5 k 274 [.inr (10, 0), .inl (.int x1), .inl (.int x2), .inl (.long x3), am_D, .inl (.int x5), .inl (.int x6)] [] M =
  some (.inl none, M) := (rfl)
theorem eX10_judge_274 {n : Nat} {x1 : Int32} {x2 : Int32} {x3 : Int64} {x5 : Int32} {x6 : Int32} {M : am_M} {res : am_O × am_M} (h : (some (.inl none, M)) = some res) : rX10_judge (n + 100) 274 [.inr (10, 0), .inl (.int x1), .inl (.int x2), .inl (.long x3), am_D, .inl (.int x5), .inl (.int x6)] [] M = some res := uX10_judge ((gX10_judge_274 fX10_resultOf fX10_byCurve fX10_of fX10_leave fX10_remember fX10_release (rX10_judge n) x1 x2 x3 x5 x6 M).trans h)
set_option maxRecDepth 20000 in
theorem gX10_judge_175 (F0 F1 F2 F3 F4 F5 : am_F) (k : Nat → List am_V → List am_V → am_M → am_R) (x1 : Int32) (x2 : Int32) (x3 : Int64) (x5 : Int32) (x6 : Int32) (M : am_M) : gX10_judge F0 F1 F2 F3 F4 F5 k 175 [.inr (10, 0), .inl (.int x1), .inl (.int x2), .inl (.long x3), am_D, .inl (.int x5), .inl (.int x6)] [] M =
  am_ret [] 181 [] (k 184 [.inr (10, 0), .inl (.int x1), .inl (.int x2), .inl (.long x3), am_D, .inl (.int x5), .inl (.int x6)]) (F5 [.inr (10, 0), .inl (.int x1), .inl (.int x5), .inl (.int x6)] M) := (rfl)
theorem eX10_judge_175 {n : Nat} {x1 : Int32} {x2 : Int32} {x3 : Int64} {x5 : Int32} {x6 : Int32} {M : am_M} {res : am_O × am_M} (h : (am_ret [] 181 [] (rX10_judge n 184 [.inr (10, 0), .inl (.int x1), .inl (.int x2), .inl (.long x3), am_D, .inl (.int x5), .inl (.int x6)]) (fX10_release [.inr (10, 0), .inl (.int x1), .inl (.int x5), .inl (.int x6)] M)) = some res) : rX10_judge (n + 100) 175 [.inr (10, 0), .inl (.int x1), .inl (.int x2), .inl (.long x3), am_D, .inl (.int x5), .inl (.int x6)] [] M = some res := uX10_judge ((gX10_judge_175 fX10_resultOf fX10_byCurve fX10_of fX10_leave fX10_remember fX10_release (rX10_judge n) x1 x2 x3 x5 x6 M).trans h)
set_option maxRecDepth 20000 in
theorem gX10_judge_222 (F0 F1 F2 F3 F4 F5 : am_F) (k : Nat → List am_V → List am_V → am_M → am_R) (x1 : Int32) (x2 : Int32) (x3 : Int64) (x5 : Int32) (x6 : Int32) (y0 : Int32) (M : am_M) : gX10_judge F0 F1 F2 F3 F4 F5 k 222 [.inr (10, 0), .inl (.int x1), .inl (.int x2), .inl (.long x3), am_D, .inl (.int x5), .inl (.int x6)] [.inl (.int y0)] M =
  if y0 = 1 then
   if (x6 &&& 3) = 0 then
    am_ret [] 271 [] (k 274 [.inr (10, 0), .inl (.int x1), .inl (.int x2), .inl (.long x3), am_D, .inl (.int x5), .inl (.int x6)]) (F5 [.inr (10, 0), .inl (.int x1), .inl (.int x5), .inl (.int x6)] M)
   else if am_in x1 40 then
    am_ret [] 249 [.inl (.int x1), .inr (53, 0)] (k 252 [.inr (10, 0), .inl (.int x1), .inl (.int x2), .inl (.long x3), am_D, .inl (.int x5), .inl (.int x6)]) (F2 [.inr (10, 0), .inl (.int x2), .inl (.int 12)] (am_put M 48 0 (Int32.toNatClampNeg x1) 0))
   else none
  else am_ret [] 271 [] (k 274 [.inr (10, 0), .inl (.int x1), .inl (.int x2), .inl (.long x3), am_D, .inl (.int x5), .inl (.int x6)]) (F5 [.inr (10, 0), .inl (.int x1), .inl (.int x5), .inl (.int x6)] M) := (rfl)
theorem eX10_judge_222 {n : Nat} {x1 : Int32} {x2 : Int32} {x3 : Int64} {x5 : Int32} {x6 : Int32} {y0 : Int32} {M : am_M} {res : am_O × am_M} (h : (if y0 = 1 then
   if (x6 &&& 3) = 0 then
    am_ret [] 271 [] (rX10_judge n 274 [.inr (10, 0), .inl (.int x1), .inl (.int x2), .inl (.long x3), am_D, .inl (.int x5), .inl (.int x6)]) (fX10_release [.inr (10, 0), .inl (.int x1), .inl (.int x5), .inl (.int x6)] M)
   else if am_in x1 40 then
    am_ret [] 249 [.inl (.int x1), .inr (53, 0)] (rX10_judge n 252 [.inr (10, 0), .inl (.int x1), .inl (.int x2), .inl (.long x3), am_D, .inl (.int x5), .inl (.int x6)]) (fX10_of [.inr (10, 0), .inl (.int x2), .inl (.int 12)] (am_put M 48 0 (Int32.toNatClampNeg x1) 0))
   else none
  else am_ret [] 271 [] (rX10_judge n 274 [.inr (10, 0), .inl (.int x1), .inl (.int x2), .inl (.long x3), am_D, .inl (.int x5), .inl (.int x6)]) (fX10_release [.inr (10, 0), .inl (.int x1), .inl (.int x5), .inl (.int x6)] M)) = some res) : rX10_judge (n + 100) 222 [.inr (10, 0), .inl (.int x1), .inl (.int x2), .inl (.long x3), am_D, .inl (.int x5), .inl (.int x6)] [.inl (.int y0)] M = some res := uX10_judge ((gX10_judge_222 fX10_resultOf fX10_byCurve fX10_of fX10_leave fX10_remember fX10_release (rX10_judge n) x1 x2 x3 x5 x6 y0 M).trans h)
set_option maxRecDepth 20000 in
theorem gX10_judge_252 (F0 F1 F2 F3 F4 F5 : am_F) (k : Nat → List am_V → List am_V → am_M → am_R) (x1 : Int32) (x2 : Int32) (x3 : Int64) (x5 : Int32) (x6 : Int32) (y0 : Int32) (y1 : Int32) (M : am_M) : gX10_judge F0 F1 F2 F3 F4 F5 k 252 [.inr (10, 0), .inl (.int x1), .inl (.int x2), .inl (.long x3), am_D, .inl (.int x5), .inl (.int x6)] [.inl (.int y0), .inl (.int y1), .inr (53, 0)] M =
  if y0 = 2 then
   k 261 [.inr (10, 0), .inl (.int x1), .inl (.int x2), .inl (.long x3), am_D, .inl (.int x5), .inl (.int x6)] [.inl (.int 1), .inl (.int y1), .inr (53, 0)] M
  else k 261 [.inr (10, 0), .inl (.int x1), .inl (.int x2), .inl (.long x3), am_D, .inl (.int x5), .inl (.int x6)] [.inl (.int 0), .inl (.int y1), .inr (53, 0)] M := (rfl)
theorem eX10_judge_252 {n : Nat} {x1 : Int32} {x2 : Int32} {x3 : Int64} {x5 : Int32} {x6 : Int32} {y0 : Int32} {y1 : Int32} {M : am_M} {res : am_O × am_M} (h : (if y0 = 2 then
   rX10_judge n 261 [.inr (10, 0), .inl (.int x1), .inl (.int x2), .inl (.long x3), am_D, .inl (.int x5), .inl (.int x6)] [.inl (.int 1), .inl (.int y1), .inr (53, 0)] M
  else rX10_judge n 261 [.inr (10, 0), .inl (.int x1), .inl (.int x2), .inl (.long x3), am_D, .inl (.int x5), .inl (.int x6)] [.inl (.int 0), .inl (.int y1), .inr (53, 0)] M) = some res) : rX10_judge (n + 100) 252 [.inr (10, 0), .inl (.int x1), .inl (.int x2), .inl (.long x3), am_D, .inl (.int x5), .inl (.int x6)] [.inl (.int y0), .inl (.int y1), .inr (53, 0)] M = some res := uX10_judge ((gX10_judge_252 fX10_resultOf fX10_byCurve fX10_of fX10_leave fX10_remember fX10_release (rX10_judge n) x1 x2 x3 x5 x6 y0 y1 M).trans h)
set_option maxRecDepth 20000 in
theorem gX10_judge_184 (F0 F1 F2 F3 F4 F5 : am_F) (k : Nat → List am_V → List am_V → am_M → am_R) (x1 : Int32) (x2 : Int32) (x3 : Int64) (x5 : Int32) (x6 : Int32) (M : am_M) : gX10_judge F0 F1 F2 F3 F4 F5 k 184 [.inr (10, 0), .inl (.int x1), .inl (.int x2), .inl (.long x3), am_D, .inl (.int x5), .inl (.int x6)] [] M =
  k 274 [.inr (10, 0), .inl (.int x1), .inl (.int x2), .inl (.long x3), am_D, .inl (.int x5), .inl (.int x6)] [] M := (rfl)
theorem eX10_judge_184 {n : Nat} {x1 : Int32} {x2 : Int32} {x3 : Int64} {x5 : Int32} {x6 : Int32} {M : am_M} {res : am_O × am_M} (h : (rX10_judge n 274 [.inr (10, 0), .inl (.int x1), .inl (.int x2), .inl (.long x3), am_D, .inl (.int x5), .inl (.int x6)] [] M) = some res) : rX10_judge (n + 100) 184 [.inr (10, 0), .inl (.int x1), .inl (.int x2), .inl (.long x3), am_D, .inl (.int x5), .inl (.int x6)] [] M = some res := uX10_judge ((gX10_judge_184 fX10_resultOf fX10_byCurve fX10_of fX10_leave fX10_remember fX10_release (rX10_judge n) x1 x2 x3 x5 x6 M).trans h)
set_option maxRecDepth 20000 in
theorem gX10_judge_261 (F0 F1 F2 F3 F4 F5 : am_F) (k : Nat → List am_V → List am_V → am_M → am_R) (x1 : Int32) (x2 : Int32) (x3 : Int64) (x5 : Int32) (x6 : Int32) (y0 : Int32) (y1 : Int32) (M : am_M) : gX10_judge F0 F1 F2 F3 F4 F5 k 261 [.inr (10, 0), .inl (.int x1), .inl (.int x2), .inl (.long x3), am_D, .inl (.int x5), .inl (.int x6)] [.inl (.int y0), .inl (.int y1), .inr (53, 0)] M =
  if am_in y1 40 ∧ am_b y0 = y0 then
   k 274 [.inr (10, 0), .inl (.int x1), .inl (.int x2), .inl (.long x3), am_D, .inl (.int x5), .inl (.int x6)] [] (am_put M 53 0 (Int32.toNatClampNeg y1) y0)
  else none := (rfl)
theorem eX10_judge_261 {n : Nat} {x1 : Int32} {x2 : Int32} {x3 : Int64} {x5 : Int32} {x6 : Int32} {y0 : Int32} {y1 : Int32} {M : am_M} {res : am_O × am_M} (h : (if am_in y1 40 ∧ am_b y0 = y0 then
   rX10_judge n 274 [.inr (10, 0), .inl (.int x1), .inl (.int x2), .inl (.long x3), am_D, .inl (.int x5), .inl (.int x6)] [] (am_put M 53 0 (Int32.toNatClampNeg y1) y0)
  else none) = some res) : rX10_judge (n + 100) 261 [.inr (10, 0), .inl (.int x1), .inl (.int x2), .inl (.long x3), am_D, .inl (.int x5), .inl (.int x6)] [.inl (.int y0), .inl (.int y1), .inr (53, 0)] M = some res := uX10_judge ((gX10_judge_261 fX10_resultOf fX10_byCurve fX10_of fX10_leave fX10_remember fX10_release (rX10_judge n) x1 x2 x3 x5 x6 y0 y1 M).trans h)
def rX10_goOn (n pc : Nat) (ls st : List am_V) (M : am_M) : am_R := am_run [] [] 0 am_X0 pX10_goOn n pc ls st M
def gX10_goOn (k : Nat → List am_V → List am_V → am_M → am_R) (pc : Nat) (ls st : List am_V) (M : am_M) : am_R := am_go [] [] 0 am_X0 pX10_goOn [2, 35] k 100 pc ls st M
theorem uX10_goOn {n pc : Nat} {ls st : List am_V} {M : am_M} {res : am_O × am_M} (h : gX10_goOn (rX10_goOn n) pc ls st M = some res) : rX10_goOn (n + 100) pc ls st M = some res := am_go_ok h
theorem eX10_goOn (M : am_M) : fX10_goOn [.inr (10, 0)] M = rX10_goOn 100000 0 [.inr (10, 0), am_D] [] M := am_meth_eq rfl rfl
set_option maxRecDepth 20000 in
theorem gX10_goOn_0 (k : Nat → List am_V → List am_V → am_M → am_R) (M : am_M) : gX10_goOn k 0 [.inr (10, 0), am_D] [] M =
  k 2 [.inr (10, 0), .inl (.int 0)] [] M := (rfl)
theorem eX10_goOn_0 {n : Nat} {M : am_M} {res : am_O × am_M} (h : (rX10_goOn n 2 [.inr (10, 0), .inl (.int 0)] [] M) = some res) : rX10_goOn (n + 100) 0 [.inr (10, 0), am_D] [] M = some res := uX10_goOn ((gX10_goOn_0 (rX10_goOn n) M).trans h)
set_option maxRecDepth 20000 in
theorem gX10_goOn_2 (k : Nat → List am_V → List am_V → am_M → am_R) (x1 : Int32) (M : am_M) : gX10_goOn k 2 [.inr (10, 0), .inl (.int x1)] [] M =
  if 10 ≤ x1 then
   k 35 [.inr (10, 0), .inl (.int 0)] [] M
  else if am_in x1 10 then
   if (M 59 0 (Int32.toNatClampNeg x1)) ≤ 0 then
    k 2 [.inr (10, 0), .inl (.int (x1 + 1))] [] M
   else if am_in x1 10 then
    if am_in x1 10 then
     k 2 [.inr (10, 0), .inl (.int (x1 + 1))] [] (am_put M 59 0 (Int32.toNatClampNeg x1) ((M 59 0 (Int32.toNatClampNeg x1)) - 1))
    else none
   else none
  else none := (rfl)
theorem eX10_goOn_2 {n : Nat} {x1 : Int32} {M : am_M} {res : am_O × am_M} (h : (if 10 ≤ x1 then
   rX10_goOn n 35 [.inr (10, 0), .inl (.int 0)] [] M
  else if am_in x1 10 then
   if (M 59 0 (Int32.toNatClampNeg x1)) ≤ 0 then
    rX10_goOn n 2 [.inr (10, 0), .inl (.int (x1 + 1))] [] M
   else if am_in x1 10 then
    if am_in x1 10 then
     rX10_goOn n 2 [.inr (10, 0), .inl (.int (x1 + 1))] [] (am_put M 59 0 (Int32.toNatClampNeg x1) ((M 59 0 (Int32.toNatClampNeg x1)) - 1))
    else none
   else none
  else none) = some res) : rX10_goOn (n + 100) 2 [.inr (10, 0), .inl (.int x1)] [] M = some res := uX10_goOn ((gX10_goOn_2 (rX10_goOn n) x1 M).trans h)
set_option maxRecDepth 20000 in
theorem gX10_goOn_35 (k : Nat → List am_V → List am_V → am_M → am_R) (x1 : Int32) (M : am_M) : gX10_goOn k 35 [.inr (10, 0), .inl (.int x1)] [] M =
  if (M 10 0 14) ≤ x1 then
   some (.inl none, M)
  else if am_in x1 40 then
   if (M 48 0 (Int32.toNatClampNeg x1)) = 1 then
    if am_in x1 40 then
     if am_in x1 40 then
      k 35 [.inr (10, 0), .inl (.int (x1 + 1))] [] (am_put M 52 0 (Int32.toNatClampNeg x1) ((M 52 0 (Int32.toNatClampNeg x1)) + 1))
     else none
    else none
   else k 35 [.inr (10, 0), .inl (.int (x1 + 1))] [] M
  else none := (rfl)
theorem eX10_goOn_35 {n : Nat} {x1 : Int32} {M : am_M} {res : am_O × am_M} (h : (if (M 10 0 14) ≤ x1 then
   some (.inl none, M)
  else if am_in x1 40 then
   if (M 48 0 (Int32.toNatClampNeg x1)) = 1 then
    if am_in x1 40 then
     if am_in x1 40 then
      rX10_goOn n 35 [.inr (10, 0), .inl (.int (x1 + 1))] [] (am_put M 52 0 (Int32.toNatClampNeg x1) ((M 52 0 (Int32.toNatClampNeg x1)) + 1))
     else none
    else none
   else rX10_goOn n 35 [.inr (10, 0), .inl (.int (x1 + 1))] [] M
  else none) = some res) : rX10_goOn (n + 100) 35 [.inr (10, 0), .inl (.int x1)] [] M = some res := uX10_goOn ((gX10_goOn_35 (rX10_goOn n) x1 M).trans h)
def rX10_measure (n pc : Nat) (ls st : List am_V) (M : am_M) : am_R := am_run [fX10_of, fX10_absorbance] [] 0 am_X0 pX10_measure n pc ls st M
def gX10_measure (F0 F1 : am_F) (k : Nat → List am_V → List am_V → am_M → am_R) (pc : Nat) (ls st : List am_V) (M : am_M) : am_R := am_go [F0, F1] [] 0 am_X0 pX10_measure [2, 38, 59, 84] k 100 pc ls st M
theorem uX10_measure {n pc : Nat} {ls st : List am_V} {M : am_M} {res : am_O × am_M} (h : gX10_measure fX10_of fX10_absorbance (rX10_measure n) pc ls st M = some res) : rX10_measure (n + 100) pc ls st M = some res := am_go_ok h
theorem eX10_measure (M : am_M) : fX10_measure [.inr (10, 0)] M = rX10_measure 100000 0 [.inr (10, 0), am_D] [] M := am_meth_eq rfl rfl
set_option maxRecDepth 20000 in
theorem gX10_measure_0 (F0 F1 : am_F) (k : Nat → List am_V → List am_V → am_M → am_R) (M : am_M) : gX10_measure F0 F1 k 0 [.inr (10, 0), am_D] [] M =
  k 2 [.inr (10, 0), .inl (.int 0)] [] M := (rfl)
theorem eX10_measure_0 {n : Nat} {M : am_M} {res : am_O × am_M} (h : (rX10_measure n 2 [.inr (10, 0), .inl (.int 0)] [] M) = some res) : rX10_measure (n + 100) 0 [.inr (10, 0), am_D] [] M = some res := uX10_measure ((gX10_measure_0 fX10_of fX10_absorbance (rX10_measure n) M).trans h)
set_option maxRecDepth 20000 in
theorem gX10_measure_2 (F0 F1 : am_F) (k : Nat → List am_V → List am_V → am_M → am_R) (x1 : Int32) (M : am_M) : gX10_measure F0 F1 k 2 [.inr (10, 0), .inl (.int x1)] [] M =
  if (M 10 0 14) ≤ x1 then
   some (.inl none, M)
  else if am_in x1 40 then
   if (M 48 0 (Int32.toNatClampNeg x1)) = 1 then
    if am_in x1 40 then
     if am_in x1 40 then
      am_ret [] 35 [.inl (.int (M 52 0 (Int32.toNatClampNeg x1)))] (k 38 [.inr (10, 0), .inl (.int x1)]) (F0 [.inr (10, 0), .inl (.int (M 46 0 (Int32.toNatClampNeg x1))), .inl (.int 7)] M)
     else none
    else none
   else k 2 [.inr (10, 0), .inl (.int (x1 + 1))] [] M
  else none := (rfl)
theorem eX10_measure_2 {n : Nat} {x1 : Int32} {M : am_M} {res : am_O × am_M} (h : (if (M 10 0 14) ≤ x1 then
   some (.inl none, M)
  else if am_in x1 40 then
   if (M 48 0 (Int32.toNatClampNeg x1)) = 1 then
    if am_in x1 40 then
     if am_in x1 40 then
      am_ret [] 35 [.inl (.int (M 52 0 (Int32.toNatClampNeg x1)))] (rX10_measure n 38 [.inr (10, 0), .inl (.int x1)]) (fX10_of [.inr (10, 0), .inl (.int (M 46 0 (Int32.toNatClampNeg x1))), .inl (.int 7)] M)
     else none
    else none
   else rX10_measure n 2 [.inr (10, 0), .inl (.int (x1 + 1))] [] M
  else none) = some res) : rX10_measure (n + 100) 2 [.inr (10, 0), .inl (.int x1)] [] M = some res := uX10_measure ((gX10_measure_2 fX10_of fX10_absorbance (rX10_measure n) x1 M).trans h)
set_option maxRecDepth 20000 in
theorem gX10_measure_38 (F0 F1 : am_F) (k : Nat → List am_V → List am_V → am_M → am_R) (x1 : Int32) (y0 : Int32) (y1 : Int32) (M : am_M) : gX10_measure F0 F1 k 38 [.inr (10, 0), .inl (.int x1)] [.inl (.int y0), .inl (.int y1)] M =
  if y1 < y0 then
   k 2 [.inr (10, 0), .inl (.int (x1 + 1))] [] M
  else if am_in x1 40 then
   if am_in x1 40 then
    am_ret [] 56 [.inl (.int (M 52 0 (Int32.toNatClampNeg x1)))] (k 59 [.inr (10, 0), .inl (.int x1)]) (F0 [.inr (10, 0), .inl (.int (M 46 0 (Int32.toNatClampNeg x1))), .inl (.int 8)] M)
   else none
  else none := (rfl)
theorem eX10_measure_38 {n : Nat} {x1 : Int32} {y0 : Int32} {y1 : Int32} {M : am_M} {res : am_O × am_M} (h : (if y1 < y0 then
   rX10_measure n 2 [.inr (10, 0), .inl (.int (x1 + 1))] [] M
  else if am_in x1 40 then
   if am_in x1 40 then
    am_ret [] 56 [.inl (.int (M 52 0 (Int32.toNatClampNeg x1)))] (rX10_measure n 59 [.inr (10, 0), .inl (.int x1)]) (fX10_of [.inr (10, 0), .inl (.int (M 46 0 (Int32.toNatClampNeg x1))), .inl (.int 8)] M)
   else none
  else none) = some res) : rX10_measure (n + 100) 38 [.inr (10, 0), .inl (.int x1)] [.inl (.int y0), .inl (.int y1)] M = some res := uX10_measure ((gX10_measure_38 fX10_of fX10_absorbance (rX10_measure n) x1 y0 y1 M).trans h)
set_option maxRecDepth 20000 in
theorem gX10_measure_59 (F0 F1 : am_F) (k : Nat → List am_V → List am_V → am_M → am_R) (x1 : Int32) (y0 : Int32) (y1 : Int32) (M : am_M) : gX10_measure F0 F1 k 59 [.inr (10, 0), .inl (.int x1)] [.inl (.int y0), .inl (.int y1)] M =
  if y0 < y1 then
   k 2 [.inr (10, 0), .inl (.int (x1 + 1))] [] M
  else if am_in x1 40 then
   am_ret [] 81 [.inl (.int ((6 * x1) + (M 56 0 (Int32.toNatClampNeg x1)))), .inr (55, 0)] (k 84 [.inr (10, 0), .inl (.int x1)]) (F1 [.inl (.int (M 10 0 44))] M)
  else none := (rfl)
theorem eX10_measure_59 {n : Nat} {x1 : Int32} {y0 : Int32} {y1 : Int32} {M : am_M} {res : am_O × am_M} (h : (if y0 < y1 then
   rX10_measure n 2 [.inr (10, 0), .inl (.int (x1 + 1))] [] M
  else if am_in x1 40 then
   am_ret [] 81 [.inl (.int ((6 * x1) + (M 56 0 (Int32.toNatClampNeg x1)))), .inr (55, 0)] (rX10_measure n 84 [.inr (10, 0), .inl (.int x1)]) (fX10_absorbance [.inl (.int (M 10 0 44))] M)
  else none) = some res) : rX10_measure (n + 100) 59 [.inr (10, 0), .inl (.int x1)] [.inl (.int y0), .inl (.int y1)] M = some res := uX10_measure ((gX10_measure_59 fX10_of fX10_absorbance (rX10_measure n) x1 y0 y1 M).trans h)
set_option maxRecDepth 20000 in
theorem gX10_measure_84 (F0 F1 : am_F) (k : Nat → List am_V → List am_V → am_M → am_R) (x1 : Int32) (y0 : Int32) (y1 : Int32) (M : am_M) : gX10_measure F0 F1 k 84 [.inr (10, 0), .inl (.int x1)] [.inl (.int y0), .inl (.int y1), .inr (55, 0)] M =
  if am_in y1 240 then
   if am_in x1 40 then
    if am_in x1 40 then
     k 2 [.inr (10, 0), .inl (.int (x1 + 1))] [] (am_put (am_put M 55 0 (Int32.toNatClampNeg y1) y0) 56 0 (Int32.toNatClampNeg x1) ((M 56 0 (Int32.toNatClampNeg x1)) + 1))
    else none
   else none
  else none := (rfl)
theorem eX10_measure_84 {n : Nat} {x1 : Int32} {y0 : Int32} {y1 : Int32} {M : am_M} {res : am_O × am_M} (h : (if am_in y1 240 then
   if am_in x1 40 then
    if am_in x1 40 then
     rX10_measure n 2 [.inr (10, 0), .inl (.int (x1 + 1))] [] (am_put (am_put M 55 0 (Int32.toNatClampNeg y1) y0) 56 0 (Int32.toNatClampNeg x1) ((M 56 0 (Int32.toNatClampNeg x1)) + 1))
    else none
   else none
  else none) = some res) : rX10_measure (n + 100) 84 [.inr (10, 0), .inl (.int x1)] [.inl (.int y0), .inl (.int y1), .inr (55, 0)] M = some res := uX10_measure ((gX10_measure_84 fX10_of fX10_absorbance (rX10_measure n) x1 y0 y1 M).trans h)
def rX10_clean (n pc : Nat) (ls st : List am_V) (M : am_M) : am_R := am_run [] [] 1 am_X0 pX10_clean n pc ls st M
def gX10_clean (k : Nat → List am_V → List am_V → am_M → am_R) (pc : Nat) (ls st : List am_V) (M : am_M) : am_R := am_go [] [] 1 am_X0 pX10_clean [2, 25] k 100 pc ls st M
theorem uX10_clean {n pc : Nat} {ls st : List am_V} {M : am_M} {res : am_O × am_M} (h : gX10_clean (rX10_clean n) pc ls st M = some res) : rX10_clean (n + 100) pc ls st M = some res := am_go_ok h
theorem eX10_clean (M : am_M) : fX10_clean [.inr (10, 0)] M = rX10_clean 100000 0 [.inr (10, 0), am_D, am_D, am_D] [] M := am_meth_eq rfl rfl
set_option maxRecDepth 20000 in
theorem gX10_clean_0 (k : Nat → List am_V → List am_V → am_M → am_R) (M : am_M) : gX10_clean k 0 [.inr (10, 0), am_D, am_D, am_D] [] M =
  k 2 [.inr (10, 0), .inl (.int 0), am_D, am_D] [] M := (rfl)
theorem eX10_clean_0 {n : Nat} {M : am_M} {res : am_O × am_M} (h : (rX10_clean n 2 [.inr (10, 0), .inl (.int 0), am_D, am_D] [] M) = some res) : rX10_clean (n + 100) 0 [.inr (10, 0), am_D, am_D, am_D] [] M = some res := uX10_clean ((gX10_clean_0 (rX10_clean n) M).trans h)
set_option maxRecDepth 20000 in
theorem gX10_clean_2 (k : Nat → List am_V → List am_V → am_M → am_R) (x1 : Int32) (x2 : am_V) (x3 : am_V) (M : am_M) : gX10_clean k 2 [.inr (10, 0), .inl (.int x1), x2, x3] [] M =
  if 10 ≤ x1 then
   some (.inl (some (.inl (.int (-1)))), M)
  else if am_in x1 10 then
   if (M 59 0 (Int32.toNatClampNeg x1)) = 0 then
    k 25 [.inr (10, 0), .inl (.int x1), .inl (.int 1), .inl (.int 0)] [] M
   else k 25 [.inr (10, 0), .inl (.int x1), .inl (.int 0), .inl (.int 0)] [] M
  else none := (rfl)
theorem eX10_clean_2 {n : Nat} {x1 : Int32} {x2 : am_V} {x3 : am_V} {M : am_M} {res : am_O × am_M} (h : (if 10 ≤ x1 then
   some (.inl (some (.inl (.int (-1)))), M)
  else if am_in x1 10 then
   if (M 59 0 (Int32.toNatClampNeg x1)) = 0 then
    rX10_clean n 25 [.inr (10, 0), .inl (.int x1), .inl (.int 1), .inl (.int 0)] [] M
   else rX10_clean n 25 [.inr (10, 0), .inl (.int x1), .inl (.int 0), .inl (.int 0)] [] M
  else none) = some res) : rX10_clean (n + 100) 2 [.inr (10, 0), .inl (.int x1), x2, x3] [] M = some res := uX10_clean ((gX10_clean_2 (rX10_clean n) x1 x2 x3 M).trans h)
set_option maxRecDepth 20000 in
theorem gX10_clean_25 (k : Nat → List am_V → List am_V → am_M → am_R) (x1 : Int32) (x2 : Int32) (x3 : Int32) (M : am_M) : gX10_clean k 25 [.inr (10, 0), .inl (.int x1), .inl (.int x2), .inl (.int x3)] [] M =
  if (M 10 0 14) ≤ x3 then
   if x2 = 0 then
    k 2 [.inr (10, 0), .inl (.int (x1 + 1)), .inl (.int x2), .inl (.int x3)] [] M
   else some (.inl (some (.inl (.int x1))), M)
  else if am_in x3 40 then
   if (M 51 0 (Int32.toNatClampNeg x3)) = x1 then
    k 25 [.inr (10, 0), .inl (.int x1), .inl (.int 0), .inl (.int (x3 + 1))] [] M
   else k 25 [.inr (10, 0), .inl (.int x1), .inl (.int x2), .inl (.int (x3 + 1))] [] M
  else none := (rfl)
theorem eX10_clean_25 {n : Nat} {x1 : Int32} {x2 : Int32} {x3 : Int32} {M : am_M} {res : am_O × am_M} (h : (if (M 10 0 14) ≤ x3 then
   if x2 = 0 then
    rX10_clean n 2 [.inr (10, 0), .inl (.int (x1 + 1)), .inl (.int x2), .inl (.int x3)] [] M
   else some (.inl (some (.inl (.int x1))), M)
  else if am_in x3 40 then
   if (M 51 0 (Int32.toNatClampNeg x3)) = x1 then
    rX10_clean n 25 [.inr (10, 0), .inl (.int x1), .inl (.int 0), .inl (.int (x3 + 1))] [] M
   else rX10_clean n 25 [.inr (10, 0), .inl (.int x1), .inl (.int x2), .inl (.int (x3 + 1))] [] M
  else none) = some res) : rX10_clean (n + 100) 25 [.inr (10, 0), .inl (.int x1), .inl (.int x2), .inl (.int x3)] [] M = some res := uX10_clean ((gX10_clean_25 (rX10_clean n) x1 x2 x3 M).trans h)
def rX10_start (n pc : Nat) (ls st : List am_V) (M : am_M) : am_R := am_run [fX10_breaksOff] [] 0 am_X0 pX10_start n pc ls st M
def gX10_start (F0 : am_F) (k : Nat → List am_V → List am_V → am_M → am_R) (pc : Nat) (ls st : List am_V) (M : am_M) : am_R := am_go [F0] [] 0 am_X0 pX10_start [77] k 100 pc ls st M
theorem uX10_start {n pc : Nat} {ls st : List am_V} {M : am_M} {res : am_O × am_M} (h : gX10_start fX10_breaksOff (rX10_start n) pc ls st M = some res) : rX10_start (n + 100) pc ls st M = some res := am_go_ok h
theorem eX10_start (x1 : Int32) (x2 : Int32) (x3 : Int32) (x4 : Int32) (M : am_M) : fX10_start [.inr (10, 0), .inl (.int x1), .inl (.int x2), .inl (.int x3), .inl (.int x4)] M = rX10_start 100000 0 [.inr (10, 0), .inl (.int x1), .inl (.int x2), .inl (.int x3), .inl (.int x4)] [] M := am_meth_eq rfl rfl
set_option maxRecDepth 20000 in
theorem gX10_start_0 (F0 : am_F) (k : Nat → List am_V → List am_V → am_M → am_R) (x1 : Int32) (x2 : Int32) (x3 : Int32) (x4 : Int32) (M : am_M) : gX10_start F0 k 0 [.inr (10, 0), .inl (.int x1), .inl (.int x2), .inl (.int x3), .inl (.int x4)] [] M =
  if am_in x1 40 then
   if am_in x1 40 then
    if am_in x1 40 then
     if am_in x1 40 then
      if am_in x1 40 then
       if am_in x1 40 then
        if am_in x2 6 then
         if (M 38 0 (Int32.toNatClampNeg x2)) = 1 then
          if am_in x1 40 ∧ am_b 1 = 1 then
           if (am_b (M 10 0 46)) = 0 then
            if am_in x2 6 then
             if am_in x2 6 then
              if am_in x3 10 then
               some (.inl none, (am_put (am_put (am_put (am_put (am_put (am_put (am_put (am_put M 48 0 (Int32.toNatClampNeg x1) 1) 50 0 (Int32.toNatClampNeg x1) ((M 50 0 (Int32.toNatClampNeg x1)) + 1)) 51 0 (Int32.toNatClampNeg x1) x3) 52 0 (Int32.toNatClampNeg x1) 0) 56 0 (Int32.toNatClampNeg x1) 0) 54 0 (Int32.toNatClampNeg x1) 1) 39 0 (Int32.toNatClampNeg x2) ((M 39 0 (Int32.toNatClampNeg x2)) - x4)) 60 0 (Int32.toNatClampNeg x3) x4))
              else none
             else none
            else none
           else am_ret [] 74 [] (k 77 [.inr (10, 0), .inl (.int x1), .inl (.int x2), .inl (.int x3), .inl (.int x4)]) (F0 [.inr (10, 0), .inl (.int x1), .inl (.int 3)] (am_put (am_put (am_put (am_put (am_put (am_put (am_put M 48 0 (Int32.toNatClampNeg x1) 1) 50 0 (Int32.toNatClampNeg x1) ((M 50 0 (Int32.toNatClampNeg x1)) + 1)) 51 0 (Int32.toNatClampNeg x1) x3) 52 0 (Int32.toNatClampNeg x1) 0) 56 0 (Int32.toNatClampNeg x1) 0) 54 0 (Int32.toNatClampNeg x1) 1) 10 0 46 0))
          else none
         else if am_in x1 40 ∧ am_b 0 = 0 then
          if (am_b (M 10 0 46)) = 0 then
           if am_in x2 6 then
            if am_in x2 6 then
             if am_in x3 10 then
              some (.inl none, (am_put (am_put (am_put (am_put (am_put (am_put (am_put (am_put M 48 0 (Int32.toNatClampNeg x1) 1) 50 0 (Int32.toNatClampNeg x1) ((M 50 0 (Int32.toNatClampNeg x1)) + 1)) 51 0 (Int32.toNatClampNeg x1) x3) 52 0 (Int32.toNatClampNeg x1) 0) 56 0 (Int32.toNatClampNeg x1) 0) 54 0 (Int32.toNatClampNeg x1) 0) 39 0 (Int32.toNatClampNeg x2) ((M 39 0 (Int32.toNatClampNeg x2)) - x4)) 60 0 (Int32.toNatClampNeg x3) x4))
             else none
            else none
           else none
          else am_ret [] 74 [] (k 77 [.inr (10, 0), .inl (.int x1), .inl (.int x2), .inl (.int x3), .inl (.int x4)]) (F0 [.inr (10, 0), .inl (.int x1), .inl (.int 3)] (am_put (am_put (am_put (am_put (am_put (am_put (am_put M 48 0 (Int32.toNatClampNeg x1) 1) 50 0 (Int32.toNatClampNeg x1) ((M 50 0 (Int32.toNatClampNeg x1)) + 1)) 51 0 (Int32.toNatClampNeg x1) x3) 52 0 (Int32.toNatClampNeg x1) 0) 56 0 (Int32.toNatClampNeg x1) 0) 54 0 (Int32.toNatClampNeg x1) 0) 10 0 46 0))
         else none
        else none
       else none
      else none
     else none
    else none
   else none
  else none := (rfl)
theorem eX10_start_0 {n : Nat} {x1 : Int32} {x2 : Int32} {x3 : Int32} {x4 : Int32} {M : am_M} {res : am_O × am_M} (h : (if am_in x1 40 then
   if am_in x1 40 then
    if am_in x1 40 then
     if am_in x1 40 then
      if am_in x1 40 then
       if am_in x1 40 then
        if am_in x2 6 then
         if (M 38 0 (Int32.toNatClampNeg x2)) = 1 then
          if am_in x1 40 ∧ am_b 1 = 1 then
           if (am_b (M 10 0 46)) = 0 then
            if am_in x2 6 then
             if am_in x2 6 then
              if am_in x3 10 then
               some (.inl none, (am_put (am_put (am_put (am_put (am_put (am_put (am_put (am_put M 48 0 (Int32.toNatClampNeg x1) 1) 50 0 (Int32.toNatClampNeg x1) ((M 50 0 (Int32.toNatClampNeg x1)) + 1)) 51 0 (Int32.toNatClampNeg x1) x3) 52 0 (Int32.toNatClampNeg x1) 0) 56 0 (Int32.toNatClampNeg x1) 0) 54 0 (Int32.toNatClampNeg x1) 1) 39 0 (Int32.toNatClampNeg x2) ((M 39 0 (Int32.toNatClampNeg x2)) - x4)) 60 0 (Int32.toNatClampNeg x3) x4))
              else none
             else none
            else none
           else am_ret [] 74 [] (rX10_start n 77 [.inr (10, 0), .inl (.int x1), .inl (.int x2), .inl (.int x3), .inl (.int x4)]) (fX10_breaksOff [.inr (10, 0), .inl (.int x1), .inl (.int 3)] (am_put (am_put (am_put (am_put (am_put (am_put (am_put M 48 0 (Int32.toNatClampNeg x1) 1) 50 0 (Int32.toNatClampNeg x1) ((M 50 0 (Int32.toNatClampNeg x1)) + 1)) 51 0 (Int32.toNatClampNeg x1) x3) 52 0 (Int32.toNatClampNeg x1) 0) 56 0 (Int32.toNatClampNeg x1) 0) 54 0 (Int32.toNatClampNeg x1) 1) 10 0 46 0))
          else none
         else if am_in x1 40 ∧ am_b 0 = 0 then
          if (am_b (M 10 0 46)) = 0 then
           if am_in x2 6 then
            if am_in x2 6 then
             if am_in x3 10 then
              some (.inl none, (am_put (am_put (am_put (am_put (am_put (am_put (am_put (am_put M 48 0 (Int32.toNatClampNeg x1) 1) 50 0 (Int32.toNatClampNeg x1) ((M 50 0 (Int32.toNatClampNeg x1)) + 1)) 51 0 (Int32.toNatClampNeg x1) x3) 52 0 (Int32.toNatClampNeg x1) 0) 56 0 (Int32.toNatClampNeg x1) 0) 54 0 (Int32.toNatClampNeg x1) 0) 39 0 (Int32.toNatClampNeg x2) ((M 39 0 (Int32.toNatClampNeg x2)) - x4)) 60 0 (Int32.toNatClampNeg x3) x4))
             else none
            else none
           else none
          else am_ret [] 74 [] (rX10_start n 77 [.inr (10, 0), .inl (.int x1), .inl (.int x2), .inl (.int x3), .inl (.int x4)]) (fX10_breaksOff [.inr (10, 0), .inl (.int x1), .inl (.int 3)] (am_put (am_put (am_put (am_put (am_put (am_put (am_put M 48 0 (Int32.toNatClampNeg x1) 1) 50 0 (Int32.toNatClampNeg x1) ((M 50 0 (Int32.toNatClampNeg x1)) + 1)) 51 0 (Int32.toNatClampNeg x1) x3) 52 0 (Int32.toNatClampNeg x1) 0) 56 0 (Int32.toNatClampNeg x1) 0) 54 0 (Int32.toNatClampNeg x1) 0) 10 0 46 0))
         else none
        else none
       else none
      else none
     else none
    else none
   else none
  else none) = some res) : rX10_start (n + 100) 0 [.inr (10, 0), .inl (.int x1), .inl (.int x2), .inl (.int x3), .inl (.int x4)] [] M = some res := uX10_start ((gX10_start_0 fX10_breaksOff (rX10_start n) x1 x2 x3 x4 M).trans h)
set_option maxRecDepth 20000 in
theorem gX10_start_77 (F0 : am_F) (k : Nat → List am_V → List am_V → am_M → am_R) (x1 : Int32) (x2 : Int32) (x3 : Int32) (x4 : Int32) (M : am_M) : gX10_start F0 k 77 [.inr (10, 0), .inl (.int x1), .inl (.int x2), .inl (.int x3), .inl (.int x4)] [] M =
  some (.inl none, M) := (rfl)
theorem eX10_start_77 {n : Nat} {x1 : Int32} {x2 : Int32} {x3 : Int32} {x4 : Int32} {M : am_M} {res : am_O × am_M} (h : (some (.inl none, M)) = some res) : rX10_start (n + 100) 77 [.inr (10, 0), .inl (.int x1), .inl (.int x2), .inl (.int x3), .inl (.int x4)] [] M = some res := uX10_start ((gX10_start_77 fX10_breaksOff (rX10_start n) x1 x2 x3 x4 M).trans h)
def rX10_tries (n pc : Nat) (ls st : List am_V) (M : am_M) : am_R := am_run [fX10_slotOf, fX10_of, fX10_fail, fX10_book, fX10_cancel, fX10_clean, fX10_allowed, fX10_start] [] 2 am_X0 pX10_tries n pc ls st M
def gX10_tries (F0 F1 F2 F3 F4 F5 F6 F7 : am_F) (k : Nat → List am_V → List am_V → am_M → am_R) (pc : Nat) (ls st : List am_V) (M : am_M) : am_R := am_go [F0, F1, F2, F3, F4, F5, F6, F7] [] 2 am_X0 pX10_tries [10, 39, 46, 56, 75, 82, 90, 96, 102, 113, 121, 133] k 100 pc ls st M
theorem uX10_tries {n pc : Nat} {ls st : List am_V} {M : am_M} {res : am_O × am_M} (h : gX10_tries fX10_slotOf fX10_of fX10_fail fX10_book fX10_cancel fX10_clean fX10_allowed fX10_start (rX10_tries n) pc ls st M = some res) : rX10_tries (n + 100) pc ls st M = some res := am_go_ok h
theorem eX10_tries (x1 : Int32) (M : am_M) : fX10_tries [.inr (10, 0), .inl (.int x1)] M = rX10_tries 100000 0 [.inr (10, 0), .inl (.int x1), am_D, am_D, am_D, am_D] [] M := am_meth_eq rfl rfl
set_option maxRecDepth 20000 in
theorem gX10_tries_0 (F0 F1 F2 F3 F4 F5 F6 F7 : am_F) (k : Nat → List am_V → List am_V → am_M → am_R) (x1 : Int32) (M : am_M) : gX10_tries F0 F1 F2 F3 F4 F5 F6 F7 k 0 [.inr (10, 0), .inl (.int x1), am_D, am_D, am_D, am_D] [] M =
  if am_in x1 40 then
   am_ret [] 7 [] (k 10 [.inr (10, 0), .inl (.int x1), am_D, am_D, am_D, am_D]) (F0 [.inr (10, 0), .inl (.int (M 45 0 (Int32.toNatClampNeg x1)))] M)
  else none := (rfl)
theorem eX10_tries_0 {n : Nat} {x1 : Int32} {M : am_M} {res : am_O × am_M} (h : (if am_in x1 40 then
   am_ret [] 7 [] (rX10_tries n 10 [.inr (10, 0), .inl (.int x1), am_D, am_D, am_D, am_D]) (fX10_slotOf [.inr (10, 0), .inl (.int (M 45 0 (Int32.toNatClampNeg x1)))] M)
  else none) = some res) : rX10_tries (n + 100) 0 [.inr (10, 0), .inl (.int x1), am_D, am_D, am_D, am_D] [] M = some res := uX10_tries ((gX10_tries_0 fX10_slotOf fX10_of fX10_fail fX10_book fX10_cancel fX10_clean fX10_allowed fX10_start (rX10_tries n) x1 M).trans h)
set_option maxRecDepth 20000 in
theorem gX10_tries_10 (F0 F1 F2 F3 F4 F5 F6 F7 : am_F) (k : Nat → List am_V → List am_V → am_M → am_R) (x1 : Int32) (y0 : Int32) (M : am_M) : gX10_tries F0 F1 F2 F3 F4 F5 F6 F7 k 10 [.inr (10, 0), .inl (.int x1), am_D, am_D, am_D, am_D] [.inl (.int y0)] M =
  if 0 ≤ y0 then
   if am_in x1 40 then
    if am_in x1 40 then
     if (am_b (M 53 0 (Int32.toNatClampNeg x1))) = 0 then
      am_ret [] 53 [] (k 56 [.inr (10, 0), .inl (.int x1), .inl (.int y0), .inl (.int (M 46 0 (Int32.toNatClampNeg x1))), am_D, am_D]) (F1 [.inr (10, 0), .inl (.int (M 46 0 (Int32.toNatClampNeg x1))), .inl (.int 0)] M)
     else am_ret [] 36 [] (k 39 [.inr (10, 0), .inl (.int x1), .inl (.int y0), .inl (.int (M 46 0 (Int32.toNatClampNeg x1))), am_D, am_D]) (F1 [.inr (10, 0), .inl (.int (M 46 0 (Int32.toNatClampNeg x1))), .inl (.int 0)] M)
    else none
   else none
  else some (.inl (some (.inl (.int 0))), M) := (rfl)
theorem eX10_tries_10 {n : Nat} {x1 : Int32} {y0 : Int32} {M : am_M} {res : am_O × am_M} (h : (if 0 ≤ y0 then
   if am_in x1 40 then
    if am_in x1 40 then
     if (am_b (M 53 0 (Int32.toNatClampNeg x1))) = 0 then
      am_ret [] 53 [] (rX10_tries n 56 [.inr (10, 0), .inl (.int x1), .inl (.int y0), .inl (.int (M 46 0 (Int32.toNatClampNeg x1))), am_D, am_D]) (fX10_of [.inr (10, 0), .inl (.int (M 46 0 (Int32.toNatClampNeg x1))), .inl (.int 0)] M)
     else am_ret [] 36 [] (rX10_tries n 39 [.inr (10, 0), .inl (.int x1), .inl (.int y0), .inl (.int (M 46 0 (Int32.toNatClampNeg x1))), am_D, am_D]) (fX10_of [.inr (10, 0), .inl (.int (M 46 0 (Int32.toNatClampNeg x1))), .inl (.int 0)] M)
    else none
   else none
  else some (.inl (some (.inl (.int 0))), M)) = some res) : rX10_tries (n + 100) 10 [.inr (10, 0), .inl (.int x1), am_D, am_D, am_D, am_D] [.inl (.int y0)] M = some res := uX10_tries ((gX10_tries_10 fX10_slotOf fX10_of fX10_fail fX10_book fX10_cancel fX10_clean fX10_allowed fX10_start (rX10_tries n) x1 y0 M).trans h)
set_option maxRecDepth 20000 in
theorem gX10_tries_56 (F0 F1 F2 F3 F4 F5 F6 F7 : am_F) (k : Nat → List am_V → List am_V → am_M → am_R) (x1 : Int32) (x2 : Int32) (x3 : Int32) (y0 : Int32) (M : am_M) : gX10_tries F0 F1 F2 F3 F4 F5 F6 F7 k 56 [.inr (10, 0), .inl (.int x1), .inl (.int x2), .inl (.int x3), am_D, am_D] [.inl (.int y0)] M =
  if am_in x2 6 then
   if y0 ≤ (M 39 0 (Int32.toNatClampNeg x2)) then
    am_ret [] 79 [] (k 82 [.inr (10, 0), .inl (.int x1), .inl (.int x2), .inl (.int x3), .inl (.int y0), am_D]) (F3 [.inr (10, 0), .inl (.int x1)] M)
   else am_ret [] 72 [] (k 75 [.inr (10, 0), .inl (.int x1), .inl (.int x2), .inl (.int x3), .inl (.int y0), am_D]) (F2 [.inr (10, 0), .inl (.int x1), .inl (.int 1)] M)
  else none := (rfl)
theorem eX10_tries_56 {n : Nat} {x1 : Int32} {x2 : Int32} {x3 : Int32} {y0 : Int32} {M : am_M} {res : am_O × am_M} (h : (if am_in x2 6 then
   if y0 ≤ (M 39 0 (Int32.toNatClampNeg x2)) then
    am_ret [] 79 [] (rX10_tries n 82 [.inr (10, 0), .inl (.int x1), .inl (.int x2), .inl (.int x3), .inl (.int y0), am_D]) (fX10_book [.inr (10, 0), .inl (.int x1)] M)
   else am_ret [] 72 [] (rX10_tries n 75 [.inr (10, 0), .inl (.int x1), .inl (.int x2), .inl (.int x3), .inl (.int y0), am_D]) (fX10_fail [.inr (10, 0), .inl (.int x1), .inl (.int 1)] M)
  else none) = some res) : rX10_tries (n + 100) 56 [.inr (10, 0), .inl (.int x1), .inl (.int x2), .inl (.int x3), am_D, am_D] [.inl (.int y0)] M = some res := uX10_tries ((gX10_tries_56 fX10_slotOf fX10_of fX10_fail fX10_book fX10_cancel fX10_clean fX10_allowed fX10_start (rX10_tries n) x1 x2 x3 y0 M).trans h)
set_option maxRecDepth 20000 in
theorem gX10_tries_39 (F0 F1 F2 F3 F4 F5 F6 F7 : am_F) (k : Nat → List am_V → List am_V → am_M → am_R) (x1 : Int32) (x2 : Int32) (x3 : Int32) (y0 : Int32) (M : am_M) : gX10_tries F0 F1 F2 F3 F4 F5 F6 F7 k 39 [.inr (10, 0), .inl (.int x1), .inl (.int x2), .inl (.int x3), am_D, am_D] [.inl (.int y0)] M =
  am_ret [] 43 [.inl (.int y0)] (k 46 [.inr (10, 0), .inl (.int x1), .inl (.int x2), .inl (.int x3), am_D, am_D]) (F1 [.inr (10, 0), .inl (.int x3), .inl (.int 13)] M) := (rfl)
theorem eX10_tries_39 {n : Nat} {x1 : Int32} {x2 : Int32} {x3 : Int32} {y0 : Int32} {M : am_M} {res : am_O × am_M} (h : (am_ret [] 43 [.inl (.int y0)] (rX10_tries n 46 [.inr (10, 0), .inl (.int x1), .inl (.int x2), .inl (.int x3), am_D, am_D]) (fX10_of [.inr (10, 0), .inl (.int x3), .inl (.int 13)] M)) = some res) : rX10_tries (n + 100) 39 [.inr (10, 0), .inl (.int x1), .inl (.int x2), .inl (.int x3), am_D, am_D] [.inl (.int y0)] M = some res := uX10_tries ((gX10_tries_39 fX10_slotOf fX10_of fX10_fail fX10_book fX10_cancel fX10_clean fX10_allowed fX10_start (rX10_tries n) x1 x2 x3 y0 M).trans h)
set_option maxRecDepth 20000 in
theorem gX10_tries_82 (F0 F1 F2 F3 F4 F5 F6 F7 : am_F) (k : Nat → List am_V → List am_V → am_M → am_R) (x1 : Int32) (x2 : Int32) (x3 : Int32) (x4 : Int32) (y0 : Int32) (M : am_M) : gX10_tries F0 F1 F2 F3 F4 F5 F6 F7 k 82 [.inr (10, 0), .inl (.int x1), .inl (.int x2), .inl (.int x3), .inl (.int x4), am_D] [.inl (.int y0)] M =
  if y0 = 0 then
   am_ret [] 87 [] (k 90 [.inr (10, 0), .inl (.int x1), .inl (.int x2), .inl (.int x3), .inl (.int x4), am_D]) (F4 [.inr (10, 0), .inl (.int x1)] M)
  else am_ret [] 99 [] (k 102 [.inr (10, 0), .inl (.int x1), .inl (.int x2), .inl (.int x3), .inl (.int x4), am_D]) (F5 [.inr (10, 0)] M) := (rfl)
theorem eX10_tries_82 {n : Nat} {x1 : Int32} {x2 : Int32} {x3 : Int32} {x4 : Int32} {y0 : Int32} {M : am_M} {res : am_O × am_M} (h : (if y0 = 0 then
   am_ret [] 87 [] (rX10_tries n 90 [.inr (10, 0), .inl (.int x1), .inl (.int x2), .inl (.int x3), .inl (.int x4), am_D]) (fX10_cancel [.inr (10, 0), .inl (.int x1)] M)
  else am_ret [] 99 [] (rX10_tries n 102 [.inr (10, 0), .inl (.int x1), .inl (.int x2), .inl (.int x3), .inl (.int x4), am_D]) (fX10_clean [.inr (10, 0)] M)) = some res) : rX10_tries (n + 100) 82 [.inr (10, 0), .inl (.int x1), .inl (.int x2), .inl (.int x3), .inl (.int x4), am_D] [.inl (.int y0)] M = some res := uX10_tries ((gX10_tries_82 fX10_slotOf fX10_of fX10_fail fX10_book fX10_cancel fX10_clean fX10_allowed fX10_start (rX10_tries n) x1 x2 x3 x4 y0 M).trans h)
set_option maxRecDepth 20000 in
theorem gX10_tries_75 (F0 F1 F2 F3 F4 F5 F6 F7 : am_F) (k : Nat → List am_V → List am_V → am_M → am_R) (x1 : Int32) (x2 : Int32) (x3 : Int32) (x4 : Int32) (M : am_M) : gX10_tries F0 F1 F2 F3 F4 F5 F6 F7 k 75 [.inr (10, 0), .inl (.int x1), .inl (.int x2), .inl (.int x3), .inl (.int x4), am_D] [] M =
  some (.inl (some (.inl (.int 0))), M) := (rfl)
theorem eX10_tries_75 {n : Nat} {x1 : Int32} {x2 : Int32} {x3 : Int32} {x4 : Int32} {M : am_M} {res : am_O × am_M} (h : (some (.inl (some (.inl (.int 0))), M)) = some res) : rX10_tries (n + 100) 75 [.inr (10, 0), .inl (.int x1), .inl (.int x2), .inl (.int x3), .inl (.int x4), am_D] [] M = some res := uX10_tries ((gX10_tries_75 fX10_slotOf fX10_of fX10_fail fX10_book fX10_cancel fX10_clean fX10_allowed fX10_start (rX10_tries n) x1 x2 x3 x4 M).trans h)
set_option maxRecDepth 20000 in
theorem gX10_tries_46 (F0 F1 F2 F3 F4 F5 F6 F7 : am_F) (k : Nat → List am_V → List am_V → am_M → am_R) (x1 : Int32) (x2 : Int32) (x3 : Int32) (y0 : Int32) (y1 : Int32) (M : am_M) : gX10_tries F0 F1 F2 F3 F4 F5 F6 F7 k 46 [.inr (10, 0), .inl (.int x1), .inl (.int x2), .inl (.int x3), am_D, am_D] [.inl (.int y0), .inl (.int y1)] M =
  if y0 = 0 then
   none
  else k 56 [.inr (10, 0), .inl (.int x1), .inl (.int x2), .inl (.int x3), am_D, am_D] [.inl (.int (y1 / y0))] M := (rfl)
theorem eX10_tries_46 {n : Nat} {x1 : Int32} {x2 : Int32} {x3 : Int32} {y0 : Int32} {y1 : Int32} {M : am_M} {res : am_O × am_M} (h : (if y0 = 0 then
   none
  else rX10_tries n 56 [.inr (10, 0), .inl (.int x1), .inl (.int x2), .inl (.int x3), am_D, am_D] [.inl (.int (y1 / y0))] M) = some res) : rX10_tries (n + 100) 46 [.inr (10, 0), .inl (.int x1), .inl (.int x2), .inl (.int x3), am_D, am_D] [.inl (.int y0), .inl (.int y1)] M = some res := uX10_tries ((gX10_tries_46 fX10_slotOf fX10_of fX10_fail fX10_book fX10_cancel fX10_clean fX10_allowed fX10_start (rX10_tries n) x1 x2 x3 y0 y1 M).trans h)
set_option maxRecDepth 20000 in
theorem gX10_tries_90 (F0 F1 F2 F3 F4 F5 F6 F7 : am_F) (k : Nat → List am_V → List am_V → am_M → am_R) (x1 : Int32) (x2 : Int32) (x3 : Int32) (x4 : Int32) (M : am_M) : gX10_tries F0 F1 F2 F3 F4 F5 F6 F7 k 90 [.inr (10, 0), .inl (.int x1), .inl (.int x2), .inl (.int x3), .inl (.int x4), am_D] [] M =
  am_ret [] 93 [] (k 96 [.inr (10, 0), .inl (.int x1), .inl (.int x2), .inl (.int x3), .inl (.int x4), am_D]) (F2 [.inr (10, 0), .inl (.int x1), .inl (.int 2)] M) := (rfl)
theorem eX10_tries_90 {n : Nat} {x1 : Int32} {x2 : Int32} {x3 : Int32} {x4 : Int32} {M : am_M} {res : am_O × am_M} (h : (am_ret [] 93 [] (rX10_tries n 96 [.inr (10, 0), .inl (.int x1), .inl (.int x2), .inl (.int x3), .inl (.int x4), am_D]) (fX10_fail [.inr (10, 0), .inl (.int x1), .inl (.int 2)] M)) = some res) : rX10_tries (n + 100) 90 [.inr (10, 0), .inl (.int x1), .inl (.int x2), .inl (.int x3), .inl (.int x4), am_D] [] M = some res := uX10_tries ((gX10_tries_90 fX10_slotOf fX10_of fX10_fail fX10_book fX10_cancel fX10_clean fX10_allowed fX10_start (rX10_tries n) x1 x2 x3 x4 M).trans h)
set_option maxRecDepth 20000 in
theorem gX10_tries_102 (F0 F1 F2 F3 F4 F5 F6 F7 : am_F) (k : Nat → List am_V → List am_V → am_M → am_R) (x1 : Int32) (x2 : Int32) (x3 : Int32) (x4 : Int32) (y0 : Int32) (M : am_M) : gX10_tries F0 F1 F2 F3 F4 F5 F6 F7 k 102 [.inr (10, 0), .inl (.int x1), .inl (.int x2), .inl (.int x3), .inl (.int x4), am_D] [.inl (.int y0)] M =
  if y0 < 0 then
   am_ret [] 118 [] (k 121 [.inr (10, 0), .inl (.int x1), .inl (.int x2), .inl (.int x3), .inl (.int x4), .inl (.int y0)]) (F4 [.inr (10, 0), .inl (.int x1)] M)
  else am_ret [] 110 [] (k 113 [.inr (10, 0), .inl (.int x1), .inl (.int x2), .inl (.int x3), .inl (.int x4), .inl (.int y0)]) (F6 [.inr (10, 0)] M) := (rfl)
theorem eX10_tries_102 {n : Nat} {x1 : Int32} {x2 : Int32} {x3 : Int32} {x4 : Int32} {y0 : Int32} {M : am_M} {res : am_O × am_M} (h : (if y0 < 0 then
   am_ret [] 118 [] (rX10_tries n 121 [.inr (10, 0), .inl (.int x1), .inl (.int x2), .inl (.int x3), .inl (.int x4), .inl (.int y0)]) (fX10_cancel [.inr (10, 0), .inl (.int x1)] M)
  else am_ret [] 110 [] (rX10_tries n 113 [.inr (10, 0), .inl (.int x1), .inl (.int x2), .inl (.int x3), .inl (.int x4), .inl (.int y0)]) (fX10_allowed [.inr (10, 0)] M)) = some res) : rX10_tries (n + 100) 102 [.inr (10, 0), .inl (.int x1), .inl (.int x2), .inl (.int x3), .inl (.int x4), am_D] [.inl (.int y0)] M = some res := uX10_tries ((gX10_tries_102 fX10_slotOf fX10_of fX10_fail fX10_book fX10_cancel fX10_clean fX10_allowed fX10_start (rX10_tries n) x1 x2 x3 x4 y0 M).trans h)
set_option maxRecDepth 20000 in
theorem gX10_tries_96 (F0 F1 F2 F3 F4 F5 F6 F7 : am_F) (k : Nat → List am_V → List am_V → am_M → am_R) (x1 : Int32) (x2 : Int32) (x3 : Int32) (x4 : Int32) (M : am_M) : gX10_tries F0 F1 F2 F3 F4 F5 F6 F7 k 96 [.inr (10, 0), .inl (.int x1), .inl (.int x2), .inl (.int x3), .inl (.int x4), am_D] [] M =
  some (.inl (some (.inl (.int 0))), M) := (rfl)
theorem eX10_tries_96 {n : Nat} {x1 : Int32} {x2 : Int32} {x3 : Int32} {x4 : Int32} {M : am_M} {res : am_O × am_M} (h : (some (.inl (some (.inl (.int 0))), M)) = some res) : rX10_tries (n + 100) 96 [.inr (10, 0), .inl (.int x1), .inl (.int x2), .inl (.int x3), .inl (.int x4), am_D] [] M = some res := uX10_tries ((gX10_tries_96 fX10_slotOf fX10_of fX10_fail fX10_book fX10_cancel fX10_clean fX10_allowed fX10_start (rX10_tries n) x1 x2 x3 x4 M).trans h)
set_option maxRecDepth 20000 in
theorem gX10_tries_121 (F0 F1 F2 F3 F4 F5 F6 F7 : am_F) (k : Nat → List am_V → List am_V → am_M → am_R) (x1 : Int32) (x2 : Int32) (x3 : Int32) (x4 : Int32) (x5 : Int32) (M : am_M) : gX10_tries F0 F1 F2 F3 F4 F5 F6 F7 k 121 [.inr (10, 0), .inl (.int x1), .inl (.int x2), .inl (.int x3), .inl (.int x4), .inl (.int x5)] [] M =
  some (.inl (some (.inl (.int 0))), M) := (rfl)
theorem eX10_tries_121 {n : Nat} {x1 : Int32} {x2 : Int32} {x3 : Int32} {x4 : Int32} {x5 : Int32} {M : am_M} {res : am_O × am_M} (h : (some (.inl (some (.inl (.int 0))), M)) = some res) : rX10_tries (n + 100) 121 [.inr (10, 0), .inl (.int x1), .inl (.int x2), .inl (.int x3), .inl (.int x4), .inl (.int x5)] [] M = some res := uX10_tries ((gX10_tries_121 fX10_slotOf fX10_of fX10_fail fX10_book fX10_cancel fX10_clean fX10_allowed fX10_start (rX10_tries n) x1 x2 x3 x4 x5 M).trans h)
set_option maxRecDepth 20000 in
theorem gX10_tries_113 (F0 F1 F2 F3 F4 F5 F6 F7 : am_F) (k : Nat → List am_V → List am_V → am_M → am_R) (x1 : Int32) (x2 : Int32) (x3 : Int32) (x4 : Int32) (x5 : Int32) (y0 : Int32) (M : am_M) : gX10_tries F0 F1 F2 F3 F4 F5 F6 F7 k 113 [.inr (10, 0), .inl (.int x1), .inl (.int x2), .inl (.int x3), .inl (.int x4), .inl (.int x5)] [.inl (.int y0)] M =
  if y0 = 0 then
   am_ret [] 118 [] (k 121 [.inr (10, 0), .inl (.int x1), .inl (.int x2), .inl (.int x3), .inl (.int x4), .inl (.int x5)]) (F4 [.inr (10, 0), .inl (.int x1)] M)
  else am_ret [] 130 [] (k 133 [.inr (10, 0), .inl (.int x1), .inl (.int x2), .inl (.int x3), .inl (.int x4), .inl (.int x5)]) (F7 [.inr (10, 0), .inl (.int x1), .inl (.int x2), .inl (.int x5), .inl (.int x4)] M) := (rfl)
theorem eX10_tries_113 {n : Nat} {x1 : Int32} {x2 : Int32} {x3 : Int32} {x4 : Int32} {x5 : Int32} {y0 : Int32} {M : am_M} {res : am_O × am_M} (h : (if y0 = 0 then
   am_ret [] 118 [] (rX10_tries n 121 [.inr (10, 0), .inl (.int x1), .inl (.int x2), .inl (.int x3), .inl (.int x4), .inl (.int x5)]) (fX10_cancel [.inr (10, 0), .inl (.int x1)] M)
  else am_ret [] 130 [] (rX10_tries n 133 [.inr (10, 0), .inl (.int x1), .inl (.int x2), .inl (.int x3), .inl (.int x4), .inl (.int x5)]) (fX10_start [.inr (10, 0), .inl (.int x1), .inl (.int x2), .inl (.int x5), .inl (.int x4)] M)) = some res) : rX10_tries (n + 100) 113 [.inr (10, 0), .inl (.int x1), .inl (.int x2), .inl (.int x3), .inl (.int x4), .inl (.int x5)] [.inl (.int y0)] M = some res := uX10_tries ((gX10_tries_113 fX10_slotOf fX10_of fX10_fail fX10_book fX10_cancel fX10_clean fX10_allowed fX10_start (rX10_tries n) x1 x2 x3 x4 x5 y0 M).trans h)
set_option maxRecDepth 20000 in
theorem gX10_tries_133 (F0 F1 F2 F3 F4 F5 F6 F7 : am_F) (k : Nat → List am_V → List am_V → am_M → am_R) (x1 : Int32) (x2 : Int32) (x3 : Int32) (x4 : Int32) (x5 : Int32) (M : am_M) : gX10_tries F0 F1 F2 F3 F4 F5 F6 F7 k 133 [.inr (10, 0), .inl (.int x1), .inl (.int x2), .inl (.int x3), .inl (.int x4), .inl (.int x5)] [] M =
  some (.inl (some (.inl (.int 1))), M) := (rfl)
theorem eX10_tries_133 {n : Nat} {x1 : Int32} {x2 : Int32} {x3 : Int32} {x4 : Int32} {x5 : Int32} {M : am_M} {res : am_O × am_M} (h : (some (.inl (some (.inl (.int 1))), M)) = some res) : rX10_tries (n + 100) 133 [.inr (10, 0), .inl (.int x1), .inl (.int x2), .inl (.int x3), .inl (.int x4), .inl (.int x5)] [] M = some res := uX10_tries ((gX10_tries_133 fX10_slotOf fX10_of fX10_fail fX10_book fX10_cancel fX10_clean fX10_allowed fX10_start (rX10_tries n) x1 x2 x3 x4 x5 M).trans h)
def rX10_startOne (n pc : Nat) (ls st : List am_V) (M : am_M) : am_R := am_run [fX10_tries] [] 1 am_X0 pX10_startOne n pc ls st M
def gX10_startOne (F0 : am_F) (k : Nat → List am_V → List am_V → am_M → am_R) (pc : Nat) (ls st : List am_V) (M : am_M) : am_R := am_go [F0] [] 1 am_X0 pX10_startOne [2, 8, 49] k 100 pc ls st M
theorem uX10_startOne {n pc : Nat} {ls st : List am_V} {M : am_M} {res : am_O × am_M} (h : gX10_startOne fX10_tries (rX10_startOne n) pc ls st M = some res) : rX10_startOne (n + 100) pc ls st M = some res := am_go_ok h
theorem eX10_startOne (M : am_M) : fX10_startOne [.inr (10, 0)] M = rX10_startOne 100000 0 [.inr (10, 0), am_D, am_D] [] M := am_meth_eq rfl rfl
set_option maxRecDepth 20000 in
theorem gX10_startOne_0 (F0 : am_F) (k : Nat → List am_V → List am_V → am_M → am_R) (M : am_M) : gX10_startOne F0 k 0 [.inr (10, 0), am_D, am_D] [] M =
  k 2 [.inr (10, 0), .inl (.int 1), am_D] [] M := (rfl)
theorem eX10_startOne_0 {n : Nat} {M : am_M} {res : am_O × am_M} (h : (rX10_startOne n 2 [.inr (10, 0), .inl (.int 1), am_D] [] M) = some res) : rX10_startOne (n + 100) 0 [.inr (10, 0), am_D, am_D] [] M = some res := uX10_startOne ((gX10_startOne_0 fX10_tries (rX10_startOne n) M).trans h)
set_option maxRecDepth 20000 in
theorem gX10_startOne_2 (F0 : am_F) (k : Nat → List am_V → List am_V → am_M → am_R) (x1 : Int32) (x2 : am_V) (M : am_M) : gX10_startOne F0 k 2 [.inr (10, 0), .inl (.int x1), x2] [] M =
  if x1 < 0 then
   some (.inl (some (.inl (.int (-1)))), M)
  else k 8 [.inr (10, 0), .inl (.int x1), .inl (.int 0)] [] M := (rfl)
theorem eX10_startOne_2 {n : Nat} {x1 : Int32} {x2 : am_V} {M : am_M} {res : am_O × am_M} (h : (if x1 < 0 then
   some (.inl (some (.inl (.int (-1)))), M)
  else rX10_startOne n 8 [.inr (10, 0), .inl (.int x1), .inl (.int 0)] [] M) = some res) : rX10_startOne (n + 100) 2 [.inr (10, 0), .inl (.int x1), x2] [] M = some res := uX10_startOne ((gX10_startOne_2 fX10_tries (rX10_startOne n) x1 x2 M).trans h)
set_option maxRecDepth 20000 in
theorem gX10_startOne_8 (F0 : am_F) (k : Nat → List am_V → List am_V → am_M → am_R) (x1 : Int32) (x2 : Int32) (M : am_M) : gX10_startOne F0 k 8 [.inr (10, 0), .inl (.int x1), .inl (.int x2)] [] M =
  if (M 10 0 14) ≤ x2 then
   k 2 [.inr (10, 0), .inl (.int (x1 + (-1))), .inl (.int x2)] [] M
  else if am_in x2 40 then
   if (M 48 0 (Int32.toNatClampNeg x2)) = 0 then
    if am_in x2 40 then
     if x1 = 1 then
      if (am_b (M 47 0 (Int32.toNatClampNeg x2))) = 1 then
       am_ret [] 46 [] (k 49 [.inr (10, 0), .inl (.int x1), .inl (.int x2)]) (F0 [.inr (10, 0), .inl (.int x2)] M)
      else k 8 [.inr (10, 0), .inl (.int x1), .inl (.int (x2 + 1))] [] M
     else if (am_b (M 47 0 (Int32.toNatClampNeg x2))) = 0 then
      am_ret [] 46 [] (k 49 [.inr (10, 0), .inl (.int x1), .inl (.int x2)]) (F0 [.inr (10, 0), .inl (.int x2)] M)
     else k 8 [.inr (10, 0), .inl (.int x1), .inl (.int (x2 + 1))] [] M
    else none
   else k 8 [.inr (10, 0), .inl (.int x1), .inl (.int (x2 + 1))] [] M
  else none := (rfl)
theorem eX10_startOne_8 {n : Nat} {x1 : Int32} {x2 : Int32} {M : am_M} {res : am_O × am_M} (h : (if (M 10 0 14) ≤ x2 then
   rX10_startOne n 2 [.inr (10, 0), .inl (.int (x1 + (-1))), .inl (.int x2)] [] M
  else if am_in x2 40 then
   if (M 48 0 (Int32.toNatClampNeg x2)) = 0 then
    if am_in x2 40 then
     if x1 = 1 then
      if (am_b (M 47 0 (Int32.toNatClampNeg x2))) = 1 then
       am_ret [] 46 [] (rX10_startOne n 49 [.inr (10, 0), .inl (.int x1), .inl (.int x2)]) (fX10_tries [.inr (10, 0), .inl (.int x2)] M)
      else rX10_startOne n 8 [.inr (10, 0), .inl (.int x1), .inl (.int (x2 + 1))] [] M
     else if (am_b (M 47 0 (Int32.toNatClampNeg x2))) = 0 then
      am_ret [] 46 [] (rX10_startOne n 49 [.inr (10, 0), .inl (.int x1), .inl (.int x2)]) (fX10_tries [.inr (10, 0), .inl (.int x2)] M)
     else rX10_startOne n 8 [.inr (10, 0), .inl (.int x1), .inl (.int (x2 + 1))] [] M
    else none
   else rX10_startOne n 8 [.inr (10, 0), .inl (.int x1), .inl (.int (x2 + 1))] [] M
  else none) = some res) : rX10_startOne (n + 100) 8 [.inr (10, 0), .inl (.int x1), .inl (.int x2)] [] M = some res := uX10_startOne ((gX10_startOne_8 fX10_tries (rX10_startOne n) x1 x2 M).trans h)
set_option maxRecDepth 20000 in
theorem gX10_startOne_49 (F0 : am_F) (k : Nat → List am_V → List am_V → am_M → am_R) (x1 : Int32) (x2 : Int32) (y0 : Int32) (M : am_M) : gX10_startOne F0 k 49 [.inr (10, 0), .inl (.int x1), .inl (.int x2)] [.inl (.int y0)] M =
  if y0 = 0 then
   k 8 [.inr (10, 0), .inl (.int x1), .inl (.int (x2 + 1))] [] M
  else some (.inl (some (.inl (.int x2))), M) := (rfl)
theorem eX10_startOne_49 {n : Nat} {x1 : Int32} {x2 : Int32} {y0 : Int32} {M : am_M} {res : am_O × am_M} (h : (if y0 = 0 then
   rX10_startOne n 8 [.inr (10, 0), .inl (.int x1), .inl (.int (x2 + 1))] [] M
  else some (.inl (some (.inl (.int x2))), M)) = some res) : rX10_startOne (n + 100) 49 [.inr (10, 0), .inl (.int x1), .inl (.int x2)] [.inl (.int y0)] M = some res := uX10_startOne ((gX10_startOne_49 fX10_tries (rX10_startOne n) x1 x2 y0 M).trans h)
def rX10_step (n pc : Nat) (ls st : List am_V) (M : am_M) : am_R := am_run [fX10_goOn, fX10_give, fX10_measure, fX10_of, fX10_judge, fX10_startOne] [] 1 am_X0 pX10_step n pc ls st M
def gX10_step (F0 F1 F2 F3 F4 F5 : am_F) (k : Nat → List am_V → List am_V → am_M → am_R) (pc : Nat) (ls st : List am_V) (M : am_M) : am_R := am_go [F0, F1, F2, F3, F4, F5] [] 1 am_X0 pX10_step [19, 23, 27, 29, 65, 73, 83] k 100 pc ls st M
theorem uX10_step {n pc : Nat} {ls st : List am_V} {M : am_M} {res : am_O × am_M} (h : gX10_step fX10_goOn fX10_give fX10_measure fX10_of fX10_judge fX10_startOne (rX10_step n) pc ls st M = some res) : rX10_step (n + 100) pc ls st M = some res := am_go_ok h
theorem eX10_step (M : am_M) : fX10_step [.inr (10, 0)] M = rX10_step 100000 0 [.inr (10, 0), am_D] [] M := am_meth_eq rfl rfl
set_option maxRecDepth 20000 in
theorem gX10_step_0 (F0 F1 F2 F3 F4 F5 : am_F) (k : Nat → List am_V → List am_V → am_M → am_R) (M : am_M) : gX10_step F0 F1 F2 F3 F4 F5 k 0 [.inr (10, 0), am_D] [] M =
  am_ret [] 16 [] (k 19 [.inr (10, 0), am_D]) (F0 [.inr (10, 0)] (am_put (am_put M 10 0 45 0) 10 0 42 ((M 10 0 42) + 1))) := (rfl)
theorem eX10_step_0 {n : Nat} {M : am_M} {res : am_O × am_M} (h : (am_ret [] 16 [] (rX10_step n 19 [.inr (10, 0), am_D]) (fX10_goOn [.inr (10, 0)] (am_put (am_put M 10 0 45 0) 10 0 42 ((M 10 0 42) + 1)))) = some res) : rX10_step (n + 100) 0 [.inr (10, 0), am_D] [] M = some res := uX10_step ((gX10_step_0 fX10_goOn fX10_give fX10_measure fX10_of fX10_judge fX10_startOne (rX10_step n) M).trans h)
set_option maxRecDepth 20000 in
theorem gX10_step_19 (F0 F1 F2 F3 F4 F5 : am_F) (k : Nat → List am_V → List am_V → am_M → am_R) (M : am_M) : gX10_step F0 F1 F2 F3 F4 F5 k 19 [.inr (10, 0), am_D] [] M =
  am_ret [] 20 [] (k 23 [.inr (10, 0), am_D]) (F1 [.inr (10, 0)] M) := (rfl)
theorem eX10_step_19 {n : Nat} {M : am_M} {res : am_O × am_M} (h : (am_ret [] 20 [] (rX10_step n 23 [.inr (10, 0), am_D]) (fX10_give [.inr (10, 0)] M)) = some res) : rX10_step (n + 100) 19 [.inr (10, 0), am_D] [] M = some res := uX10_step ((gX10_step_19 fX10_goOn fX10_give fX10_measure fX10_of fX10_judge fX10_startOne (rX10_step n) M).trans h)
set_option maxRecDepth 20000 in
theorem gX10_step_23 (F0 F1 F2 F3 F4 F5 : am_F) (k : Nat → List am_V → List am_V → am_M → am_R) (M : am_M) : gX10_step F0 F1 F2 F3 F4 F5 k 23 [.inr (10, 0), am_D] [] M =
  am_ret [] 24 [] (k 27 [.inr (10, 0), am_D]) (F2 [.inr (10, 0)] M) := (rfl)
theorem eX10_step_23 {n : Nat} {M : am_M} {res : am_O × am_M} (h : (am_ret [] 24 [] (rX10_step n 27 [.inr (10, 0), am_D]) (fX10_measure [.inr (10, 0)] M)) = some res) : rX10_step (n + 100) 23 [.inr (10, 0), am_D] [] M = some res := uX10_step ((gX10_step_23 fX10_goOn fX10_give fX10_measure fX10_of fX10_judge fX10_startOne (rX10_step n) M).trans h)
set_option maxRecDepth 20000 in
theorem gX10_step_27 (F0 F1 F2 F3 F4 F5 : am_F) (k : Nat → List am_V → List am_V → am_M → am_R) (M : am_M) : gX10_step F0 F1 F2 F3 F4 F5 k 27 [.inr (10, 0), am_D] [] M =
  k 29 [.inr (10, 0), .inl (.int 0)] [] M := (rfl)
theorem eX10_step_27 {n : Nat} {M : am_M} {res : am_O × am_M} (h : (rX10_step n 29 [.inr (10, 0), .inl (.int 0)] [] M) = some res) : rX10_step (n + 100) 27 [.inr (10, 0), am_D] [] M = some res := uX10_step ((gX10_step_27 fX10_goOn fX10_give fX10_measure fX10_of fX10_judge fX10_startOne (rX10_step n) M).trans h)
set_option maxRecDepth 20000 in
theorem gX10_step_29 (F0 F1 F2 F3 F4 F5 : am_F) (k : Nat → List am_V → List am_V → am_M → am_R) (x1 : Int32) (M : am_M) : gX10_step F0 F1 F2 F3 F4 F5 k 29 [.inr (10, 0), .inl (.int x1)] [] M =
  if (M 10 0 14) ≤ x1 then
   am_ret [] 80 [] (k 83 [.inr (10, 0), .inl (.int x1)]) (F5 [.inr (10, 0)] M)
  else if am_in x1 40 then
   if (M 48 0 (Int32.toNatClampNeg x1)) = 1 then
    if am_in x1 40 then
     if am_in x1 40 then
      am_ret [] 62 [.inl (.int (M 52 0 (Int32.toNatClampNeg x1)))] (k 65 [.inr (10, 0), .inl (.int x1)]) (F3 [.inr (10, 0), .inl (.int (M 46 0 (Int32.toNatClampNeg x1))), .inl (.int 8)] M)
     else none
    else none
   else k 73 [.inr (10, 0), .inl (.int x1)] [] M
  else none := (rfl)
theorem eX10_step_29 {n : Nat} {x1 : Int32} {M : am_M} {res : am_O × am_M} (h : (if (M 10 0 14) ≤ x1 then
   am_ret [] 80 [] (rX10_step n 83 [.inr (10, 0), .inl (.int x1)]) (fX10_startOne [.inr (10, 0)] M)
  else if am_in x1 40 then
   if (M 48 0 (Int32.toNatClampNeg x1)) = 1 then
    if am_in x1 40 then
     if am_in x1 40 then
      am_ret [] 62 [.inl (.int (M 52 0 (Int32.toNatClampNeg x1)))] (rX10_step n 65 [.inr (10, 0), .inl (.int x1)]) (fX10_of [.inr (10, 0), .inl (.int (M 46 0 (Int32.toNatClampNeg x1))), .inl (.int 8)] M)
     else none
    else none
   else rX10_step n 73 [.inr (10, 0), .inl (.int x1)] [] M
  else none) = some res) : rX10_step (n + 100) 29 [.inr (10, 0), .inl (.int x1)] [] M = some res := uX10_step ((gX10_step_29 fX10_goOn fX10_give fX10_measure fX10_of fX10_judge fX10_startOne (rX10_step n) x1 M).trans h)
set_option maxRecDepth 20000 in
theorem gX10_step_83 (F0 F1 F2 F3 F4 F5 : am_F) (k : Nat → List am_V → List am_V → am_M → am_R) (x1 : Int32) (y0 : Int32) (M : am_M) : gX10_step F0 F1 F2 F3 F4 F5 k 83 [.inr (10, 0), .inl (.int x1)] [.inl (.int y0)] M =
  if 0 ≤ y0 then
   some (.inl (some (.inl (.int y0))), M)
  else some (.inl (some (.inl (.int y0))), (am_put M 10 0 43 ((M 10 0 43) + 1))) := (rfl)
theorem eX10_step_83 {n : Nat} {x1 : Int32} {y0 : Int32} {M : am_M} {res : am_O × am_M} (h : (if 0 ≤ y0 then
   some (.inl (some (.inl (.int y0))), M)
  else some (.inl (some (.inl (.int y0))), (am_put M 10 0 43 ((M 10 0 43) + 1)))) = some res) : rX10_step (n + 100) 83 [.inr (10, 0), .inl (.int x1)] [.inl (.int y0)] M = some res := uX10_step ((gX10_step_83 fX10_goOn fX10_give fX10_measure fX10_of fX10_judge fX10_startOne (rX10_step n) x1 y0 M).trans h)
set_option maxRecDepth 20000 in
theorem gX10_step_65 (F0 F1 F2 F3 F4 F5 : am_F) (k : Nat → List am_V → List am_V → am_M → am_R) (x1 : Int32) (y0 : Int32) (y1 : Int32) (M : am_M) : gX10_step F0 F1 F2 F3 F4 F5 k 65 [.inr (10, 0), .inl (.int x1)] [.inl (.int y0), .inl (.int y1)] M =
  if y1 ≤ y0 then
   k 73 [.inr (10, 0), .inl (.int x1)] [] M
  else am_ret [] 70 [] (k 73 [.inr (10, 0), .inl (.int x1)]) (F4 [.inr (10, 0), .inl (.int x1)] M) := (rfl)
theorem eX10_step_65 {n : Nat} {x1 : Int32} {y0 : Int32} {y1 : Int32} {M : am_M} {res : am_O × am_M} (h : (if y1 ≤ y0 then
   rX10_step n 73 [.inr (10, 0), .inl (.int x1)] [] M
  else am_ret [] 70 [] (rX10_step n 73 [.inr (10, 0), .inl (.int x1)]) (fX10_judge [.inr (10, 0), .inl (.int x1)] M)) = some res) : rX10_step (n + 100) 65 [.inr (10, 0), .inl (.int x1)] [.inl (.int y0), .inl (.int y1)] M = some res := uX10_step ((gX10_step_65 fX10_goOn fX10_give fX10_measure fX10_of fX10_judge fX10_startOne (rX10_step n) x1 y0 y1 M).trans h)
set_option maxRecDepth 20000 in
theorem gX10_step_73 (F0 F1 F2 F3 F4 F5 : am_F) (k : Nat → List am_V → List am_V → am_M → am_R) (x1 : Int32) (M : am_M) : gX10_step F0 F1 F2 F3 F4 F5 k 73 [.inr (10, 0), .inl (.int x1)] [] M =
  k 29 [.inr (10, 0), .inl (.int (x1 + 1))] [] M := (rfl)
theorem eX10_step_73 {n : Nat} {x1 : Int32} {M : am_M} {res : am_O × am_M} (h : (rX10_step n 29 [.inr (10, 0), .inl (.int (x1 + 1))] [] M) = some res) : rX10_step (n + 100) 73 [.inr (10, 0), .inl (.int x1)] [] M = some res := uX10_step ((gX10_step_73 fX10_goOn fX10_give fX10_measure fX10_of fX10_judge fX10_startOne (rX10_step n) x1 M).trans h)
def rX10_idle (n pc : Nat) (ls st : List am_V) (M : am_M) : am_R := am_run [] [] 1 am_X0 pX10_idle n pc ls st M
def gX10_idle (k : Nat → List am_V → List am_V → am_M → am_R) (pc : Nat) (ls st : List am_V) (M : am_M) : am_R := am_go [] [] 1 am_X0 pX10_idle [] k 100 pc ls st M
theorem uX10_idle {n pc : Nat} {ls st : List am_V} {M : am_M} {res : am_O × am_M} (h : gX10_idle (rX10_idle n) pc ls st M = some res) : rX10_idle (n + 100) pc ls st M = some res := am_go_ok h
theorem eX10_idle (M : am_M) : fX10_idle [.inr (10, 0)] M = rX10_idle 100000 0 [.inr (10, 0)] [] M := am_meth_eq rfl rfl
set_option maxRecDepth 20000 in
theorem gX10_idle_0 (k : Nat → List am_V → List am_V → am_M → am_R) (M : am_M) : gX10_idle k 0 [.inr (10, 0)] [] M =
  some (.inl (some (.inl (.int (M 10 0 43)))), (am_put M 10 0 45 0)) := (rfl)
theorem eX10_idle_0 {n : Nat} {M : am_M} {res : am_O × am_M} (h : (some (.inl (some (.inl (.int (M 10 0 43)))), (am_put M 10 0 45 0))) = some res) : rX10_idle (n + 100) 0 [.inr (10, 0)] [] M = some res := uX10_idle ((gX10_idle_0 (rX10_idle n) M).trans h)
def rX10_state (n pc : Nat) (ls st : List am_V) (M : am_M) : am_R := am_run [fX10_within] [] 1 am_X0 pX10_state n pc ls st M
def gX10_state (F0 : am_F) (k : Nat → List am_V → List am_V → am_M → am_R) (pc : Nat) (ls st : List am_V) (M : am_M) : am_R := am_go [F0] [] 1 am_X0 pX10_state [20] k 100 pc ls st M
theorem uX10_state {n pc : Nat} {ls st : List am_V} {M : am_M} {res : am_O × am_M} (h : gX10_state fX10_within (rX10_state n) pc ls st M = some res) : rX10_state (n + 100) pc ls st M = some res := am_go_ok h
theorem eX10_state (x1 : Int32) (x2 : Int32) (M : am_M) : fX10_state [.inr (10, 0), .inl (.int x1), .inl (.int x2)] M = rX10_state 100000 0 [.inr (10, 0), .inl (.int x1), .inl (.int x2)] [] M := am_meth_eq rfl rfl
set_option maxRecDepth 20000 in
theorem gX10_state_0 (F0 : am_F) (k : Nat → List am_V → List am_V → am_M → am_R) (x1 : Int32) (x2 : Int32) (M : am_M) : gX10_state F0 k 0 [.inr (10, 0), .inl (.int x1), .inl (.int x2)] [] M =
  if x1 < 0 then
   some (.inl (some (.inl (.int 0))), (am_put M 10 0 45 1))
  else if (M 10 0 14) ≤ x1 then
   some (.inl (some (.inl (.int 0))), (am_put M 10 0 45 1))
  else am_ret [] 17 [.inr (10, 0)] (k 20 [.inr (10, 0), .inl (.int x1), .inl (.int x2)]) (F0 [.inl (.int x2), .inl (.int 0), .inl (.int 6)] M) := (rfl)
theorem eX10_state_0 {n : Nat} {x1 : Int32} {x2 : Int32} {M : am_M} {res : am_O × am_M} (h : (if x1 < 0 then
   some (.inl (some (.inl (.int 0))), (am_put M 10 0 45 1))
  else if (M 10 0 14) ≤ x1 then
   some (.inl (some (.inl (.int 0))), (am_put M 10 0 45 1))
  else am_ret [] 17 [.inr (10, 0)] (rX10_state n 20 [.inr (10, 0), .inl (.int x1), .inl (.int x2)]) (fX10_within [.inl (.int x2), .inl (.int 0), .inl (.int 6)] M)) = some res) : rX10_state (n + 100) 0 [.inr (10, 0), .inl (.int x1), .inl (.int x2)] [] M = some res := uX10_state ((gX10_state_0 fX10_within (rX10_state n) x1 x2 M).trans h)
set_option maxRecDepth 20000 in
theorem gX10_state_20 (F0 : am_F) (k : Nat → List am_V → List am_V → am_M → am_R) (x1 : Int32) (x2 : Int32) (y0 : Int32) (M : am_M) : gX10_state F0 k 20 [.inr (10, 0), .inl (.int x1), .inl (.int x2)] [.inl (.int y0), .inr (10, 0)] M =
  if y0 = 0 then
   some (.inl (some (.inl (.int 0))), (am_put M 10 0 45 1))
  else if x2 = 0 then
   if am_in x1 40 then
    some (.inl (some (.inl (.int (M 48 0 (Int32.toNatClampNeg x1))))), (am_put M 10 0 45 0))
   else none
  else if x2 = 1 then
   if am_in x1 40 then
    some (.inl (some (.inl (.int (M 49 0 (Int32.toNatClampNeg x1))))), (am_put M 10 0 45 0))
   else none
  else if x2 = 2 then
   if am_in x1 40 then
    some (.inl (some (.inl (.int (M 50 0 (Int32.toNatClampNeg x1))))), (am_put M 10 0 45 0))
   else none
  else if x2 = 3 then
   if am_in x1 40 then
    some (.inl (some (.inl (.int (M 51 0 (Int32.toNatClampNeg x1))))), (am_put M 10 0 45 0))
   else none
  else if x2 = 4 then
   if am_in x1 40 then
    if (M 48 0 (Int32.toNatClampNeg x1)) = 1 then
     if am_in x1 40 then
      some (.inl (some (.inl (.int (M 52 0 (Int32.toNatClampNeg x1))))), (am_put M 10 0 45 0))
     else none
    else some (.inl (some (.inl (.int (-1)))), (am_put M 10 0 45 0))
   else none
  else if x2 = 5 then
   if am_in x1 40 then
    some (.inl (some (.inl (.int (M 57 0 (Int32.toNatClampNeg x1))))), (am_put M 10 0 45 0))
   else none
  else if am_in x1 40 then
   some (.inl (some (.inl (.int (M 58 0 (Int32.toNatClampNeg x1))))), (am_put M 10 0 45 0))
  else none := (rfl)
theorem eX10_state_20 {n : Nat} {x1 : Int32} {x2 : Int32} {y0 : Int32} {M : am_M} {res : am_O × am_M} (h : (if y0 = 0 then
   some (.inl (some (.inl (.int 0))), (am_put M 10 0 45 1))
  else if x2 = 0 then
   if am_in x1 40 then
    some (.inl (some (.inl (.int (M 48 0 (Int32.toNatClampNeg x1))))), (am_put M 10 0 45 0))
   else none
  else if x2 = 1 then
   if am_in x1 40 then
    some (.inl (some (.inl (.int (M 49 0 (Int32.toNatClampNeg x1))))), (am_put M 10 0 45 0))
   else none
  else if x2 = 2 then
   if am_in x1 40 then
    some (.inl (some (.inl (.int (M 50 0 (Int32.toNatClampNeg x1))))), (am_put M 10 0 45 0))
   else none
  else if x2 = 3 then
   if am_in x1 40 then
    some (.inl (some (.inl (.int (M 51 0 (Int32.toNatClampNeg x1))))), (am_put M 10 0 45 0))
   else none
  else if x2 = 4 then
   if am_in x1 40 then
    if (M 48 0 (Int32.toNatClampNeg x1)) = 1 then
     if am_in x1 40 then
      some (.inl (some (.inl (.int (M 52 0 (Int32.toNatClampNeg x1))))), (am_put M 10 0 45 0))
     else none
    else some (.inl (some (.inl (.int (-1)))), (am_put M 10 0 45 0))
   else none
  else if x2 = 5 then
   if am_in x1 40 then
    some (.inl (some (.inl (.int (M 57 0 (Int32.toNatClampNeg x1))))), (am_put M 10 0 45 0))
   else none
  else if am_in x1 40 then
   some (.inl (some (.inl (.int (M 58 0 (Int32.toNatClampNeg x1))))), (am_put M 10 0 45 0))
  else none) = some res) : rX10_state (n + 100) 20 [.inr (10, 0), .inl (.int x1), .inl (.int x2)] [.inl (.int y0), .inr (10, 0)] M = some res := uX10_state ((gX10_state_20 fX10_within (rX10_state n) x1 x2 y0 M).trans h)
def rX10_cuvette (n pc : Nat) (ls st : List am_V) (M : am_M) : am_R := am_run [fX10_within] [] 1 am_X0 pX10_cuvette n pc ls st M
def gX10_cuvette (F0 : am_F) (k : Nat → List am_V → List am_V → am_M → am_R) (pc : Nat) (ls st : List am_V) (M : am_M) : am_R := am_go [F0] [] 1 am_X0 pX10_cuvette [8, 17, 63] k 100 pc ls st M
theorem uX10_cuvette {n pc : Nat} {ls st : List am_V} {M : am_M} {res : am_O × am_M} (h : gX10_cuvette fX10_within (rX10_cuvette n) pc ls st M = some res) : rX10_cuvette (n + 100) pc ls st M = some res := am_go_ok h
theorem eX10_cuvette (x1 : Int32) (x2 : Int32) (M : am_M) : fX10_cuvette [.inr (10, 0), .inl (.int x1), .inl (.int x2)] M = rX10_cuvette 100000 0 [.inr (10, 0), .inl (.int x1), .inl (.int x2), am_D] [] M := am_meth_eq rfl rfl
set_option maxRecDepth 20000 in
theorem gX10_cuvette_0 (F0 : am_F) (k : Nat → List am_V → List am_V → am_M → am_R) (x1 : Int32) (x2 : Int32) (M : am_M) : gX10_cuvette F0 k 0 [.inr (10, 0), .inl (.int x1), .inl (.int x2), am_D] [] M =
  am_ret [] 5 [.inr (10, 0)] (k 8 [.inr (10, 0), .inl (.int x1), .inl (.int x2), am_D]) (F0 [.inl (.int x1), .inl (.int 0), .inl (.int 9)] M) := (rfl)
theorem eX10_cuvette_0 {n : Nat} {x1 : Int32} {x2 : Int32} {M : am_M} {res : am_O × am_M} (h : (am_ret [] 5 [.inr (10, 0)] (rX10_cuvette n 8 [.inr (10, 0), .inl (.int x1), .inl (.int x2), am_D]) (fX10_within [.inl (.int x1), .inl (.int 0), .inl (.int 9)] M)) = some res) : rX10_cuvette (n + 100) 0 [.inr (10, 0), .inl (.int x1), .inl (.int x2), am_D] [] M = some res := uX10_cuvette ((gX10_cuvette_0 fX10_within (rX10_cuvette n) x1 x2 M).trans h)
set_option maxRecDepth 20000 in
theorem gX10_cuvette_8 (F0 : am_F) (k : Nat → List am_V → List am_V → am_M → am_R) (x1 : Int32) (x2 : Int32) (y0 : Int32) (M : am_M) : gX10_cuvette F0 k 8 [.inr (10, 0), .inl (.int x1), .inl (.int x2), am_D] [.inl (.int y0), .inr (10, 0)] M =
  if y0 = 0 then
   some (.inl (some (.inl (.int 0))), (am_put M 10 0 45 1))
  else am_ret [] 14 [.inr (10, 0)] (k 17 [.inr (10, 0), .inl (.int x1), .inl (.int x2), am_D]) (F0 [.inl (.int x2), .inl (.int 0), .inl (.int 2)] M) := (rfl)
theorem eX10_cuvette_8 {n : Nat} {x1 : Int32} {x2 : Int32} {y0 : Int32} {M : am_M} {res : am_O × am_M} (h : (if y0 = 0 then
   some (.inl (some (.inl (.int 0))), (am_put M 10 0 45 1))
  else am_ret [] 14 [.inr (10, 0)] (rX10_cuvette n 17 [.inr (10, 0), .inl (.int x1), .inl (.int x2), am_D]) (fX10_within [.inl (.int x2), .inl (.int 0), .inl (.int 2)] M)) = some res) : rX10_cuvette (n + 100) 8 [.inr (10, 0), .inl (.int x1), .inl (.int x2), am_D] [.inl (.int y0), .inr (10, 0)] M = some res := uX10_cuvette ((gX10_cuvette_8 fX10_within (rX10_cuvette n) x1 x2 y0 M).trans h)
set_option maxRecDepth 20000 in
theorem gX10_cuvette_17 (F0 : am_F) (k : Nat → List am_V → List am_V → am_M → am_R) (x1 : Int32) (x2 : Int32) (y0 : Int32) (M : am_M) : gX10_cuvette F0 k 17 [.inr (10, 0), .inl (.int x1), .inl (.int x2), am_D] [.inl (.int y0), .inr (10, 0)] M =
  if y0 = 0 then
   some (.inl (some (.inl (.int 0))), (am_put M 10 0 45 1))
  else if x2 = 1 then
   if am_in x1 10 then
    some (.inl (some (.inl (.int (M 59 0 (Int32.toNatClampNeg x1))))), (am_put M 10 0 45 0))
   else none
  else if x2 = 2 then
   if am_in x1 10 then
    some (.inl (some (.inl (.int (M 60 0 (Int32.toNatClampNeg x1))))), (am_put M 10 0 45 0))
   else none
  else k 63 [.inr (10, 0), .inl (.int x1), .inl (.int x2), .inl (.int 0)] [] (am_put M 10 0 45 0) := (rfl)
theorem eX10_cuvette_17 {n : Nat} {x1 : Int32} {x2 : Int32} {y0 : Int32} {M : am_M} {res : am_O × am_M} (h : (if y0 = 0 then
   some (.inl (some (.inl (.int 0))), (am_put M 10 0 45 1))
  else if x2 = 1 then
   if am_in x1 10 then
    some (.inl (some (.inl (.int (M 59 0 (Int32.toNatClampNeg x1))))), (am_put M 10 0 45 0))
   else none
  else if x2 = 2 then
   if am_in x1 10 then
    some (.inl (some (.inl (.int (M 60 0 (Int32.toNatClampNeg x1))))), (am_put M 10 0 45 0))
   else none
  else rX10_cuvette n 63 [.inr (10, 0), .inl (.int x1), .inl (.int x2), .inl (.int 0)] [] (am_put M 10 0 45 0)) = some res) : rX10_cuvette (n + 100) 17 [.inr (10, 0), .inl (.int x1), .inl (.int x2), am_D] [.inl (.int y0), .inr (10, 0)] M = some res := uX10_cuvette ((gX10_cuvette_17 fX10_within (rX10_cuvette n) x1 x2 y0 M).trans h)
set_option maxRecDepth 20000 in
theorem gX10_cuvette_63 (F0 : am_F) (k : Nat → List am_V → List am_V → am_M → am_R) (x1 : Int32) (x2 : Int32) (x3 : Int32) (M : am_M) : gX10_cuvette F0 k 63 [.inr (10, 0), .inl (.int x1), .inl (.int x2), .inl (.int x3)] [] M =
  if (M 10 0 14) ≤ x3 then
   some (.inl (some (.inl (.int (-1)))), M)
  else if am_in x3 40 then
   if (M 51 0 (Int32.toNatClampNeg x3)) = x1 then
    some (.inl (some (.inl (.int x3))), M)
   else k 63 [.inr (10, 0), .inl (.int x1), .inl (.int x2), .inl (.int (x3 + 1))] [] M
  else none := (rfl)
theorem eX10_cuvette_63 {n : Nat} {x1 : Int32} {x2 : Int32} {x3 : Int32} {M : am_M} {res : am_O × am_M} (h : (if (M 10 0 14) ≤ x3 then
   some (.inl (some (.inl (.int (-1)))), M)
  else if am_in x3 40 then
   if (M 51 0 (Int32.toNatClampNeg x3)) = x1 then
    some (.inl (some (.inl (.int x3))), M)
   else rX10_cuvette n 63 [.inr (10, 0), .inl (.int x1), .inl (.int x2), .inl (.int (x3 + 1))] [] M
  else none) = some res) : rX10_cuvette (n + 100) 63 [.inr (10, 0), .inl (.int x1), .inl (.int x2), .inl (.int x3)] [] M = some res := uX10_cuvette ((gX10_cuvette_63 fX10_within (rX10_cuvette n) x1 x2 x3 M).trans h)
def rX10_volume (n pc : Nat) (ls st : List am_V) (M : am_M) : am_R := am_run [fX10_within, fX10_reserved] [] 1 am_X0 pX10_volume n pc ls st M
def gX10_volume (F0 F1 : am_F) (k : Nat → List am_V → List am_V → am_M → am_R) (pc : Nat) (ls st : List am_V) (M : am_M) : am_R := am_go [F0, F1] [] 1 am_X0 pX10_volume [6, 24, 116] k 100 pc ls st M
theorem uX10_volume {n pc : Nat} {ls st : List am_V} {M : am_M} {res : am_O × am_M} (h : gX10_volume fX10_within fX10_reserved (rX10_volume n) pc ls st M = some res) : rX10_volume (n + 100) pc ls st M = some res := am_go_ok h
theorem eX10_volume (x1 : Int32) (x2 : Int32) (M : am_M) : fX10_volume [.inr (10, 0), .inl (.int x1), .inl (.int x2)] M = rX10_volume 100000 0 [.inr (10, 0), .inl (.int x1), .inl (.int x2), am_D] [] M := am_meth_eq rfl rfl
set_option maxRecDepth 20000 in
theorem gX10_volume_0 (F0 F1 : am_F) (k : Nat → List am_V → List am_V → am_M → am_R) (x1 : Int32) (x2 : Int32) (M : am_M) : gX10_volume F0 F1 k 0 [.inr (10, 0), .inl (.int x1), .inl (.int x2), am_D] [] M =
  am_ret [] 3 [] (k 6 [.inr (10, 0), .inl (.int x1), .inl (.int x2), am_D]) (F0 [.inl (.int x1), .inl (.int 0), .inl (.int 2)] M) := (rfl)
theorem eX10_volume_0 {n : Nat} {x1 : Int32} {x2 : Int32} {M : am_M} {res : am_O × am_M} (h : (am_ret [] 3 [] (rX10_volume n 6 [.inr (10, 0), .inl (.int x1), .inl (.int x2), am_D]) (fX10_within [.inl (.int x1), .inl (.int 0), .inl (.int 2)] M)) = some res) : rX10_volume (n + 100) 0 [.inr (10, 0), .inl (.int x1), .inl (.int x2), am_D] [] M = some res := uX10_volume ((gX10_volume_0 fX10_within fX10_reserved (rX10_volume n) x1 x2 M).trans h)
set_option maxRecDepth 20000 in
theorem gX10_volume_6 (F0 F1 : am_F) (k : Nat → List am_V → List am_V → am_M → am_R) (x1 : Int32) (x2 : Int32) (y0 : Int32) (M : am_M) : gX10_volume F0 F1 k 6 [.inr (10, 0), .inl (.int x1), .inl (.int x2), am_D] [.inl (.int y0)] M =
  if y0 = 0 then
   some (.inl (some (.inl (.int 0))), (am_put M 10 0 45 1))
  else if x1 = 0 then
   am_ret [] 21 [] (k 24 [.inr (10, 0), .inl (.int x1), .inl (.int x2), am_D]) (F0 [.inl (.int x2), .inl (.int 0), .inl (.int 5)] M)
  else am_ret [] 21 [] (k 24 [.inr (10, 0), .inl (.int x1), .inl (.int x2), am_D]) (F0 [.inl (.int x2), .inl (.int 0), .inl (.int 7)] M) := (rfl)
theorem eX10_volume_6 {n : Nat} {x1 : Int32} {x2 : Int32} {y0 : Int32} {M : am_M} {res : am_O × am_M} (h : (if y0 = 0 then
   some (.inl (some (.inl (.int 0))), (am_put M 10 0 45 1))
  else if x1 = 0 then
   am_ret [] 21 [] (rX10_volume n 24 [.inr (10, 0), .inl (.int x1), .inl (.int x2), am_D]) (fX10_within [.inl (.int x2), .inl (.int 0), .inl (.int 5)] M)
  else am_ret [] 21 [] (rX10_volume n 24 [.inr (10, 0), .inl (.int x1), .inl (.int x2), am_D]) (fX10_within [.inl (.int x2), .inl (.int 0), .inl (.int 7)] M)) = some res) : rX10_volume (n + 100) 6 [.inr (10, 0), .inl (.int x1), .inl (.int x2), am_D] [.inl (.int y0)] M = some res := uX10_volume ((gX10_volume_6 fX10_within fX10_reserved (rX10_volume n) x1 x2 y0 M).trans h)
set_option maxRecDepth 20000 in
theorem gX10_volume_24 (F0 F1 : am_F) (k : Nat → List am_V → List am_V → am_M → am_R) (x1 : Int32) (x2 : Int32) (y0 : Int32) (M : am_M) : gX10_volume F0 F1 k 24 [.inr (10, 0), .inl (.int x1), .inl (.int x2), am_D] [.inl (.int y0)] M =
  if y0 = 0 then
   some (.inl (some (.inl (.int 0))), (am_put M 10 0 45 1))
  else if x1 = 0 then
   if am_in x2 6 then
    if (M 37 0 (Int32.toNatClampNeg x2)) = 0 then
     some (.inl (some (.inl (.int 0))), (am_put M 10 0 45 2))
    else if x1 = 0 then
     if am_in x2 6 then
      k 116 [.inr (10, 0), .inl (.int x1), .inl (.int x2), .inl (.int 1)] [.inl (.int (M 39 0 (Int32.toNatClampNeg x2)))] (am_put M 10 0 45 0)
     else none
    else if x1 = 1 then
     if am_in x2 8 then
      k 116 [.inr (10, 0), .inl (.int x1), .inl (.int x2), .inl (.int 1)] [.inl (.int (M 41 0 (Int32.toNatClampNeg x2)))] (am_put M 10 0 45 0)
     else none
    else am_ret [] 113 [] (k 116 [.inr (10, 0), .inl (.int x1), .inl (.int x2), .inl (.int 1)]) (F1 [.inr (10, 0), .inl (.int x2)] (am_put M 10 0 45 0))
   else none
  else if am_in x2 8 then
   if 0 ≤ (M 40 0 (Int32.toNatClampNeg x2)) then
    if x1 = 0 then
     if am_in x2 6 then
      k 116 [.inr (10, 0), .inl (.int x1), .inl (.int x2), .inl (.int 1)] [.inl (.int (M 39 0 (Int32.toNatClampNeg x2)))] (am_put M 10 0 45 0)
     else none
    else if x1 = 1 then
     if am_in x2 8 then
      k 116 [.inr (10, 0), .inl (.int x1), .inl (.int x2), .inl (.int 1)] [.inl (.int (M 41 0 (Int32.toNatClampNeg x2)))] (am_put M 10 0 45 0)
     else none
    else am_ret [] 113 [] (k 116 [.inr (10, 0), .inl (.int x1), .inl (.int x2), .inl (.int 1)]) (F1 [.inr (10, 0), .inl (.int x2)] (am_put M 10 0 45 0))
   else some (.inl (some (.inl (.int 0))), (am_put M 10 0 45 2))
  else none := (rfl)
theorem eX10_volume_24 {n : Nat} {x1 : Int32} {x2 : Int32} {y0 : Int32} {M : am_M} {res : am_O × am_M} (h : (if y0 = 0 then
   some (.inl (some (.inl (.int 0))), (am_put M 10 0 45 1))
  else if x1 = 0 then
   if am_in x2 6 then
    if (M 37 0 (Int32.toNatClampNeg x2)) = 0 then
     some (.inl (some (.inl (.int 0))), (am_put M 10 0 45 2))
    else if x1 = 0 then
     if am_in x2 6 then
      rX10_volume n 116 [.inr (10, 0), .inl (.int x1), .inl (.int x2), .inl (.int 1)] [.inl (.int (M 39 0 (Int32.toNatClampNeg x2)))] (am_put M 10 0 45 0)
     else none
    else if x1 = 1 then
     if am_in x2 8 then
      rX10_volume n 116 [.inr (10, 0), .inl (.int x1), .inl (.int x2), .inl (.int 1)] [.inl (.int (M 41 0 (Int32.toNatClampNeg x2)))] (am_put M 10 0 45 0)
     else none
    else am_ret [] 113 [] (rX10_volume n 116 [.inr (10, 0), .inl (.int x1), .inl (.int x2), .inl (.int 1)]) (fX10_reserved [.inr (10, 0), .inl (.int x2)] (am_put M 10 0 45 0))
   else none
  else if am_in x2 8 then
   if 0 ≤ (M 40 0 (Int32.toNatClampNeg x2)) then
    if x1 = 0 then
     if am_in x2 6 then
      rX10_volume n 116 [.inr (10, 0), .inl (.int x1), .inl (.int x2), .inl (.int 1)] [.inl (.int (M 39 0 (Int32.toNatClampNeg x2)))] (am_put M 10 0 45 0)
     else none
    else if x1 = 1 then
     if am_in x2 8 then
      rX10_volume n 116 [.inr (10, 0), .inl (.int x1), .inl (.int x2), .inl (.int 1)] [.inl (.int (M 41 0 (Int32.toNatClampNeg x2)))] (am_put M 10 0 45 0)
     else none
    else am_ret [] 113 [] (rX10_volume n 116 [.inr (10, 0), .inl (.int x1), .inl (.int x2), .inl (.int 1)]) (fX10_reserved [.inr (10, 0), .inl (.int x2)] (am_put M 10 0 45 0))
   else some (.inl (some (.inl (.int 0))), (am_put M 10 0 45 2))
  else none) = some res) : rX10_volume (n + 100) 24 [.inr (10, 0), .inl (.int x1), .inl (.int x2), am_D] [.inl (.int y0)] M = some res := uX10_volume ((gX10_volume_24 fX10_within fX10_reserved (rX10_volume n) x1 x2 y0 M).trans h)
set_option maxRecDepth 20000 in
theorem gX10_volume_116 (F0 F1 : am_F) (k : Nat → List am_V → List am_V → am_M → am_R) (x1 : Int32) (x2 : Int32) (x3 : Int32) (y0 : Int32) (M : am_M) : gX10_volume F0 F1 k 116 [.inr (10, 0), .inl (.int x1), .inl (.int x2), .inl (.int x3)] [.inl (.int y0)] M =
  some (.inl (some (.inl (.int y0))), M) := (rfl)
theorem eX10_volume_116 {n : Nat} {x1 : Int32} {x2 : Int32} {x3 : Int32} {y0 : Int32} {M : am_M} {res : am_O × am_M} (h : (some (.inl (some (.inl (.int y0))), M)) = some res) : rX10_volume (n + 100) 116 [.inr (10, 0), .inl (.int x1), .inl (.int x2), .inl (.int x3)] [.inl (.int y0)] M = some res := uX10_volume ((gX10_volume_116 fX10_within fX10_reserved (rX10_volume n) x1 x2 x3 y0 M).trans h)
def rX10_trend (n pc : Nat) (ls st : List am_V) (M : am_M) : am_R := am_run [fX10_isTest] [] 1 am_X0 pX10_trend n pc ls st M
def gX10_trend (F0 : am_F) (k : Nat → List am_V → List am_V → am_M → am_R) (pc : Nat) (ls st : List am_V) (M : am_M) : am_R := am_go [F0] [] 1 am_X0 pX10_trend [5] k 100 pc ls st M
theorem uX10_trend {n pc : Nat} {ls st : List am_V} {M : am_M} {res : am_O × am_M} (h : gX10_trend fX10_isTest (rX10_trend n) pc ls st M = some res) : rX10_trend (n + 100) pc ls st M = some res := am_go_ok h
theorem eX10_trend (x1 : Int32) (x2 : Int32) (M : am_M) : fX10_trend [.inr (10, 0), .inl (.int x1), .inl (.int x2)] M = rX10_trend 100000 0 [.inr (10, 0), .inl (.int x1), .inl (.int x2)] [] M := am_meth_eq rfl rfl
set_option maxRecDepth 20000 in
theorem gX10_trend_0 (F0 : am_F) (k : Nat → List am_V → List am_V → am_M → am_R) (x1 : Int32) (x2 : Int32) (M : am_M) : gX10_trend F0 k 0 [.inr (10, 0), .inl (.int x1), .inl (.int x2)] [] M =
  am_ret [] 2 [.inr (10, 0)] (k 5 [.inr (10, 0), .inl (.int x1), .inl (.int x2)]) (F0 [.inl (.int x1)] M) := (rfl)
theorem eX10_trend_0 {n : Nat} {x1 : Int32} {x2 : Int32} {M : am_M} {res : am_O × am_M} (h : (am_ret [] 2 [.inr (10, 0)] (rX10_trend n 5 [.inr (10, 0), .inl (.int x1), .inl (.int x2)]) (fX10_isTest [.inl (.int x1)] M)) = some res) : rX10_trend (n + 100) 0 [.inr (10, 0), .inl (.int x1), .inl (.int x2)] [] M = some res := uX10_trend ((gX10_trend_0 fX10_isTest (rX10_trend n) x1 x2 M).trans h)
set_option maxRecDepth 20000 in
theorem gX10_trend_5 (F0 : am_F) (k : Nat → List am_V → List am_V → am_M → am_R) (x1 : Int32) (x2 : Int32) (y0 : Int32) (M : am_M) : gX10_trend F0 k 5 [.inr (10, 0), .inl (.int x1), .inl (.int x2)] [.inl (.int y0), .inr (10, 0)] M =
  if y0 = 0 then
   some (.inl (some (.inl (.int 0))), (am_put M 10 0 45 1))
  else if x2 < 0 then
   some (.inl (some (.inl (.int 0))), (am_put M 10 0 45 2))
  else if am_in x1 4 then
   if x2 < (M 36 0 (Int32.toNatClampNeg x1)) then
    if am_in x1 4 then
     if am_in ((((10 * x1) + (M 36 0 (Int32.toNatClampNeg x1))) - 1) - x2) 40 then
      some (.inl (some (.inl (.int (M 35 0 (Int32.toNatClampNeg ((((10 * x1) + (M 36 0 (Int32.toNatClampNeg x1))) - 1) - x2)))))), (am_put M 10 0 45 0))
     else none
    else none
   else some (.inl (some (.inl (.int 0))), (am_put M 10 0 45 2))
  else none := (rfl)
theorem eX10_trend_5 {n : Nat} {x1 : Int32} {x2 : Int32} {y0 : Int32} {M : am_M} {res : am_O × am_M} (h : (if y0 = 0 then
   some (.inl (some (.inl (.int 0))), (am_put M 10 0 45 1))
  else if x2 < 0 then
   some (.inl (some (.inl (.int 0))), (am_put M 10 0 45 2))
  else if am_in x1 4 then
   if x2 < (M 36 0 (Int32.toNatClampNeg x1)) then
    if am_in x1 4 then
     if am_in ((((10 * x1) + (M 36 0 (Int32.toNatClampNeg x1))) - 1) - x2) 40 then
      some (.inl (some (.inl (.int (M 35 0 (Int32.toNatClampNeg ((((10 * x1) + (M 36 0 (Int32.toNatClampNeg x1))) - 1) - x2)))))), (am_put M 10 0 45 0))
     else none
    else none
   else some (.inl (some (.inl (.int 0))), (am_put M 10 0 45 2))
  else none) = some res) : rX10_trend (n + 100) 5 [.inr (10, 0), .inl (.int x1), .inl (.int x2)] [.inl (.int y0), .inr (10, 0)] M = some res := uX10_trend ((gX10_trend_5 fX10_isTest (rX10_trend n) x1 x2 y0 M).trans h)
def rX10_above (n pc : Nat) (ls st : List am_V) (M : am_M) : am_R := am_run [fX10_of] [] 3 am_X0 pX10_above n pc ls st M
def gX10_above (F0 : am_F) (k : Nat → List am_V → List am_V → am_M → am_R) (pc : Nat) (ls st : List am_V) (M : am_M) : am_R := am_go [F0] [] 3 am_X0 pX10_above [28] k 100 pc ls st M
theorem uX10_above {n pc : Nat} {ls st : List am_V} {M : am_M} {res : am_O × am_M} (h : gX10_above fX10_of (rX10_above n) pc ls st M = some res) : rX10_above (n + 100) pc ls st M = some res := am_go_ok h
theorem eX10_above (x1 : Int32) (x2 : Int32) (M : am_M) : fX10_above [.inr (10, 0), .inl (.int x1), .inl (.int x2)] M = rX10_above 100000 0 [.inr (10, 0), .inl (.int x1), .inl (.int x2)] [] M := am_meth_eq rfl rfl
set_option maxRecDepth 20000 in
theorem gX10_above_0 (F0 : am_F) (k : Nat → List am_V → List am_V → am_M → am_R) (x1 : Int32) (x2 : Int32) (M : am_M) : gX10_above F0 k 0 [.inr (10, 0), .inl (.int x1), .inl (.int x2)] [] M =
  if am_in x1 4 then
   if am_in ((((10 * x1) + (M 36 0 (Int32.toNatClampNeg x1))) - 1) - x2) 40 then
    am_ret [] 25 [.inl (.long (Int32.toInt64 (M 35 0 (Int32.toNatClampNeg ((((10 * x1) + (M 36 0 (Int32.toNatClampNeg x1))) - 1) - x2)))))] (k 28 [.inr (10, 0), .inl (.int x1), .inl (.int x2)]) (F0 [.inr (10, 0), .inl (.int x1), .inl (.int 14)] M)
   else none
  else none := (rfl)
theorem eX10_above_0 {n : Nat} {x1 : Int32} {x2 : Int32} {M : am_M} {res : am_O × am_M} (h : (if am_in x1 4 then
   if am_in ((((10 * x1) + (M 36 0 (Int32.toNatClampNeg x1))) - 1) - x2) 40 then
    am_ret [] 25 [.inl (.long (Int32.toInt64 (M 35 0 (Int32.toNatClampNeg ((((10 * x1) + (M 36 0 (Int32.toNatClampNeg x1))) - 1) - x2)))))] (rX10_above n 28 [.inr (10, 0), .inl (.int x1), .inl (.int x2)]) (fX10_of [.inr (10, 0), .inl (.int x1), .inl (.int 14)] M)
   else none
  else none) = some res) : rX10_above (n + 100) 0 [.inr (10, 0), .inl (.int x1), .inl (.int x2)] [] M = some res := uX10_above ((gX10_above_0 fX10_of (rX10_above n) x1 x2 M).trans h)
set_option maxRecDepth 20000 in
theorem gX10_above_28 (F0 : am_F) (k : Nat → List am_V → List am_V → am_M → am_R) (x1 : Int32) (x2 : Int32) (y0 : Int32) (y1 : Int64) (M : am_M) : gX10_above F0 k 28 [.inr (10, 0), .inl (.int x1), .inl (.int x2)] [.inl (.int y0), .inl (.long y1)] M =
  some (.inl (some (.inl (.long (y1 - (Int32.toInt64 y0))))), M) := (rfl)
theorem eX10_above_28 {n : Nat} {x1 : Int32} {x2 : Int32} {y0 : Int32} {y1 : Int64} {M : am_M} {res : am_O × am_M} (h : (some (.inl (some (.inl (.long (y1 - (Int32.toInt64 y0))))), M)) = some res) : rX10_above (n + 100) 28 [.inr (10, 0), .inl (.int x1), .inl (.int x2)] [.inl (.int y0), .inl (.long y1)] M = some res := uX10_above ((gX10_above_28 fX10_of (rX10_above n) x1 x2 y0 y1 M).trans h)
def rX10_rules (n pc : Nat) (ls st : List am_V) (M : am_M) : am_R := am_run [fX10_isTest, fX10_of, fX10_above] [] 1 am_X0 pX10_rules n pc ls st M
def gX10_rules (F0 F1 F2 : am_F) (k : Nat → List am_V → List am_V → am_M → am_R) (pc : Nat) (ls st : List am_V) (M : am_M) : am_R := am_go [F0, F1, F2] [] 1 am_X0 pX10_rules [5, 41, 49, 64, 89, 113, 132, 174, 192, 207] k 100 pc ls st M
theorem uX10_rules {n pc : Nat} {ls st : List am_V} {M : am_M} {res : am_O × am_M} (h : gX10_rules fX10_isTest fX10_of fX10_above (rX10_rules n) pc ls st M = some res) : rX10_rules (n + 100) pc ls st M = some res := am_go_ok h
theorem eX10_rules (x1 : Int32) (M : am_M) : fX10_rules [.inr (10, 0), .inl (.int x1)] M = rX10_rules 100000 0 [.inr (10, 0), .inl (.int x1), am_D, am_D, am_D, am_D, am_D, am_D, am_D, am_D] [] M := am_meth_eq rfl rfl
set_option maxRecDepth 20000 in
theorem gX10_rules_0 (F0 F1 F2 : am_F) (k : Nat → List am_V → List am_V → am_M → am_R) (x1 : Int32) (M : am_M) : gX10_rules F0 F1 F2 k 0 [.inr (10, 0), .inl (.int x1), am_D, am_D, am_D, am_D, am_D, am_D, am_D, am_D] [] M =
  am_ret [] 2 [.inr (10, 0)] (k 5 [.inr (10, 0), .inl (.int x1), am_D, am_D, am_D, am_D, am_D, am_D, am_D, am_D]) (F0 [.inl (.int x1)] M) := (rfl)
theorem eX10_rules_0 {n : Nat} {x1 : Int32} {M : am_M} {res : am_O × am_M} (h : (am_ret [] 2 [.inr (10, 0)] (rX10_rules n 5 [.inr (10, 0), .inl (.int x1), am_D, am_D, am_D, am_D, am_D, am_D, am_D, am_D]) (fX10_isTest [.inl (.int x1)] M)) = some res) : rX10_rules (n + 100) 0 [.inr (10, 0), .inl (.int x1), am_D, am_D, am_D, am_D, am_D, am_D, am_D, am_D] [] M = some res := uX10_rules ((gX10_rules_0 fX10_isTest fX10_of fX10_above (rX10_rules n) x1 M).trans h)
set_option maxRecDepth 20000 in
theorem gX10_rules_5 (F0 F1 F2 : am_F) (k : Nat → List am_V → List am_V → am_M → am_R) (x1 : Int32) (y0 : Int32) (M : am_M) : gX10_rules F0 F1 F2 k 5 [.inr (10, 0), .inl (.int x1), am_D, am_D, am_D, am_D, am_D, am_D, am_D, am_D] [.inl (.int y0), .inr (10, 0)] M =
  if y0 = 0 then
   some (.inl (some (.inl (.int 0))), (am_put M 10 0 45 1))
  else if am_in x1 4 then
   if (M 36 0 (Int32.toNatClampNeg x1)) = 0 then
    some (.inl (some (.inl (.int 0))), (am_put M 10 0 45 0))
   else am_ret [] 38 [] (k 41 [.inr (10, 0), .inl (.int x1), am_D, am_D, am_D, am_D, am_D, am_D, am_D, am_D]) (F1 [.inr (10, 0), .inl (.int x1), .inl (.int 15)] (am_put M 10 0 45 0))
  else none := (rfl)
theorem eX10_rules_5 {n : Nat} {x1 : Int32} {y0 : Int32} {M : am_M} {res : am_O × am_M} (h : (if y0 = 0 then
   some (.inl (some (.inl (.int 0))), (am_put M 10 0 45 1))
  else if am_in x1 4 then
   if (M 36 0 (Int32.toNatClampNeg x1)) = 0 then
    some (.inl (some (.inl (.int 0))), (am_put M 10 0 45 0))
   else am_ret [] 38 [] (rX10_rules n 41 [.inr (10, 0), .inl (.int x1), am_D, am_D, am_D, am_D, am_D, am_D, am_D, am_D]) (fX10_of [.inr (10, 0), .inl (.int x1), .inl (.int 15)] (am_put M 10 0 45 0))
  else none) = some res) : rX10_rules (n + 100) 5 [.inr (10, 0), .inl (.int x1), am_D, am_D, am_D, am_D, am_D, am_D, am_D, am_D] [.inl (.int y0), .inr (10, 0)] M = some res := uX10_rules ((gX10_rules_5 fX10_isTest fX10_of fX10_above (rX10_rules n) x1 y0 M).trans h)
set_option maxRecDepth 20000 in
theorem gX10_rules_41 (F0 F1 F2 : am_F) (k : Nat → List am_V → List am_V → am_M → am_R) (x1 : Int32) (y0 : Int32) (M : am_M) : gX10_rules F0 F1 F2 k 41 [.inr (10, 0), .inl (.int x1), am_D, am_D, am_D, am_D, am_D, am_D, am_D, am_D] [.inl (.int y0)] M =
  am_ret [] 46 [] (k 49 [.inr (10, 0), .inl (.int x1), .inl (.long (Int32.toInt64 y0)), am_D, am_D, am_D, am_D, am_D, am_D, am_D]) (F2 [.inr (10, 0), .inl (.int x1), .inl (.int 0)] M) := (rfl)
theorem eX10_rules_41 {n : Nat} {x1 : Int32} {y0 : Int32} {M : am_M} {res : am_O × am_M} (h : (am_ret [] 46 [] (rX10_rules n 49 [.inr (10, 0), .inl (.int x1), .inl (.long (Int32.toInt64 y0)), am_D, am_D, am_D, am_D, am_D, am_D, am_D]) (fX10_above [.inr (10, 0), .inl (.int x1), .inl (.int 0)] M)) = some res) : rX10_rules (n + 100) 41 [.inr (10, 0), .inl (.int x1), am_D, am_D, am_D, am_D, am_D, am_D, am_D, am_D] [.inl (.int y0)] M = some res := uX10_rules ((gX10_rules_41 fX10_isTest fX10_of fX10_above (rX10_rules n) x1 y0 M).trans h)
set_option maxRecDepth 20000 in
theorem gX10_rules_49 (F0 F1 F2 : am_F) (k : Nat → List am_V → List am_V → am_M → am_R) (x1 : Int32) (x2 : Int64) (y0 : Int64) (M : am_M) : gX10_rules F0 F1 F2 k 49 [.inr (10, 0), .inl (.int x1), .inl (.long x2), am_D, am_D, am_D, am_D, am_D, am_D, am_D] [.inl (.long y0)] M =
  if 0 < (lg_cmp y0 (3 * x2)) then
   k 89 [.inr (10, 0), .inl (.int x1), .inl (.long x2), am_D, .inl (.int 1), .inl (.int 0), .inl (.int 0), .inl (.int 0), am_D, am_D] [] M
  else am_ret [] 61 [] (k 64 [.inr (10, 0), .inl (.int x1), .inl (.long x2), am_D, am_D, am_D, am_D, am_D, am_D, am_D]) (F2 [.inr (10, 0), .inl (.int x1), .inl (.int 0)] M) := (rfl)
theorem eX10_rules_49 {n : Nat} {x1 : Int32} {x2 : Int64} {y0 : Int64} {M : am_M} {res : am_O × am_M} (h : (if 0 < (lg_cmp y0 (3 * x2)) then
   rX10_rules n 89 [.inr (10, 0), .inl (.int x1), .inl (.long x2), am_D, .inl (.int 1), .inl (.int 0), .inl (.int 0), .inl (.int 0), am_D, am_D] [] M
  else am_ret [] 61 [] (rX10_rules n 64 [.inr (10, 0), .inl (.int x1), .inl (.long x2), am_D, am_D, am_D, am_D, am_D, am_D, am_D]) (fX10_above [.inr (10, 0), .inl (.int x1), .inl (.int 0)] M)) = some res) : rX10_rules (n + 100) 49 [.inr (10, 0), .inl (.int x1), .inl (.long x2), am_D, am_D, am_D, am_D, am_D, am_D, am_D] [.inl (.long y0)] M = some res := uX10_rules ((gX10_rules_49 fX10_isTest fX10_of fX10_above (rX10_rules n) x1 x2 y0 M).trans h)
set_option maxRecDepth 20000 in
theorem gX10_rules_89 (F0 F1 F2 : am_F) (k : Nat → List am_V → List am_V → am_M → am_R) (x1 : Int32) (x2 : Int64) (x4 : Int32) (x5 : Int32) (x6 : Int32) (x7 : Int32) (M : am_M) : gX10_rules F0 F1 F2 k 89 [.inr (10, 0), .inl (.int x1), .inl (.long x2), am_D, .inl (.int x4), .inl (.int x5), .inl (.int x6), .inl (.int x7), am_D, am_D] [] M =
  if 3 ≤ x7 then
   if 2 ≤ x5 then
    k 174 [.inr (10, 0), .inl (.int x1), .inl (.long x2), am_D, .inl (.int (x4 + 2)), .inl (.int x5), .inl (.int x6), .inl (.int 0), .inl (.int 0), .inl (.int 0)] [] M
   else if x6 < 2 then
    k 174 [.inr (10, 0), .inl (.int x1), .inl (.long x2), am_D, .inl (.int x4), .inl (.int x5), .inl (.int x6), .inl (.int 0), .inl (.int 0), .inl (.int 0)] [] M
   else k 174 [.inr (10, 0), .inl (.int x1), .inl (.long x2), am_D, .inl (.int (x4 + 2)), .inl (.int x5), .inl (.int x6), .inl (.int 0), .inl (.int 0), .inl (.int 0)] [] M
  else if am_in x1 4 then
   if (M 36 0 (Int32.toNatClampNeg x1)) ≤ x7 then
    if 2 ≤ x5 then
     k 174 [.inr (10, 0), .inl (.int x1), .inl (.long x2), am_D, .inl (.int (x4 + 2)), .inl (.int x5), .inl (.int x6), .inl (.int 0), .inl (.int 0), .inl (.int 0)] [] M
    else if x6 < 2 then
     k 174 [.inr (10, 0), .inl (.int x1), .inl (.long x2), am_D, .inl (.int x4), .inl (.int x5), .inl (.int x6), .inl (.int 0), .inl (.int 0), .inl (.int 0)] [] M
    else k 174 [.inr (10, 0), .inl (.int x1), .inl (.long x2), am_D, .inl (.int (x4 + 2)), .inl (.int x5), .inl (.int x6), .inl (.int 0), .inl (.int 0), .inl (.int 0)] [] M
   else am_ret [] 110 [] (k 113 [.inr (10, 0), .inl (.int x1), .inl (.long x2), am_D, .inl (.int x4), .inl (.int x5), .inl (.int x6), .inl (.int x7), am_D, am_D]) (F2 [.inr (10, 0), .inl (.int x1), .inl (.int x7)] M)
  else none := (rfl)
theorem eX10_rules_89 {n : Nat} {x1 : Int32} {x2 : Int64} {x4 : Int32} {x5 : Int32} {x6 : Int32} {x7 : Int32} {M : am_M} {res : am_O × am_M} (h : (if 3 ≤ x7 then
   if 2 ≤ x5 then
    rX10_rules n 174 [.inr (10, 0), .inl (.int x1), .inl (.long x2), am_D, .inl (.int (x4 + 2)), .inl (.int x5), .inl (.int x6), .inl (.int 0), .inl (.int 0), .inl (.int 0)] [] M
   else if x6 < 2 then
    rX10_rules n 174 [.inr (10, 0), .inl (.int x1), .inl (.long x2), am_D, .inl (.int x4), .inl (.int x5), .inl (.int x6), .inl (.int 0), .inl (.int 0), .inl (.int 0)] [] M
   else rX10_rules n 174 [.inr (10, 0), .inl (.int x1), .inl (.long x2), am_D, .inl (.int (x4 + 2)), .inl (.int x5), .inl (.int x6), .inl (.int 0), .inl (.int 0), .inl (.int 0)] [] M
  else if am_in x1 4 then
   if (M 36 0 (Int32.toNatClampNeg x1)) ≤ x7 then
    if 2 ≤ x5 then
     rX10_rules n 174 [.inr (10, 0), .inl (.int x1), .inl (.long x2), am_D, .inl (.int (x4 + 2)), .inl (.int x5), .inl (.int x6), .inl (.int 0), .inl (.int 0), .inl (.int 0)] [] M
    else if x6 < 2 then
     rX10_rules n 174 [.inr (10, 0), .inl (.int x1), .inl (.long x2), am_D, .inl (.int x4), .inl (.int x5), .inl (.int x6), .inl (.int 0), .inl (.int 0), .inl (.int 0)] [] M
    else rX10_rules n 174 [.inr (10, 0), .inl (.int x1), .inl (.long x2), am_D, .inl (.int (x4 + 2)), .inl (.int x5), .inl (.int x6), .inl (.int 0), .inl (.int 0), .inl (.int 0)] [] M
   else am_ret [] 110 [] (rX10_rules n 113 [.inr (10, 0), .inl (.int x1), .inl (.long x2), am_D, .inl (.int x4), .inl (.int x5), .inl (.int x6), .inl (.int x7), am_D, am_D]) (fX10_above [.inr (10, 0), .inl (.int x1), .inl (.int x7)] M)
  else none) = some res) : rX10_rules (n + 100) 89 [.inr (10, 0), .inl (.int x1), .inl (.long x2), am_D, .inl (.int x4), .inl (.int x5), .inl (.int x6), .inl (.int x7), am_D, am_D] [] M = some res := uX10_rules ((gX10_rules_89 fX10_isTest fX10_of fX10_above (rX10_rules n) x1 x2 x4 x5 x6 x7 M).trans h)
set_option maxRecDepth 20000 in
theorem gX10_rules_64 (F0 F1 F2 : am_F) (k : Nat → List am_V → List am_V → am_M → am_R) (x1 : Int32) (x2 : Int64) (y0 : Int64) (M : am_M) : gX10_rules F0 F1 F2 k 64 [.inr (10, 0), .inl (.int x1), .inl (.long x2), am_D, am_D, am_D, am_D, am_D, am_D, am_D] [.inl (.long y0)] M =
  if 0 ≤ (lg_cmp y0 ((-3) * x2)) then
   k 89 [.inr (10, 0), .inl (.int x1), .inl (.long x2), am_D, .inl (.int 0), .inl (.int 0), .inl (.int 0), .inl (.int 0), am_D, am_D] [] M
  else k 89 [.inr (10, 0), .inl (.int x1), .inl (.long x2), am_D, .inl (.int 1), .inl (.int 0), .inl (.int 0), .inl (.int 0), am_D, am_D] [] M := (rfl)
theorem eX10_rules_64 {n : Nat} {x1 : Int32} {x2 : Int64} {y0 : Int64} {M : am_M} {res : am_O × am_M} (h : (if 0 ≤ (lg_cmp y0 ((-3) * x2)) then
   rX10_rules n 89 [.inr (10, 0), .inl (.int x1), .inl (.long x2), am_D, .inl (.int 0), .inl (.int 0), .inl (.int 0), .inl (.int 0), am_D, am_D] [] M
  else rX10_rules n 89 [.inr (10, 0), .inl (.int x1), .inl (.long x2), am_D, .inl (.int 1), .inl (.int 0), .inl (.int 0), .inl (.int 0), am_D, am_D] [] M) = some res) : rX10_rules (n + 100) 64 [.inr (10, 0), .inl (.int x1), .inl (.long x2), am_D, am_D, am_D, am_D, am_D, am_D, am_D] [.inl (.long y0)] M = some res := uX10_rules ((gX10_rules_64 fX10_isTest fX10_of fX10_above (rX10_rules n) x1 x2 y0 M).trans h)
set_option maxRecDepth 20000 in
theorem gX10_rules_174 (F0 F1 F2 : am_F) (k : Nat → List am_V → List am_V → am_M → am_R) (x1 : Int32) (x2 : Int64) (x4 : Int32) (x5 : Int32) (x6 : Int32) (x7 : Int32) (x8 : Int32) (x9 : Int32) (M : am_M) : gX10_rules F0 F1 F2 k 174 [.inr (10, 0), .inl (.int x1), .inl (.long x2), am_D, .inl (.int x4), .inl (.int x5), .inl (.int x6), .inl (.int x7), .inl (.int x8), .inl (.int x9)] [] M =
  if am_in x1 4 then
   if (M 36 0 (Int32.toNatClampNeg x1)) ≤ x9 then
    if x7 = 10 then
     some (.inl (some (.inl (.int (x4 + 4)))), M)
    else if x8 = 10 then
     some (.inl (some (.inl (.int (x4 + 4)))), M)
    else some (.inl (some (.inl (.int x4))), M)
   else am_ret [] 189 [] (k 192 [.inr (10, 0), .inl (.int x1), .inl (.long x2), am_D, .inl (.int x4), .inl (.int x5), .inl (.int x6), .inl (.int x7), .inl (.int x8), .inl (.int x9)]) (F2 [.inr (10, 0), .inl (.int x1), .inl (.int x9)] M)
  else none := (rfl)
theorem eX10_rules_174 {n : Nat} {x1 : Int32} {x2 : Int64} {x4 : Int32} {x5 : Int32} {x6 : Int32} {x7 : Int32} {x8 : Int32} {x9 : Int32} {M : am_M} {res : am_O × am_M} (h : (if am_in x1 4 then
   if (M 36 0 (Int32.toNatClampNeg x1)) ≤ x9 then
    if x7 = 10 then
     some (.inl (some (.inl (.int (x4 + 4)))), M)
    else if x8 = 10 then
     some (.inl (some (.inl (.int (x4 + 4)))), M)
    else some (.inl (some (.inl (.int x4))), M)
   else am_ret [] 189 [] (rX10_rules n 192 [.inr (10, 0), .inl (.int x1), .inl (.long x2), am_D, .inl (.int x4), .inl (.int x5), .inl (.int x6), .inl (.int x7), .inl (.int x8), .inl (.int x9)]) (fX10_above [.inr (10, 0), .inl (.int x1), .inl (.int x9)] M)
  else none) = some res) : rX10_rules (n + 100) 174 [.inr (10, 0), .inl (.int x1), .inl (.long x2), am_D, .inl (.int x4), .inl (.int x5), .inl (.int x6), .inl (.int x7), .inl (.int x8), .inl (.int x9)] [] M = some res := uX10_rules ((gX10_rules_174 fX10_isTest fX10_of fX10_above (rX10_rules n) x1 x2 x4 x5 x6 x7 x8 x9 M).trans h)
set_option maxRecDepth 20000 in
theorem gX10_rules_113 (F0 F1 F2 : am_F) (k : Nat → List am_V → List am_V → am_M → am_R) (x1 : Int32) (x2 : Int64) (x4 : Int32) (x5 : Int32) (x6 : Int32) (x7 : Int32) (y0 : Int64) (M : am_M) : gX10_rules F0 F1 F2 k 113 [.inr (10, 0), .inl (.int x1), .inl (.long x2), am_D, .inl (.int x4), .inl (.int x5), .inl (.int x6), .inl (.int x7), am_D, am_D] [.inl (.long y0)] M =
  if (lg_cmp y0 (2 * x2)) ≤ 0 then
   am_ret [] 129 [] (k 132 [.inr (10, 0), .inl (.int x1), .inl (.long x2), am_D, .inl (.int x4), .inl (.int x5), .inl (.int x6), .inl (.int x7), am_D, am_D]) (F2 [.inr (10, 0), .inl (.int x1), .inl (.int x7)] M)
  else am_ret [] 129 [] (k 132 [.inr (10, 0), .inl (.int x1), .inl (.long x2), am_D, .inl (.int x4), .inl (.int (x5 + 1)), .inl (.int x6), .inl (.int x7), am_D, am_D]) (F2 [.inr (10, 0), .inl (.int x1), .inl (.int x7)] M) := (rfl)
theorem eX10_rules_113 {n : Nat} {x1 : Int32} {x2 : Int64} {x4 : Int32} {x5 : Int32} {x6 : Int32} {x7 : Int32} {y0 : Int64} {M : am_M} {res : am_O × am_M} (h : (if (lg_cmp y0 (2 * x2)) ≤ 0 then
   am_ret [] 129 [] (rX10_rules n 132 [.inr (10, 0), .inl (.int x1), .inl (.long x2), am_D, .inl (.int x4), .inl (.int x5), .inl (.int x6), .inl (.int x7), am_D, am_D]) (fX10_above [.inr (10, 0), .inl (.int x1), .inl (.int x7)] M)
  else am_ret [] 129 [] (rX10_rules n 132 [.inr (10, 0), .inl (.int x1), .inl (.long x2), am_D, .inl (.int x4), .inl (.int (x5 + 1)), .inl (.int x6), .inl (.int x7), am_D, am_D]) (fX10_above [.inr (10, 0), .inl (.int x1), .inl (.int x7)] M)) = some res) : rX10_rules (n + 100) 113 [.inr (10, 0), .inl (.int x1), .inl (.long x2), am_D, .inl (.int x4), .inl (.int x5), .inl (.int x6), .inl (.int x7), am_D, am_D] [.inl (.long y0)] M = some res := uX10_rules ((gX10_rules_113 fX10_isTest fX10_of fX10_above (rX10_rules n) x1 x2 x4 x5 x6 x7 y0 M).trans h)
set_option maxRecDepth 20000 in
theorem gX10_rules_192 (F0 F1 F2 : am_F) (k : Nat → List am_V → List am_V → am_M → am_R) (x1 : Int32) (x2 : Int64) (x4 : Int32) (x5 : Int32) (x6 : Int32) (x7 : Int32) (x8 : Int32) (x9 : Int32) (y0 : Int64) (M : am_M) : gX10_rules F0 F1 F2 k 192 [.inr (10, 0), .inl (.int x1), .inl (.long x2), am_D, .inl (.int x4), .inl (.int x5), .inl (.int x6), .inl (.int x7), .inl (.int x8), .inl (.int x9)] [.inl (.long y0)] M =
  if (lg_cmp y0 0) ≤ 0 then
   am_ret [] 204 [] (k 207 [.inr (10, 0), .inl (.int x1), .inl (.long x2), am_D, .inl (.int x4), .inl (.int x5), .inl (.int x6), .inl (.int x7), .inl (.int x8), .inl (.int x9)]) (F2 [.inr (10, 0), .inl (.int x1), .inl (.int x9)] M)
  else am_ret [] 204 [] (k 207 [.inr (10, 0), .inl (.int x1), .inl (.long x2), am_D, .inl (.int x4), .inl (.int x5), .inl (.int x6), .inl (.int (x7 + 1)), .inl (.int x8), .inl (.int x9)]) (F2 [.inr (10, 0), .inl (.int x1), .inl (.int x9)] M) := (rfl)
theorem eX10_rules_192 {n : Nat} {x1 : Int32} {x2 : Int64} {x4 : Int32} {x5 : Int32} {x6 : Int32} {x7 : Int32} {x8 : Int32} {x9 : Int32} {y0 : Int64} {M : am_M} {res : am_O × am_M} (h : (if (lg_cmp y0 0) ≤ 0 then
   am_ret [] 204 [] (rX10_rules n 207 [.inr (10, 0), .inl (.int x1), .inl (.long x2), am_D, .inl (.int x4), .inl (.int x5), .inl (.int x6), .inl (.int x7), .inl (.int x8), .inl (.int x9)]) (fX10_above [.inr (10, 0), .inl (.int x1), .inl (.int x9)] M)
  else am_ret [] 204 [] (rX10_rules n 207 [.inr (10, 0), .inl (.int x1), .inl (.long x2), am_D, .inl (.int x4), .inl (.int x5), .inl (.int x6), .inl (.int (x7 + 1)), .inl (.int x8), .inl (.int x9)]) (fX10_above [.inr (10, 0), .inl (.int x1), .inl (.int x9)] M)) = some res) : rX10_rules (n + 100) 192 [.inr (10, 0), .inl (.int x1), .inl (.long x2), am_D, .inl (.int x4), .inl (.int x5), .inl (.int x6), .inl (.int x7), .inl (.int x8), .inl (.int x9)] [.inl (.long y0)] M = some res := uX10_rules ((gX10_rules_192 fX10_isTest fX10_of fX10_above (rX10_rules n) x1 x2 x4 x5 x6 x7 x8 x9 y0 M).trans h)
set_option maxRecDepth 20000 in
theorem gX10_rules_132 (F0 F1 F2 : am_F) (k : Nat → List am_V → List am_V → am_M → am_R) (x1 : Int32) (x2 : Int64) (x4 : Int32) (x5 : Int32) (x6 : Int32) (x7 : Int32) (y0 : Int64) (M : am_M) : gX10_rules F0 F1 F2 k 132 [.inr (10, 0), .inl (.int x1), .inl (.long x2), am_D, .inl (.int x4), .inl (.int x5), .inl (.int x6), .inl (.int x7), am_D, am_D] [.inl (.long y0)] M =
  if 0 ≤ (lg_cmp y0 ((-2) * x2)) then
   k 89 [.inr (10, 0), .inl (.int x1), .inl (.long x2), am_D, .inl (.int x4), .inl (.int x5), .inl (.int x6), .inl (.int (x7 + 1)), am_D, am_D] [] M
  else k 89 [.inr (10, 0), .inl (.int x1), .inl (.long x2), am_D, .inl (.int x4), .inl (.int x5), .inl (.int (x6 + 1)), .inl (.int (x7 + 1)), am_D, am_D] [] M := (rfl)
theorem eX10_rules_132 {n : Nat} {x1 : Int32} {x2 : Int64} {x4 : Int32} {x5 : Int32} {x6 : Int32} {x7 : Int32} {y0 : Int64} {M : am_M} {res : am_O × am_M} (h : (if 0 ≤ (lg_cmp y0 ((-2) * x2)) then
   rX10_rules n 89 [.inr (10, 0), .inl (.int x1), .inl (.long x2), am_D, .inl (.int x4), .inl (.int x5), .inl (.int x6), .inl (.int (x7 + 1)), am_D, am_D] [] M
  else rX10_rules n 89 [.inr (10, 0), .inl (.int x1), .inl (.long x2), am_D, .inl (.int x4), .inl (.int x5), .inl (.int (x6 + 1)), .inl (.int (x7 + 1)), am_D, am_D] [] M) = some res) : rX10_rules (n + 100) 132 [.inr (10, 0), .inl (.int x1), .inl (.long x2), am_D, .inl (.int x4), .inl (.int x5), .inl (.int x6), .inl (.int x7), am_D, am_D] [.inl (.long y0)] M = some res := uX10_rules ((gX10_rules_132 fX10_isTest fX10_of fX10_above (rX10_rules n) x1 x2 x4 x5 x6 x7 y0 M).trans h)
set_option maxRecDepth 20000 in
theorem gX10_rules_207 (F0 F1 F2 : am_F) (k : Nat → List am_V → List am_V → am_M → am_R) (x1 : Int32) (x2 : Int64) (x4 : Int32) (x5 : Int32) (x6 : Int32) (x7 : Int32) (x8 : Int32) (x9 : Int32) (y0 : Int64) (M : am_M) : gX10_rules F0 F1 F2 k 207 [.inr (10, 0), .inl (.int x1), .inl (.long x2), am_D, .inl (.int x4), .inl (.int x5), .inl (.int x6), .inl (.int x7), .inl (.int x8), .inl (.int x9)] [.inl (.long y0)] M =
  if 0 ≤ (lg_cmp y0 0) then
   k 174 [.inr (10, 0), .inl (.int x1), .inl (.long x2), am_D, .inl (.int x4), .inl (.int x5), .inl (.int x6), .inl (.int x7), .inl (.int x8), .inl (.int (x9 + 1))] [] M
  else k 174 [.inr (10, 0), .inl (.int x1), .inl (.long x2), am_D, .inl (.int x4), .inl (.int x5), .inl (.int x6), .inl (.int x7), .inl (.int (x8 + 1)), .inl (.int (x9 + 1))] [] M := (rfl)
theorem eX10_rules_207 {n : Nat} {x1 : Int32} {x2 : Int64} {x4 : Int32} {x5 : Int32} {x6 : Int32} {x7 : Int32} {x8 : Int32} {x9 : Int32} {y0 : Int64} {M : am_M} {res : am_O × am_M} (h : (if 0 ≤ (lg_cmp y0 0) then
   rX10_rules n 174 [.inr (10, 0), .inl (.int x1), .inl (.long x2), am_D, .inl (.int x4), .inl (.int x5), .inl (.int x6), .inl (.int x7), .inl (.int x8), .inl (.int (x9 + 1))] [] M
  else rX10_rules n 174 [.inr (10, 0), .inl (.int x1), .inl (.long x2), am_D, .inl (.int x4), .inl (.int x5), .inl (.int x6), .inl (.int x7), .inl (.int (x8 + 1)), .inl (.int (x9 + 1))] [] M) = some res) : rX10_rules (n + 100) 207 [.inr (10, 0), .inl (.int x1), .inl (.long x2), am_D, .inl (.int x4), .inl (.int x5), .inl (.int x6), .inl (.int x7), .inl (.int x8), .inl (.int x9)] [.inl (.long y0)] M = some res := uX10_rules ((gX10_rules_207 fX10_isTest fX10_of fX10_above (rX10_rules n) x1 x2 x4 x5 x6 x7 x8 x9 y0 M).trans h)
def rX10_host (n pc : Nat) (ls st : List am_V) (M : am_M) : am_R := am_run [] [] 1 am_X0 pX10_host n pc ls st M
def gX10_host (k : Nat → List am_V → List am_V → am_M → am_R) (pc : Nat) (ls st : List am_V) (M : am_M) : am_R := am_go [] [] 1 am_X0 pX10_host [] k 100 pc ls st M
theorem uX10_host {n pc : Nat} {ls st : List am_V} {M : am_M} {res : am_O × am_M} (h : gX10_host (rX10_host n) pc ls st M = some res) : rX10_host (n + 100) pc ls st M = some res := am_go_ok h
theorem eX10_host (x1 : Int32) (M : am_M) : fX10_host [.inr (10, 0), .inl (.int x1)] M = rX10_host 100000 0 [.inr (10, 0), .inl (.int x1)] [] M := am_meth_eq rfl rfl
set_option maxRecDepth 20000 in
theorem gX10_host_0 (k : Nat → List am_V → List am_V → am_M → am_R) (x1 : Int32) (M : am_M) : gX10_host k 0 [.inr (10, 0), .inl (.int x1)] [] M =
  if x1 < 0 then
   some (.inl (some (.inl (.int 0))), (am_put M 10 0 45 1))
  else if x1 < (M 10 0 40) then
   if am_in x1 40 then
    some (.inl (some (.inl (.int (M 69 0 (Int32.toNatClampNeg x1))))), (am_put M 10 0 45 0))
   else none
  else some (.inl (some (.inl (.int 0))), (am_put M 10 0 45 1)) := (rfl)
theorem eX10_host_0 {n : Nat} {x1 : Int32} {M : am_M} {res : am_O × am_M} (h : (if x1 < 0 then
   some (.inl (some (.inl (.int 0))), (am_put M 10 0 45 1))
  else if x1 < (M 10 0 40) then
   if am_in x1 40 then
    some (.inl (some (.inl (.int (M 69 0 (Int32.toNatClampNeg x1))))), (am_put M 10 0 45 0))
   else none
  else some (.inl (some (.inl (.int 0))), (am_put M 10 0 45 1))) = some res) : rX10_host (n + 100) 0 [.inr (10, 0), .inl (.int x1)] [] M = some res := uX10_host ((gX10_host_0 (rX10_host n) x1 M).trans h)
def rX10_took (n pc : Nat) (ls st : List am_V) (M : am_M) : am_R := am_run [] [] 1 am_X0 pX10_took n pc ls st M
def gX10_took (k : Nat → List am_V → List am_V → am_M → am_R) (pc : Nat) (ls st : List am_V) (M : am_M) : am_R := am_go [] [] 1 am_X0 pX10_took [32] k 100 pc ls st M
theorem uX10_took {n pc : Nat} {ls st : List am_V} {M : am_M} {res : am_O × am_M} (h : gX10_took (rX10_took n) pc ls st M = some res) : rX10_took (n + 100) pc ls st M = some res := am_go_ok h
theorem eX10_took (x1 : Int32) (M : am_M) : fX10_took [.inr (10, 0), .inl (.int x1)] M = rX10_took 100000 0 [.inr (10, 0), .inl (.int x1), am_D] [] M := am_meth_eq rfl rfl
set_option maxRecDepth 20000 in
theorem gX10_took_0 (k : Nat → List am_V → List am_V → am_M → am_R) (x1 : Int32) (M : am_M) : gX10_took k 0 [.inr (10, 0), .inl (.int x1), am_D] [] M =
  if x1 < 0 then
   some (.inl (some (.inl (.int 0))), (am_put M 10 0 45 1))
  else if x1 ≤ (M 10 0 40) then
   k 32 [.inr (10, 0), .inl (.int x1), .inl (.int x1)] [] (am_put M 10 0 45 0)
  else some (.inl (some (.inl (.int 0))), (am_put M 10 0 45 1)) := (rfl)
theorem eX10_took_0 {n : Nat} {x1 : Int32} {M : am_M} {res : am_O × am_M} (h : (if x1 < 0 then
   some (.inl (some (.inl (.int 0))), (am_put M 10 0 45 1))
  else if x1 ≤ (M 10 0 40) then
   rX10_took n 32 [.inr (10, 0), .inl (.int x1), .inl (.int x1)] [] (am_put M 10 0 45 0)
  else some (.inl (some (.inl (.int 0))), (am_put M 10 0 45 1))) = some res) : rX10_took (n + 100) 0 [.inr (10, 0), .inl (.int x1), am_D] [] M = some res := uX10_took ((gX10_took_0 (rX10_took n) x1 M).trans h)
set_option maxRecDepth 20000 in
theorem gX10_took_32 (k : Nat → List am_V → List am_V → am_M → am_R) (x1 : Int32) (x2 : Int32) (M : am_M) : gX10_took k 32 [.inr (10, 0), .inl (.int x1), .inl (.int x2)] [] M =
  if (M 10 0 40) ≤ x2 then
   some (.inl (some (.inl (.int ((M 10 0 40) - x1)))), (am_put M 10 0 40 ((M 10 0 40) - x1)))
  else if am_in x2 40 then
   if am_in (x2 - x1) 40 then
    k 32 [.inr (10, 0), .inl (.int x1), .inl (.int (x2 + 1))] [] (am_put M 69 0 (Int32.toNatClampNeg (x2 - x1)) (M 69 0 (Int32.toNatClampNeg x2)))
   else none
  else none := (rfl)
theorem eX10_took_32 {n : Nat} {x1 : Int32} {x2 : Int32} {M : am_M} {res : am_O × am_M} (h : (if (M 10 0 40) ≤ x2 then
   some (.inl (some (.inl (.int ((M 10 0 40) - x1)))), (am_put M 10 0 40 ((M 10 0 40) - x1)))
  else if am_in x2 40 then
   if am_in (x2 - x1) 40 then
    rX10_took n 32 [.inr (10, 0), .inl (.int x1), .inl (.int (x2 + 1))] [] (am_put M 69 0 (Int32.toNatClampNeg (x2 - x1)) (M 69 0 (Int32.toNatClampNeg x2)))
   else none
  else none) = some res) : rX10_took (n + 100) 32 [.inr (10, 0), .inl (.int x1), .inl (.int x2)] [] M = some res := uX10_took ((gX10_took_32 (rX10_took n) x1 x2 M).trans h)
def rL_define (n pc : Nat) (ls st : List am_V) (M : am_M) : am_R := am_run [fX9_define] [(0, 7, "java/lang/IllegalArgumentException", .int 1), (0, 7, "java/lang/IllegalStateException", .int 2)] 1 am_X0 pL_define n pc ls st M
def gL_define (F0 : am_F) (k : Nat → List am_V → List am_V → am_M → am_R) (pc : Nat) (ls st : List am_V) (M : am_M) : am_R := am_go [F0] [(0, 7, "java/lang/IllegalArgumentException", .int 1), (0, 7, "java/lang/IllegalStateException", .int 2)] 1 am_X0 pL_define [7] k 100 pc ls st M
theorem uL_define {n pc : Nat} {ls st : List am_V} {M : am_M} {res : am_O × am_M} (h : gL_define fX9_define (rL_define n) pc ls st M = some res) : rL_define (n + 100) pc ls st M = some res := am_go_ok h
theorem eL_define (x1 : Int32) (x2 : Int32) (x3 : Int32) (M : am_M) : fL_define [.inr (9, 0), .inl (.int x1), .inl (.int x2), .inl (.int x3)] M = rL_define 100000 0 [.inr (9, 0), .inl (.int x1), .inl (.int x2), .inl (.int x3), am_D] [] M := am_meth_eq rfl rfl
set_option maxRecDepth 20000 in
theorem gL_define_0 (F0 : am_F) (k : Nat → List am_V → List am_V → am_M → am_R) (x1 : Int32) (x2 : Int32) (x3 : Int32) (M : am_M) : gL_define F0 k 0 [.inr (9, 0), .inl (.int x1), .inl (.int x2), .inl (.int x3), am_D] [] M =
  am_ret [(0, 7, "java/lang/IllegalArgumentException", .int 1), (0, 7, "java/lang/IllegalStateException", .int 2)] 4 [] (k 7 [.inr (9, 0), .inl (.int x1), .inl (.int x2), .inl (.int x3), am_D]) (F0 [.inr (9, 0), .inl (.int x1), .inl (.int x2), .inl (.int x3)] M) := (rfl)
theorem eL_define_0 {n : Nat} {x1 : Int32} {x2 : Int32} {x3 : Int32} {M : am_M} {res : am_O × am_M} (h : (am_ret [(0, 7, "java/lang/IllegalArgumentException", .int 1), (0, 7, "java/lang/IllegalStateException", .int 2)] 4 [] (rL_define n 7 [.inr (9, 0), .inl (.int x1), .inl (.int x2), .inl (.int x3), am_D]) (fX9_define [.inr (9, 0), .inl (.int x1), .inl (.int x2), .inl (.int x3)] M)) = some res) : rL_define (n + 100) 0 [.inr (9, 0), .inl (.int x1), .inl (.int x2), .inl (.int x3), am_D] [] M = some res := uL_define ((gL_define_0 fX9_define (rL_define n) x1 x2 x3 M).trans h)
set_option maxRecDepth 20000 in
theorem gL_define_7 (F0 : am_F) (k : Nat → List am_V → List am_V → am_M → am_R) (x1 : Int32) (x2 : Int32) (x3 : Int32) (M : am_M) : gL_define F0 k 7 [.inr (9, 0), .inl (.int x1), .inl (.int x2), .inl (.int x3), am_D] [] M =
  some (.inl (some (.inl (.int 0))), M) := (rfl)
theorem eL_define_7 {n : Nat} {x1 : Int32} {x2 : Int32} {x3 : Int32} {M : am_M} {res : am_O × am_M} (h : (some (.inl (some (.inl (.int 0))), M)) = some res) : rL_define (n + 100) 7 [.inr (9, 0), .inl (.int x1), .inl (.int x2), .inl (.int x3), am_D] [] M = some res := uL_define ((gL_define_7 fX9_define (rL_define n) x1 x2 x3 M).trans h)
def rL_curve (n pc : Nat) (ls st : List am_V) (M : am_M) : am_R := am_run [fX9_curve] [(0, 12, "java/lang/IllegalArgumentException", .int 1), (0, 12, "java/lang/IllegalStateException", .int 2)] 1 am_X0 pL_curve n pc ls st M
def gL_curve (F0 : am_F) (k : Nat → List am_V → List am_V → am_M → am_R) (pc : Nat) (ls st : List am_V) (M : am_M) : am_R := am_go [F0] [(0, 12, "java/lang/IllegalArgumentException", .int 1), (0, 12, "java/lang/IllegalStateException", .int 2)] 1 am_X0 pL_curve [10] k 100 pc ls st M
theorem uL_curve {n pc : Nat} {ls st : List am_V} {M : am_M} {res : am_O × am_M} (h : gL_curve fX9_curve (rL_curve n) pc ls st M = some res) : rL_curve (n + 100) pc ls st M = some res := am_go_ok h
theorem eL_curve (x1 : Int32) (x2 : Int32) (x3 : Int32) (M : am_M) : fL_curve [.inr (9, 0), .inl (.int x1), .inl (.int x2), .inl (.int x3), .inr (80, 0)] M = rL_curve 100000 0 [.inr (9, 0), .inl (.int x1), .inl (.int x2), .inl (.int x3), .inr (80, 0), am_D] [] M := am_meth_eq rfl rfl
set_option maxRecDepth 20000 in
theorem gL_curve_0 (F0 : am_F) (k : Nat → List am_V → List am_V → am_M → am_R) (x1 : Int32) (x2 : Int32) (x3 : Int32) (M : am_M) : gL_curve F0 k 0 [.inr (9, 0), .inl (.int x1), .inl (.int x2), .inl (.int x3), .inr (80, 0), am_D] [] M =
  am_ret [(0, 12, "java/lang/IllegalArgumentException", .int 1), (0, 12, "java/lang/IllegalStateException", .int 2)] 7 [.inl (.int 0), .inr (80, 0)] (k 10 [.inr (9, 0), .inl (.int x1), .inl (.int x2), .inl (.int x3), .inr (80, 0), am_D]) (F0 [.inr (9, 0), .inl (.int x1), .inl (.int x2), .inl (.int x3)] M) := (rfl)
theorem eL_curve_0 {n : Nat} {x1 : Int32} {x2 : Int32} {x3 : Int32} {M : am_M} {res : am_O × am_M} (h : (am_ret [(0, 12, "java/lang/IllegalArgumentException", .int 1), (0, 12, "java/lang/IllegalStateException", .int 2)] 7 [.inl (.int 0), .inr (80, 0)] (rL_curve n 10 [.inr (9, 0), .inl (.int x1), .inl (.int x2), .inl (.int x3), .inr (80, 0), am_D]) (fX9_curve [.inr (9, 0), .inl (.int x1), .inl (.int x2), .inl (.int x3)] M)) = some res) : rL_curve (n + 100) 0 [.inr (9, 0), .inl (.int x1), .inl (.int x2), .inl (.int x3), .inr (80, 0), am_D] [] M = some res := uL_curve ((gL_curve_0 fX9_curve (rL_curve n) x1 x2 x3 M).trans h)
set_option maxRecDepth 20000 in
theorem gL_curve_10 (F0 : am_F) (k : Nat → List am_V → List am_V → am_M → am_R) (x1 : Int32) (x2 : Int32) (x3 : Int32) (y0 : Int32) (y1 : Int32) (M : am_M) : gL_curve F0 k 10 [.inr (9, 0), .inl (.int x1), .inl (.int x2), .inl (.int x3), .inr (80, 0), am_D] [.inl (.int y0), .inl (.int y1), .inr (80, 0)] M =
  if am_in y1 1 then
   some (.inl (some (.inl (.int 0))), (am_put (am_put M 80 0 (2 * (Int32.toNatClampNeg y1)) (am_hi (Int32.toInt64 y0))) 80 0 (2 * (Int32.toNatClampNeg y1) + 1) (am_lo (Int32.toInt64 y0))))
  else none := (rfl)
theorem eL_curve_10 {n : Nat} {x1 : Int32} {x2 : Int32} {x3 : Int32} {y0 : Int32} {y1 : Int32} {M : am_M} {res : am_O × am_M} (h : (if am_in y1 1 then
   some (.inl (some (.inl (.int 0))), (am_put (am_put M 80 0 (2 * (Int32.toNatClampNeg y1)) (am_hi (Int32.toInt64 y0))) 80 0 (2 * (Int32.toNatClampNeg y1) + 1) (am_lo (Int32.toInt64 y0))))
  else none) = some res) : rL_curve (n + 100) 10 [.inr (9, 0), .inl (.int x1), .inl (.int x2), .inl (.int x3), .inr (80, 0), am_D] [.inl (.int y0), .inl (.int y1), .inr (80, 0)] M = some res := uL_curve ((gL_curve_10 fX9_curve (rL_curve n) x1 x2 x3 y0 y1 M).trans h)
