/-! ===== the runs, piece by piece ===== -/
def rX10_rounded (n pc : Nat) (ls st : List am_V) (M : am_M) : am_R := am_run [fX10_floor] [] 3 am_X0 pX10_rounded n pc ls st M
def gX10_rounded (k : Nat → List am_V → List am_V → am_M → am_R) (pc : Nat) (ls st : List am_V) (M : am_M) : am_R := am_go [fX10_floor] [] 3 am_X0 pX10_rounded [21, 39] k 100 pc ls st M
theorem uX10_rounded {n pc : Nat} {ls st : List am_V} {M : am_M} {res : am_O × am_M} (h : gX10_rounded (rX10_rounded n) pc ls st M = some res) : rX10_rounded (n + 100) pc ls st M = some res := am_go_ok h
theorem eX10_rounded (x0 : Int64) (x1 : Int64) (M : am_M) : fX10_rounded [.inl (.long x0), .inl (.long x1)] M = rX10_rounded 100000 0 [.inl (.long x0), am_D, .inl (.long x1), am_D] [] M := am_meth_eq rfl rfl
set_option maxRecDepth 20000 in
theorem gX10_rounded_0 (k : Nat → List am_V → List am_V → am_M → am_R) (x0 : Int64) (x2 : Int64) (M : am_M) : gX10_rounded k 0 [.inl (.long x0), am_D, .inl (.long x2), am_D] [] M =
  if (lg_cmp x2 0) ≤ 0 then
   am_ret [] 36 [] (k 39 [.inl (.long x0), am_D, .inl (.long x2), am_D]) (fX10_floor [.inl (.long (((-2) * x0) - x2)), .inl (.long ((-2) * x2))] M)
  else am_ret [] 18 [] (k 21 [.inl (.long x0), am_D, .inl (.long x2), am_D]) (fX10_floor [.inl (.long ((2 * x0) + x2)), .inl (.long (2 * x2))] M) := (rfl)
theorem eX10_rounded_0 {n : Nat} {x0 : Int64} {x2 : Int64} {M : am_M} {res : am_O × am_M} (h : (if (lg_cmp x2 0) ≤ 0 then
   am_ret [] 36 [] (rX10_rounded n 39 [.inl (.long x0), am_D, .inl (.long x2), am_D]) (fX10_floor [.inl (.long (((-2) * x0) - x2)), .inl (.long ((-2) * x2))] M)
  else am_ret [] 18 [] (rX10_rounded n 21 [.inl (.long x0), am_D, .inl (.long x2), am_D]) (fX10_floor [.inl (.long ((2 * x0) + x2)), .inl (.long (2 * x2))] M)) = some res) : rX10_rounded (n + 100) 0 [.inl (.long x0), am_D, .inl (.long x2), am_D] [] M = some res := uX10_rounded ((gX10_rounded_0 (rX10_rounded n) x0 x2 M).trans h)
set_option maxRecDepth 20000 in
theorem gX10_rounded_39 (k : Nat → List am_V → List am_V → am_M → am_R) (x0 : Int64) (x2 : Int64) (y0 : Int64) (M : am_M) : gX10_rounded k 39 [.inl (.long x0), am_D, .inl (.long x2), am_D] [.inl (.long y0)] M =
  some (.inl (some (.inl (.long y0))), M) := (rfl)
theorem eX10_rounded_39 {n : Nat} {x0 : Int64} {x2 : Int64} {y0 : Int64} {M : am_M} {res : am_O × am_M} (h : (some (.inl (some (.inl (.long y0))), M)) = some res) : rX10_rounded (n + 100) 39 [.inl (.long x0), am_D, .inl (.long x2), am_D] [.inl (.long y0)] M = some res := uX10_rounded ((gX10_rounded_39 (rX10_rounded n) x0 x2 y0 M).trans h)
set_option maxRecDepth 20000 in
theorem gX10_rounded_21 (k : Nat → List am_V → List am_V → am_M → am_R) (x0 : Int64) (x2 : Int64) (y0 : Int64) (M : am_M) : gX10_rounded k 21 [.inl (.long x0), am_D, .inl (.long x2), am_D] [.inl (.long y0)] M =
  some (.inl (some (.inl (.long y0))), M) := (rfl)
theorem eX10_rounded_21 {n : Nat} {x0 : Int64} {x2 : Int64} {y0 : Int64} {M : am_M} {res : am_O × am_M} (h : (some (.inl (some (.inl (.long y0))), M)) = some res) : rX10_rounded (n + 100) 21 [.inl (.long x0), am_D, .inl (.long x2), am_D] [.inl (.long y0)] M = some res := uX10_rounded ((gX10_rounded_21 (rX10_rounded n) x0 x2 y0 M).trans h)
def rX10_resultOf (n pc : Nat) (ls st : List am_V) (M : am_M) : am_R := am_run [fX10_of, fX10_rounded] [] 3 am_X0 pX10_resultOf n pc ls st M
def gX10_resultOf (k : Nat → List am_V → List am_V → am_M → am_R) (pc : Nat) (ls st : List am_V) (M : am_M) : am_R := am_go [fX10_of, fX10_rounded] [] 3 am_X0 pX10_resultOf [19, 84, 184] k 100 pc ls st M
theorem uX10_resultOf {n pc : Nat} {ls st : List am_V} {M : am_M} {res : am_O × am_M} (h : gX10_resultOf (rX10_resultOf n) pc ls st M = some res) : rX10_resultOf (n + 100) pc ls st M = some res := am_go_ok h
theorem eX10_resultOf (x1 : Int32) (M : am_M) : fX10_resultOf [.inr (10, 0), .inl (.int x1)] M = rX10_resultOf 100000 0 [.inr (10, 0), .inl (.int x1), am_D, am_D, am_D, am_D, am_D, am_D, am_D, am_D, am_D, am_D, am_D] [] M := am_meth_eq rfl rfl
set_option maxRecDepth 20000 in
theorem gX10_resultOf_0 (k : Nat → List am_V → List am_V → am_M → am_R) (x1 : Int32) (M : am_M) : gX10_resultOf k 0 [.inr (10, 0), .inl (.int x1), am_D, am_D, am_D, am_D, am_D, am_D, am_D, am_D, am_D, am_D, am_D] [] M =
  if am_in x1 40 then
   if am_in x1 40 then
    am_ret [] 16 [] (k 19 [.inr (10, 0), .inl (.int x1), .inl (.int (M 56 0 (Int32.toNatClampNeg x1))), am_D, am_D, am_D, am_D, am_D, am_D, am_D, am_D, am_D, am_D]) (fX10_of [.inr (10, 0), .inl (.int (M 46 0 (Int32.toNatClampNeg x1))), .inl (.int 9)] M)
   else none
  else none := (rfl)
theorem eX10_resultOf_0 {n : Nat} {x1 : Int32} {M : am_M} {res : am_O × am_M} (h : (if am_in x1 40 then
   if am_in x1 40 then
    am_ret [] 16 [] (rX10_resultOf n 19 [.inr (10, 0), .inl (.int x1), .inl (.int (M 56 0 (Int32.toNatClampNeg x1))), am_D, am_D, am_D, am_D, am_D, am_D, am_D, am_D, am_D, am_D]) (fX10_of [.inr (10, 0), .inl (.int (M 46 0 (Int32.toNatClampNeg x1))), .inl (.int 9)] M)
   else none
  else none) = some res) : rX10_resultOf (n + 100) 0 [.inr (10, 0), .inl (.int x1), am_D, am_D, am_D, am_D, am_D, am_D, am_D, am_D, am_D, am_D, am_D] [] M = some res := uX10_resultOf ((gX10_resultOf_0 (rX10_resultOf n) x1 M).trans h)
set_option maxRecDepth 20000 in
theorem gX10_resultOf_19 (k : Nat → List am_V → List am_V → am_M → am_R) (x1 : Int32) (x2 : Int32) (y0 : Int32) (M : am_M) : gX10_resultOf k 19 [.inr (10, 0), .inl (.int x1), .inl (.int x2), am_D, am_D, am_D, am_D, am_D, am_D, am_D, am_D, am_D, am_D] [.inl (.int y0)] M =
  if y0 = 0 then
   if am_in (((6 * x1) + x2) - 1) 240 then
    some (.inl (some (.inl (.long (Int32.toInt64 (M 55 0 (Int32.toNatClampNeg (((6 * x1) + x2) - 1))))))), M)
   else none
  else if y0 = 2 then
   if am_in (((6 * x1) + x2) - 1) 240 then
    if am_in (6 * x1) 240 then
     some (.inl (some (.inl (.long (Int32.toInt64 ((M 55 0 (Int32.toNatClampNeg (((6 * x1) + x2) - 1))) - (M 55 0 (Int32.toNatClampNeg (6 * x1)))))))), M)
    else none
   else none
  else k 84 [.inr (10, 0), .inl (.int x1), .inl (.int x2), .inl (.int y0), .inl (.long 0), am_D, .inl (.long 0), am_D, .inl (.long 0), am_D, .inl (.long 0), am_D, .inl (.int 0)] [] M := (rfl)
theorem eX10_resultOf_19 {n : Nat} {x1 : Int32} {x2 : Int32} {y0 : Int32} {M : am_M} {res : am_O × am_M} (h : (if y0 = 0 then
   if am_in (((6 * x1) + x2) - 1) 240 then
    some (.inl (some (.inl (.long (Int32.toInt64 (M 55 0 (Int32.toNatClampNeg (((6 * x1) + x2) - 1))))))), M)
   else none
  else if y0 = 2 then
   if am_in (((6 * x1) + x2) - 1) 240 then
    if am_in (6 * x1) 240 then
     some (.inl (some (.inl (.long (Int32.toInt64 ((M 55 0 (Int32.toNatClampNeg (((6 * x1) + x2) - 1))) - (M 55 0 (Int32.toNatClampNeg (6 * x1)))))))), M)
    else none
   else none
  else rX10_resultOf n 84 [.inr (10, 0), .inl (.int x1), .inl (.int x2), .inl (.int y0), .inl (.long 0), am_D, .inl (.long 0), am_D, .inl (.long 0), am_D, .inl (.long 0), am_D, .inl (.int 0)] [] M) = some res) : rX10_resultOf (n + 100) 19 [.inr (10, 0), .inl (.int x1), .inl (.int x2), am_D, am_D, am_D, am_D, am_D, am_D, am_D, am_D, am_D, am_D] [.inl (.int y0)] M = some res := uX10_resultOf ((gX10_resultOf_19 (rX10_resultOf n) x1 x2 y0 M).trans h)
set_option maxRecDepth 20000 in
theorem gX10_resultOf_84 (k : Nat → List am_V → List am_V → am_M → am_R) (x1 : Int32) (x2 : Int32) (x3 : Int32) (x4 : Int64) (x6 : Int64) (x8 : Int64) (x10 : Int64) (x12 : Int32) (M : am_M) : gX10_resultOf k 84 [.inr (10, 0), .inl (.int x1), .inl (.int x2), .inl (.int x3), .inl (.long x4), am_D, .inl (.long x6), am_D, .inl (.long x8), am_D, .inl (.long x10), am_D, .inl (.int x12)] [] M =
  if x2 ≤ x12 then
   am_ret [] 181 [] (k 184 [.inr (10, 0), .inl (.int x1), .inl (.int x2), .inl (.int x3), .inl (.long x4), am_D, .inl (.long x6), am_D, .inl (.long x8), am_D, .inl (.long x10), am_D, .inl (.int x12)]) (fX10_rounded [.inl (.long (1000 * (((Int32.toInt64 x2) * x8) - (x4 * x6)))), .inl (.long (((Int32.toInt64 x2) * x10) - (x4 * x4)))] M)
  else if am_in ((6 * x1) + x12) 240 then
   if am_in ((6 * x1) + x12) 240 then
    k 84 [.inr (10, 0), .inl (.int x1), .inl (.int x2), .inl (.int x3), .inl (.long (x4 + (Int32.toInt64 x12))), am_D, .inl (.long (x6 + (Int32.toInt64 (M 55 0 (Int32.toNatClampNeg ((6 * x1) + x12)))))), am_D, .inl (.long (x8 + ((Int32.toInt64 x12) * (Int32.toInt64 (M 55 0 (Int32.toNatClampNeg ((6 * x1) + x12))))))), am_D, .inl (.long (x10 + (Int32.toInt64 (x12 * x12)))), am_D, .inl (.int (x12 + 1))] [] M
   else none
  else none := (rfl)
theorem eX10_resultOf_84 {n : Nat} {x1 : Int32} {x2 : Int32} {x3 : Int32} {x4 : Int64} {x6 : Int64} {x8 : Int64} {x10 : Int64} {x12 : Int32} {M : am_M} {res : am_O × am_M} (h : (if x2 ≤ x12 then
   am_ret [] 181 [] (rX10_resultOf n 184 [.inr (10, 0), .inl (.int x1), .inl (.int x2), .inl (.int x3), .inl (.long x4), am_D, .inl (.long x6), am_D, .inl (.long x8), am_D, .inl (.long x10), am_D, .inl (.int x12)]) (fX10_rounded [.inl (.long (1000 * (((Int32.toInt64 x2) * x8) - (x4 * x6)))), .inl (.long (((Int32.toInt64 x2) * x10) - (x4 * x4)))] M)
  else if am_in ((6 * x1) + x12) 240 then
   if am_in ((6 * x1) + x12) 240 then
    rX10_resultOf n 84 [.inr (10, 0), .inl (.int x1), .inl (.int x2), .inl (.int x3), .inl (.long (x4 + (Int32.toInt64 x12))), am_D, .inl (.long (x6 + (Int32.toInt64 (M 55 0 (Int32.toNatClampNeg ((6 * x1) + x12)))))), am_D, .inl (.long (x8 + ((Int32.toInt64 x12) * (Int32.toInt64 (M 55 0 (Int32.toNatClampNeg ((6 * x1) + x12))))))), am_D, .inl (.long (x10 + (Int32.toInt64 (x12 * x12)))), am_D, .inl (.int (x12 + 1))] [] M
   else none
  else none) = some res) : rX10_resultOf (n + 100) 84 [.inr (10, 0), .inl (.int x1), .inl (.int x2), .inl (.int x3), .inl (.long x4), am_D, .inl (.long x6), am_D, .inl (.long x8), am_D, .inl (.long x10), am_D, .inl (.int x12)] [] M = some res := uX10_resultOf ((gX10_resultOf_84 (rX10_resultOf n) x1 x2 x3 x4 x6 x8 x10 x12 M).trans h)
set_option maxRecDepth 20000 in
theorem gX10_resultOf_184 (k : Nat → List am_V → List am_V → am_M → am_R) (x1 : Int32) (x2 : Int32) (x3 : Int32) (x4 : Int64) (x6 : Int64) (x8 : Int64) (x10 : Int64) (x12 : Int32) (y0 : Int64) (M : am_M) : gX10_resultOf k 184 [.inr (10, 0), .inl (.int x1), .inl (.int x2), .inl (.int x3), .inl (.long x4), am_D, .inl (.long x6), am_D, .inl (.long x8), am_D, .inl (.long x10), am_D, .inl (.int x12)] [.inl (.long y0)] M =
  some (.inl (some (.inl (.long y0))), M) := (rfl)
theorem eX10_resultOf_184 {n : Nat} {x1 : Int32} {x2 : Int32} {x3 : Int32} {x4 : Int64} {x6 : Int64} {x8 : Int64} {x10 : Int64} {x12 : Int32} {y0 : Int64} {M : am_M} {res : am_O × am_M} (h : (some (.inl (some (.inl (.long y0))), M)) = some res) : rX10_resultOf (n + 100) 184 [.inr (10, 0), .inl (.int x1), .inl (.int x2), .inl (.int x3), .inl (.long x4), am_D, .inl (.long x6), am_D, .inl (.long x8), am_D, .inl (.long x10), am_D, .inl (.int x12)] [.inl (.long y0)] M = some res := uX10_resultOf ((gX10_resultOf_184 (rX10_resultOf n) x1 x2 x3 x4 x6 x8 x10 x12 y0 M).trans h)
def rX10_byCurve (n pc : Nat) (ls st : List am_V) (M : am_M) : am_R := am_run [fX10_rounded] [] 3 am_X0 pX10_byCurve n pc ls st M
def gX10_byCurve (k : Nat → List am_V → List am_V → am_M → am_R) (pc : Nat) (ls st : List am_V) (M : am_M) : am_R := am_go [fX10_rounded] [] 3 am_X0 pX10_byCurve [5, 109] k 100 pc ls st M
theorem uX10_byCurve {n pc : Nat} {ls st : List am_V} {M : am_M} {res : am_O × am_M} (h : gX10_byCurve (rX10_byCurve n) pc ls st M = some res) : rX10_byCurve (n + 100) pc ls st M = some res := am_go_ok h
theorem eX10_byCurve (x1 : Int32) (x2 : Int64) (M : am_M) : fX10_byCurve [.inr (10, 0), .inl (.int x1), .inl (.long x2)] M = rX10_byCurve 100000 0 [.inr (10, 0), .inl (.int x1), .inl (.long x2), am_D, am_D, am_D, am_D, am_D, am_D] [] M := am_meth_eq rfl rfl
set_option maxRecDepth 20000 in
theorem gX10_byCurve_0 (k : Nat → List am_V → List am_V → am_M → am_R) (x1 : Int32) (x2 : Int64) (M : am_M) : gX10_byCurve k 0 [.inr (10, 0), .inl (.int x1), .inl (.long x2), am_D, am_D, am_D, am_D, am_D, am_D] [] M =
  k 5 [.inr (10, 0), .inl (.int x1), .inl (.long x2), am_D, .inl (.int (5 * x1)), am_D, am_D, am_D, am_D] [] M := (rfl)
theorem eX10_byCurve_0 {n : Nat} {x1 : Int32} {x2 : Int64} {M : am_M} {res : am_O × am_M} (h : (rX10_byCurve n 5 [.inr (10, 0), .inl (.int x1), .inl (.long x2), am_D, .inl (.int (5 * x1)), am_D, am_D, am_D, am_D] [] M) = some res) : rX10_byCurve (n + 100) 0 [.inr (10, 0), .inl (.int x1), .inl (.long x2), am_D, am_D, am_D, am_D, am_D, am_D] [] M = some res := uX10_byCurve ((gX10_byCurve_0 (rX10_byCurve n) x1 x2 M).trans h)
set_option maxRecDepth 20000 in
theorem gX10_byCurve_5 (k : Nat → List am_V → List am_V → am_M → am_R) (x1 : Int32) (x2 : Int64) (x4 : Int32) (M : am_M) : gX10_byCurve k 5 [.inr (10, 0), .inl (.int x1), .inl (.long x2), am_D, .inl (.int x4), am_D, am_D, am_D, am_D] [] M =
  if am_in x1 4 then
   if ((5 * x1) + (M 34 0 (Int32.toNatClampNeg x1))) ≤ (x4 + 2) then
    if am_in (x4 + 1) 20 then
     if am_in x4 20 then
      if am_in (x4 + 1) 20 then
       if am_in x4 20 then
        if am_in x4 20 then
         if am_in x4 20 then
          am_ret [] 106 [.inl (.long (Int32.toInt64 (M 33 0 (Int32.toNatClampNeg x4))))] (k 109 [.inr (10, 0), .inl (.int x1), .inl (.long x2), am_D, .inl (.int x4), .inl (.long (Int32.toInt64 ((M 32 0 (Int32.toNatClampNeg (x4 + 1))) - (M 32 0 (Int32.toNatClampNeg x4))))), am_D, .inl (.long (Int32.toInt64 ((M 33 0 (Int32.toNatClampNeg (x4 + 1))) - (M 33 0 (Int32.toNatClampNeg x4))))), am_D]) (fX10_rounded [.inl (.long ((x2 - (Int32.toInt64 (M 32 0 (Int32.toNatClampNeg x4)))) * (Int32.toInt64 ((M 33 0 (Int32.toNatClampNeg (x4 + 1))) - (M 33 0 (Int32.toNatClampNeg x4)))))), .inl (.long (Int32.toInt64 ((M 32 0 (Int32.toNatClampNeg (x4 + 1))) - (M 32 0 (Int32.toNatClampNeg x4)))))] M)
         else none
        else none
       else none
      else none
     else none
    else none
   else if am_in (x4 + 1) 20 then
    if (lg_cmp x2 (Int32.toInt64 (M 32 0 (Int32.toNatClampNeg (x4 + 1))))) ≤ 0 then
     if am_in (x4 + 1) 20 then
      if am_in x4 20 then
       if am_in (x4 + 1) 20 then
        if am_in x4 20 then
         if am_in x4 20 then
          if am_in x4 20 then
           am_ret [] 106 [.inl (.long (Int32.toInt64 (M 33 0 (Int32.toNatClampNeg x4))))] (k 109 [.inr (10, 0), .inl (.int x1), .inl (.long x2), am_D, .inl (.int x4), .inl (.long (Int32.toInt64 ((M 32 0 (Int32.toNatClampNeg (x4 + 1))) - (M 32 0 (Int32.toNatClampNeg x4))))), am_D, .inl (.long (Int32.toInt64 ((M 33 0 (Int32.toNatClampNeg (x4 + 1))) - (M 33 0 (Int32.toNatClampNeg x4))))), am_D]) (fX10_rounded [.inl (.long ((x2 - (Int32.toInt64 (M 32 0 (Int32.toNatClampNeg x4)))) * (Int32.toInt64 ((M 33 0 (Int32.toNatClampNeg (x4 + 1))) - (M 33 0 (Int32.toNatClampNeg x4)))))), .inl (.long (Int32.toInt64 ((M 32 0 (Int32.toNatClampNeg (x4 + 1))) - (M 32 0 (Int32.toNatClampNeg x4)))))] M)
          else none
         else none
        else none
       else none
      else none
     else none
    else k 5 [.inr (10, 0), .inl (.int x1), .inl (.long x2), am_D, .inl (.int (x4 + 1)), am_D, am_D, am_D, am_D] [] M
   else none
  else none := (rfl)
theorem eX10_byCurve_5 {n : Nat} {x1 : Int32} {x2 : Int64} {x4 : Int32} {M : am_M} {res : am_O × am_M} (h : (if am_in x1 4 then
   if ((5 * x1) + (M 34 0 (Int32.toNatClampNeg x1))) ≤ (x4 + 2) then
    if am_in (x4 + 1) 20 then
     if am_in x4 20 then
      if am_in (x4 + 1) 20 then
       if am_in x4 20 then
        if am_in x4 20 then
         if am_in x4 20 then
          am_ret [] 106 [.inl (.long (Int32.toInt64 (M 33 0 (Int32.toNatClampNeg x4))))] (rX10_byCurve n 109 [.inr (10, 0), .inl (.int x1), .inl (.long x2), am_D, .inl (.int x4), .inl (.long (Int32.toInt64 ((M 32 0 (Int32.toNatClampNeg (x4 + 1))) - (M 32 0 (Int32.toNatClampNeg x4))))), am_D, .inl (.long (Int32.toInt64 ((M 33 0 (Int32.toNatClampNeg (x4 + 1))) - (M 33 0 (Int32.toNatClampNeg x4))))), am_D]) (fX10_rounded [.inl (.long ((x2 - (Int32.toInt64 (M 32 0 (Int32.toNatClampNeg x4)))) * (Int32.toInt64 ((M 33 0 (Int32.toNatClampNeg (x4 + 1))) - (M 33 0 (Int32.toNatClampNeg x4)))))), .inl (.long (Int32.toInt64 ((M 32 0 (Int32.toNatClampNeg (x4 + 1))) - (M 32 0 (Int32.toNatClampNeg x4)))))] M)
         else none
        else none
       else none
      else none
     else none
    else none
   else if am_in (x4 + 1) 20 then
    if (lg_cmp x2 (Int32.toInt64 (M 32 0 (Int32.toNatClampNeg (x4 + 1))))) ≤ 0 then
     if am_in (x4 + 1) 20 then
      if am_in x4 20 then
       if am_in (x4 + 1) 20 then
        if am_in x4 20 then
         if am_in x4 20 then
          if am_in x4 20 then
           am_ret [] 106 [.inl (.long (Int32.toInt64 (M 33 0 (Int32.toNatClampNeg x4))))] (rX10_byCurve n 109 [.inr (10, 0), .inl (.int x1), .inl (.long x2), am_D, .inl (.int x4), .inl (.long (Int32.toInt64 ((M 32 0 (Int32.toNatClampNeg (x4 + 1))) - (M 32 0 (Int32.toNatClampNeg x4))))), am_D, .inl (.long (Int32.toInt64 ((M 33 0 (Int32.toNatClampNeg (x4 + 1))) - (M 33 0 (Int32.toNatClampNeg x4))))), am_D]) (fX10_rounded [.inl (.long ((x2 - (Int32.toInt64 (M 32 0 (Int32.toNatClampNeg x4)))) * (Int32.toInt64 ((M 33 0 (Int32.toNatClampNeg (x4 + 1))) - (M 33 0 (Int32.toNatClampNeg x4)))))), .inl (.long (Int32.toInt64 ((M 32 0 (Int32.toNatClampNeg (x4 + 1))) - (M 32 0 (Int32.toNatClampNeg x4)))))] M)
          else none
         else none
        else none
       else none
      else none
     else none
    else rX10_byCurve n 5 [.inr (10, 0), .inl (.int x1), .inl (.long x2), am_D, .inl (.int (x4 + 1)), am_D, am_D, am_D, am_D] [] M
   else none
  else none) = some res) : rX10_byCurve (n + 100) 5 [.inr (10, 0), .inl (.int x1), .inl (.long x2), am_D, .inl (.int x4), am_D, am_D, am_D, am_D] [] M = some res := uX10_byCurve ((gX10_byCurve_5 (rX10_byCurve n) x1 x2 x4 M).trans h)
set_option maxRecDepth 20000 in
theorem gX10_byCurve_109 (k : Nat → List am_V → List am_V → am_M → am_R) (x1 : Int32) (x2 : Int64) (x4 : Int32) (x5 : Int64) (x7 : Int64) (y0 : Int64) (y1 : Int64) (M : am_M) : gX10_byCurve k 109 [.inr (10, 0), .inl (.int x1), .inl (.long x2), am_D, .inl (.int x4), .inl (.long x5), am_D, .inl (.long x7), am_D] [.inl (.long y0), .inl (.long y1)] M =
  some (.inl (some (.inl (.long (y1 + y0)))), M) := (rfl)
theorem eX10_byCurve_109 {n : Nat} {x1 : Int32} {x2 : Int64} {x4 : Int32} {x5 : Int64} {x7 : Int64} {y0 : Int64} {y1 : Int64} {M : am_M} {res : am_O × am_M} (h : (some (.inl (some (.inl (.long (y1 + y0)))), M)) = some res) : rX10_byCurve (n + 100) 109 [.inr (10, 0), .inl (.int x1), .inl (.long x2), am_D, .inl (.int x4), .inl (.long x5), am_D, .inl (.long x7), am_D] [.inl (.long y0), .inl (.long y1)] M = some res := uX10_byCurve ((gX10_byCurve_109 (rX10_byCurve n) x1 x2 x4 x5 x7 y0 y1 M).trans h)
def rX10_release (n pc : Nat) (ls st : List am_V) (M : am_M) : am_R := am_run [] [] 0 am_X0 pX10_release n pc ls st M
def gX10_release (k : Nat → List am_V → List am_V → am_M → am_R) (pc : Nat) (ls st : List am_V) (M : am_M) : am_R := am_go [] [] 0 am_X0 pX10_release [] k 100 pc ls st M
theorem uX10_release {n pc : Nat} {ls st : List am_V} {M : am_M} {res : am_O × am_M} (h : gX10_release (rX10_release n) pc ls st M = some res) : rX10_release (n + 100) pc ls st M = some res := am_go_ok h
theorem eX10_release (x1 : Int32) (x2 : Int32) (x3 : Int32) (M : am_M) : fX10_release [.inr (10, 0), .inl (.int x1), .inl (.int x2), .inl (.int x3)] M = rX10_release 100000 0 [.inr (10, 0), .inl (.int x1), .inl (.int x2), .inl (.int x3)] [] M := am_meth_eq rfl rfl
set_option maxRecDepth 20000 in
theorem gX10_release_0 (k : Nat → List am_V → List am_V → am_M → am_R) (x1 : Int32) (x2 : Int32) (x3 : Int32) (M : am_M) : gX10_release k 0 [.inr (10, 0), .inl (.int x1), .inl (.int x2), .inl (.int x3)] [] M =
  if am_in x1 40 then
   if am_in x1 40 then
    if am_in x1 40 then
     if am_in (M 10 0 40) 40 then
      some (.inl none, (am_put (am_put (am_put (am_put (am_put M 48 0 (Int32.toNatClampNeg x1) 2) 57 0 (Int32.toNatClampNeg x1) x2) 58 0 (Int32.toNatClampNeg x1) x3) 69 0 (Int32.toNatClampNeg (M 10 0 40)) x1) 10 0 40 ((M 10 0 40) + 1)))
     else none
    else none
   else none
  else none := (rfl)
theorem eX10_release_0 {n : Nat} {x1 : Int32} {x2 : Int32} {x3 : Int32} {M : am_M} {res : am_O × am_M} (h : (if am_in x1 40 then
   if am_in x1 40 then
    if am_in x1 40 then
     if am_in (M 10 0 40) 40 then
      some (.inl none, (am_put (am_put (am_put (am_put (am_put M 48 0 (Int32.toNatClampNeg x1) 2) 57 0 (Int32.toNatClampNeg x1) x2) 58 0 (Int32.toNatClampNeg x1) x3) 69 0 (Int32.toNatClampNeg (M 10 0 40)) x1) 10 0 40 ((M 10 0 40) + 1)))
     else none
    else none
   else none
  else none) = some res) : rX10_release (n + 100) 0 [.inr (10, 0), .inl (.int x1), .inl (.int x2), .inl (.int x3)] [] M = some res := uX10_release ((gX10_release_0 (rX10_release n) x1 x2 x3 M).trans h)
def rX10_remember (n pc : Nat) (ls st : List am_V) (M : am_M) : am_R := am_run [] [] 0 am_X0 pX10_remember n pc ls st M
def gX10_remember (k : Nat → List am_V → List am_V → am_M → am_R) (pc : Nat) (ls st : List am_V) (M : am_M) : am_R := am_go [] [] 0 am_X0 pX10_remember [13] k 100 pc ls st M
theorem uX10_remember {n pc : Nat} {ls st : List am_V} {M : am_M} {res : am_O × am_M} (h : gX10_remember (rX10_remember n) pc ls st M = some res) : rX10_remember (n + 100) pc ls st M = some res := am_go_ok h
theorem eX10_remember (x1 : Int32) (x2 : Int32) (M : am_M) : fX10_remember [.inr (10, 0), .inl (.int x1), .inl (.int x2)] M = rX10_remember 100000 0 [.inr (10, 0), .inl (.int x1), .inl (.int x2), am_D] [] M := am_meth_eq rfl rfl
set_option maxRecDepth 20000 in
theorem gX10_remember_0 (k : Nat → List am_V → List am_V → am_M → am_R) (x1 : Int32) (x2 : Int32) (M : am_M) : gX10_remember k 0 [.inr (10, 0), .inl (.int x1), .inl (.int x2), am_D] [] M =
  if am_in x1 4 then
   if (M 36 0 (Int32.toNatClampNeg x1)) = 10 then
    k 13 [.inr (10, 0), .inl (.int x1), .inl (.int x2), .inl (.int 1)] [] M
   else if am_in x1 4 then
    if am_in ((10 * x1) + (M 36 0 (Int32.toNatClampNeg x1))) 40 then
     if am_in x1 4 then
      if am_in x1 4 then
       some (.inl none, (am_put (am_put M 35 0 (Int32.toNatClampNeg ((10 * x1) + (M 36 0 (Int32.toNatClampNeg x1)))) x2) 36 0 (Int32.toNatClampNeg x1) ((M 36 0 (Int32.toNatClampNeg x1)) + 1)))
      else none
     else none
    else none
   else none
  else none := (rfl)
theorem eX10_remember_0 {n : Nat} {x1 : Int32} {x2 : Int32} {M : am_M} {res : am_O × am_M} (h : (if am_in x1 4 then
   if (M 36 0 (Int32.toNatClampNeg x1)) = 10 then
    rX10_remember n 13 [.inr (10, 0), .inl (.int x1), .inl (.int x2), .inl (.int 1)] [] M
   else if am_in x1 4 then
    if am_in ((10 * x1) + (M 36 0 (Int32.toNatClampNeg x1))) 40 then
     if am_in x1 4 then
      if am_in x1 4 then
       some (.inl none, (am_put (am_put M 35 0 (Int32.toNatClampNeg ((10 * x1) + (M 36 0 (Int32.toNatClampNeg x1)))) x2) 36 0 (Int32.toNatClampNeg x1) ((M 36 0 (Int32.toNatClampNeg x1)) + 1)))
      else none
     else none
    else none
   else none
  else none) = some res) : rX10_remember (n + 100) 0 [.inr (10, 0), .inl (.int x1), .inl (.int x2), am_D] [] M = some res := uX10_remember ((gX10_remember_0 (rX10_remember n) x1 x2 M).trans h)
set_option maxRecDepth 20000 in
theorem gX10_remember_13 (k : Nat → List am_V → List am_V → am_M → am_R) (x1 : Int32) (x2 : Int32) (x3 : Int32) (M : am_M) : gX10_remember k 13 [.inr (10, 0), .inl (.int x1), .inl (.int x2), .inl (.int x3)] [] M =
  if 10 ≤ x3 then
   if am_in x1 4 then
    if am_in x1 4 then
     if am_in ((10 * x1) + ((am_put M 36 0 (Int32.toNatClampNeg x1) 9) 36 0 (Int32.toNatClampNeg x1))) 40 then
      if am_in x1 4 then
       if am_in x1 4 then
        some (.inl none, (am_put (am_put (am_put M 36 0 (Int32.toNatClampNeg x1) 9) 35 0 (Int32.toNatClampNeg ((10 * x1) + ((am_put M 36 0 (Int32.toNatClampNeg x1) 9) 36 0 (Int32.toNatClampNeg x1)))) x2) 36 0 (Int32.toNatClampNeg x1) (((am_put M 36 0 (Int32.toNatClampNeg x1) 9) 36 0 (Int32.toNatClampNeg x1)) + 1)))
       else none
      else none
     else none
    else none
   else none
  else if am_in ((10 * x1) + x3) 40 then
   if am_in (((10 * x1) + x3) - 1) 40 then
    k 13 [.inr (10, 0), .inl (.int x1), .inl (.int x2), .inl (.int (x3 + 1))] [] (am_put M 35 0 (Int32.toNatClampNeg (((10 * x1) + x3) - 1)) (M 35 0 (Int32.toNatClampNeg ((10 * x1) + x3))))
   else none
  else none := (rfl)
theorem eX10_remember_13 {n : Nat} {x1 : Int32} {x2 : Int32} {x3 : Int32} {M : am_M} {res : am_O × am_M} (h : (if 10 ≤ x3 then
   if am_in x1 4 then
    if am_in x1 4 then
     if am_in ((10 * x1) + ((am_put M 36 0 (Int32.toNatClampNeg x1) 9) 36 0 (Int32.toNatClampNeg x1))) 40 then
      if am_in x1 4 then
       if am_in x1 4 then
        some (.inl none, (am_put (am_put (am_put M 36 0 (Int32.toNatClampNeg x1) 9) 35 0 (Int32.toNatClampNeg ((10 * x1) + ((am_put M 36 0 (Int32.toNatClampNeg x1) 9) 36 0 (Int32.toNatClampNeg x1)))) x2) 36 0 (Int32.toNatClampNeg x1) (((am_put M 36 0 (Int32.toNatClampNeg x1) 9) 36 0 (Int32.toNatClampNeg x1)) + 1)))
       else none
      else none
     else none
    else none
   else none
  else if am_in ((10 * x1) + x3) 40 then
   if am_in (((10 * x1) + x3) - 1) 40 then
    rX10_remember n 13 [.inr (10, 0), .inl (.int x1), .inl (.int x2), .inl (.int (x3 + 1))] [] (am_put M 35 0 (Int32.toNatClampNeg (((10 * x1) + x3) - 1)) (M 35 0 (Int32.toNatClampNeg ((10 * x1) + x3))))
   else none
  else none) = some res) : rX10_remember (n + 100) 13 [.inr (10, 0), .inl (.int x1), .inl (.int x2), .inl (.int x3)] [] M = some res := uX10_remember ((gX10_remember_13 (rX10_remember n) x1 x2 x3 M).trans h)
def rX10_judge (n pc : Nat) (ls st : List am_V) (M : am_M) : am_R := am_run [fX10_resultOf, fX10_byCurve, fX10_of, fX10_leave, fX10_remember, fX10_release] [] 0 am_X0 pX10_judge n pc ls st M
def gX10_judge (k : Nat → List am_V → List am_V → am_M → am_R) (pc : Nat) (ls st : List am_V) (M : am_M) : am_R := am_go [fX10_resultOf, fX10_byCurve, fX10_of, fX10_leave, fX10_remember, fX10_release] [] 0 am_X0 pX10_judge [14, 17, 33, 37, 68, 79, 87, 96, 104, 118, 135, 151, 159, 175, 184, 204, 222, 252, 261, 274] k 100 pc ls st M
theorem uX10_judge {n pc : Nat} {ls st : List am_V} {M : am_M} {res : am_O × am_M} (h : gX10_judge (rX10_judge n) pc ls st M = some res) : rX10_judge (n + 100) pc ls st M = some res := am_go_ok h
theorem eX10_judge (x1 : Int32) (M : am_M) : fX10_judge [.inr (10, 0), .inl (.int x1)] M = rX10_judge 100000 0 [.inr (10, 0), .inl (.int x1), am_D, am_D, am_D, am_D, am_D] [] M := am_meth_eq rfl rfl
set_option maxRecDepth 20000 in
theorem gX10_judge_0 (k : Nat → List am_V → List am_V → am_M → am_R) (x1 : Int32) (M : am_M) : gX10_judge k 0 [.inr (10, 0), .inl (.int x1), am_D, am_D, am_D, am_D, am_D] [] M =
  if am_in x1 40 then
   am_ret [] 11 [.inl (.int (M 46 0 (Int32.toNatClampNeg x1))), .inr (10, 0)] (k 14 [.inr (10, 0), .inl (.int x1), .inl (.int (M 46 0 (Int32.toNatClampNeg x1))), am_D, am_D, am_D, am_D]) (fX10_resultOf [.inr (10, 0), .inl (.int x1)] M)
  else none := (rfl)
theorem eX10_judge_0 {n : Nat} {x1 : Int32} {M : am_M} {res : am_O × am_M} (h : (if am_in x1 40 then
   am_ret [] 11 [.inl (.int (M 46 0 (Int32.toNatClampNeg x1))), .inr (10, 0)] (rX10_judge n 14 [.inr (10, 0), .inl (.int x1), .inl (.int (M 46 0 (Int32.toNatClampNeg x1))), am_D, am_D, am_D, am_D]) (fX10_resultOf [.inr (10, 0), .inl (.int x1)] M)
  else none) = some res) : rX10_judge (n + 100) 0 [.inr (10, 0), .inl (.int x1), am_D, am_D, am_D, am_D, am_D] [] M = some res := uX10_judge ((gX10_judge_0 (rX10_judge n) x1 M).trans h)
set_option maxRecDepth 20000 in
theorem gX10_judge_14 (k : Nat → List am_V → List am_V → am_M → am_R) (x1 : Int32) (x2 : Int32) (y0 : Int64) (y1 : Int32) (M : am_M) : gX10_judge k 14 [.inr (10, 0), .inl (.int x1), .inl (.int x2), am_D, am_D, am_D, am_D] [.inl (.long y0), .inl (.int y1), .inr (10, 0)] M =
  am_ret [] 14 [] (k 17 [.inr (10, 0), .inl (.int x1), .inl (.int x2), am_D, am_D, am_D, am_D]) (fX10_byCurve [.inr (10, 0), .inl (.int y1), .inl (.long y0)] M) := (rfl)
theorem eX10_judge_14 {n : Nat} {x1 : Int32} {x2 : Int32} {y0 : Int64} {y1 : Int32} {M : am_M} {res : am_O × am_M} (h : (am_ret [] 14 [] (rX10_judge n 17 [.inr (10, 0), .inl (.int x1), .inl (.int x2), am_D, am_D, am_D, am_D]) (fX10_byCurve [.inr (10, 0), .inl (.int y1), .inl (.long y0)] M)) = some res) : rX10_judge (n + 100) 14 [.inr (10, 0), .inl (.int x1), .inl (.int x2), am_D, am_D, am_D, am_D] [.inl (.long y0), .inl (.int y1), .inr (10, 0)] M = some res := uX10_judge ((gX10_judge_14 (rX10_judge n) x1 x2 y0 y1 M).trans h)
set_option maxRecDepth 20000 in
theorem gX10_judge_17 (k : Nat → List am_V → List am_V → am_M → am_R) (x1 : Int32) (x2 : Int32) (y0 : Int64) (M : am_M) : gX10_judge k 17 [.inr (10, 0), .inl (.int x1), .inl (.int x2), am_D, am_D, am_D, am_D] [.inl (.long y0)] M =
  if am_in x1 40 then
   if (am_b (M 53 0 (Int32.toNatClampNeg x1))) = 0 then
    k 37 [.inr (10, 0), .inl (.int x1), .inl (.int x2), am_D, am_D, am_D, am_D] [.inl (.int 1), .inl (.long y0)] M
   else am_ret [] 30 [.inl (.long y0)] (k 33 [.inr (10, 0), .inl (.int x1), .inl (.int x2), am_D, am_D, am_D, am_D]) (fX10_of [.inr (10, 0), .inl (.int x2), .inl (.int 13)] M)
  else none := (rfl)
theorem eX10_judge_17 {n : Nat} {x1 : Int32} {x2 : Int32} {y0 : Int64} {M : am_M} {res : am_O × am_M} (h : (if am_in x1 40 then
   if (am_b (M 53 0 (Int32.toNatClampNeg x1))) = 0 then
    rX10_judge n 37 [.inr (10, 0), .inl (.int x1), .inl (.int x2), am_D, am_D, am_D, am_D] [.inl (.int 1), .inl (.long y0)] M
   else am_ret [] 30 [.inl (.long y0)] (rX10_judge n 33 [.inr (10, 0), .inl (.int x1), .inl (.int x2), am_D, am_D, am_D, am_D]) (fX10_of [.inr (10, 0), .inl (.int x2), .inl (.int 13)] M)
  else none) = some res) : rX10_judge (n + 100) 17 [.inr (10, 0), .inl (.int x1), .inl (.int x2), am_D, am_D, am_D, am_D] [.inl (.long y0)] M = some res := uX10_judge ((gX10_judge_17 (rX10_judge n) x1 x2 y0 M).trans h)
set_option maxRecDepth 20000 in
theorem gX10_judge_37 (k : Nat → List am_V → List am_V → am_M → am_R) (x1 : Int32) (x2 : Int32) (y0 : Int32) (y1 : Int64) (M : am_M) : gX10_judge k 37 [.inr (10, 0), .inl (.int x1), .inl (.int x2), am_D, am_D, am_D, am_D] [.inl (.int y0), .inl (.long y1)] M =
  if (lg_cmp (y1 * (Int32.toInt64 y0)) 1000000000) ≤ 0 then
   if 0 ≤ (lg_cmp (y1 * (Int32.toInt64 y0)) (-1000000000)) then
    k 68 [.inr (10, 0), .inl (.int x1), .inl (.int x2), .inl (.long (y1 * (Int32.toInt64 y0))), am_D, am_D, am_D] [.inl (.int (Int64.toInt32 (y1 * (Int32.toInt64 y0))))] M
   else k 68 [.inr (10, 0), .inl (.int x1), .inl (.int x2), .inl (.long (y1 * (Int32.toInt64 y0))), am_D, am_D, am_D] [.inl (.int (-1000000000))] M
  else k 68 [.inr (10, 0), .inl (.int x1), .inl (.int x2), .inl (.long (y1 * (Int32.toInt64 y0))), am_D, am_D, am_D] [.inl (.int 1000000000)] M := (rfl)
theorem eX10_judge_37 {n : Nat} {x1 : Int32} {x2 : Int32} {y0 : Int32} {y1 : Int64} {M : am_M} {res : am_O × am_M} (h : (if (lg_cmp (y1 * (Int32.toInt64 y0)) 1000000000) ≤ 0 then
   if 0 ≤ (lg_cmp (y1 * (Int32.toInt64 y0)) (-1000000000)) then
    rX10_judge n 68 [.inr (10, 0), .inl (.int x1), .inl (.int x2), .inl (.long (y1 * (Int32.toInt64 y0))), am_D, am_D, am_D] [.inl (.int (Int64.toInt32 (y1 * (Int32.toInt64 y0))))] M
   else rX10_judge n 68 [.inr (10, 0), .inl (.int x1), .inl (.int x2), .inl (.long (y1 * (Int32.toInt64 y0))), am_D, am_D, am_D] [.inl (.int (-1000000000))] M
  else rX10_judge n 68 [.inr (10, 0), .inl (.int x1), .inl (.int x2), .inl (.long (y1 * (Int32.toInt64 y0))), am_D, am_D, am_D] [.inl (.int 1000000000)] M) = some res) : rX10_judge (n + 100) 37 [.inr (10, 0), .inl (.int x1), .inl (.int x2), am_D, am_D, am_D, am_D] [.inl (.int y0), .inl (.long y1)] M = some res := uX10_judge ((gX10_judge_37 (rX10_judge n) x1 x2 y0 y1 M).trans h)
set_option maxRecDepth 20000 in
theorem gX10_judge_33 (k : Nat → List am_V → List am_V → am_M → am_R) (x1 : Int32) (x2 : Int32) (y0 : Int32) (y1 : Int64) (M : am_M) : gX10_judge k 33 [.inr (10, 0), .inl (.int x1), .inl (.int x2), am_D, am_D, am_D, am_D] [.inl (.int y0), .inl (.long y1)] M =
  k 37 [.inr (10, 0), .inl (.int x1), .inl (.int x2), am_D, am_D, am_D, am_D] [.inl (.int y0), .inl (.long y1)] M := (rfl)
theorem eX10_judge_33 {n : Nat} {x1 : Int32} {x2 : Int32} {y0 : Int32} {y1 : Int64} {M : am_M} {res : am_O × am_M} (h : (rX10_judge n 37 [.inr (10, 0), .inl (.int x1), .inl (.int x2), am_D, am_D, am_D, am_D] [.inl (.int y0), .inl (.long y1)] M) = some res) : rX10_judge (n + 100) 33 [.inr (10, 0), .inl (.int x1), .inl (.int x2), am_D, am_D, am_D, am_D] [.inl (.int y0), .inl (.long y1)] M = some res := uX10_judge ((gX10_judge_33 (rX10_judge n) x1 x2 y0 y1 M).trans h)
set_option maxRecDepth 20000 in
theorem gX10_judge_68 (k : Nat → List am_V → List am_V → am_M → am_R) (x1 : Int32) (x2 : Int32) (x3 : Int64) (y0 : Int32) (M : am_M) : gX10_judge k 68 [.inr (10, 0), .inl (.int x1), .inl (.int x2), .inl (.long x3), am_D, am_D, am_D] [.inl (.int y0)] M =
  am_ret [] 76 [.inl (.int y0)] (k 79 [.inr (10, 0), .inl (.int x1), .inl (.int x2), .inl (.long x3), am_D, .inl (.int y0), am_D]) (fX10_of [.inr (10, 0), .inl (.int x2), .inl (.int 10)] M) := (rfl)
theorem eX10_judge_68 {n : Nat} {x1 : Int32} {x2 : Int32} {x3 : Int64} {y0 : Int32} {M : am_M} {res : am_O × am_M} (h : (am_ret [] 76 [.inl (.int y0)] (rX10_judge n 79 [.inr (10, 0), .inl (.int x1), .inl (.int x2), .inl (.long x3), am_D, .inl (.int y0), am_D]) (fX10_of [.inr (10, 0), .inl (.int x2), .inl (.int 10)] M)) = some res) : rX10_judge (n + 100) 68 [.inr (10, 0), .inl (.int x1), .inl (.int x2), .inl (.long x3), am_D, am_D, am_D] [.inl (.int y0)] M = some res := uX10_judge ((gX10_judge_68 (rX10_judge n) x1 x2 x3 y0 M).trans h)
set_option maxRecDepth 20000 in
theorem gX10_judge_79 (k : Nat → List am_V → List am_V → am_M → am_R) (x1 : Int32) (x2 : Int32) (x3 : Int64) (x5 : Int32) (y0 : Int32) (y1 : Int32) (M : am_M) : gX10_judge k 79 [.inr (10, 0), .inl (.int x1), .inl (.int x2), .inl (.long x3), am_D, .inl (.int x5), am_D] [.inl (.int y0), .inl (.int y1)] M =
  if y0 ≤ y1 then
   k 87 [.inr (10, 0), .inl (.int x1), .inl (.int x2), .inl (.long x3), am_D, .inl (.int x5), am_D] [.inl (.int 0)] M
  else k 87 [.inr (10, 0), .inl (.int x1), .inl (.int x2), .inl (.long x3), am_D, .inl (.int x5), am_D] [.inl (.int 1)] M := (rfl)
theorem eX10_judge_79 {n : Nat} {x1 : Int32} {x2 : Int32} {x3 : Int64} {x5 : Int32} {y0 : Int32} {y1 : Int32} {M : am_M} {res : am_O × am_M} (h : (if y0 ≤ y1 then
   rX10_judge n 87 [.inr (10, 0), .inl (.int x1), .inl (.int x2), .inl (.long x3), am_D, .inl (.int x5), am_D] [.inl (.int 0)] M
  else rX10_judge n 87 [.inr (10, 0), .inl (.int x1), .inl (.int x2), .inl (.long x3), am_D, .inl (.int x5), am_D] [.inl (.int 1)] M) = some res) : rX10_judge (n + 100) 79 [.inr (10, 0), .inl (.int x1), .inl (.int x2), .inl (.long x3), am_D, .inl (.int x5), am_D] [.inl (.int y0), .inl (.int y1)] M = some res := uX10_judge ((gX10_judge_79 (rX10_judge n) x1 x2 x3 x5 y0 y1 M).trans h)
set_option maxRecDepth 20000 in
theorem gX10_judge_87 (k : Nat → List am_V → List am_V → am_M → am_R) (x1 : Int32) (x2 : Int32) (x3 : Int64) (x5 : Int32) (y0 : Int32) (M : am_M) : gX10_judge k 87 [.inr (10, 0), .inl (.int x1), .inl (.int x2), .inl (.long x3), am_D, .inl (.int x5), am_D] [.inl (.int y0)] M =
  am_ret [] 93 [.inl (.int x5), .inl (.int y0)] (k 96 [.inr (10, 0), .inl (.int x1), .inl (.int x2), .inl (.long x3), am_D, .inl (.int x5), am_D]) (fX10_of [.inr (10, 0), .inl (.int x2), .inl (.int 11)] M) := (rfl)
theorem eX10_judge_87 {n : Nat} {x1 : Int32} {x2 : Int32} {x3 : Int64} {x5 : Int32} {y0 : Int32} {M : am_M} {res : am_O × am_M} (h : (am_ret [] 93 [.inl (.int x5), .inl (.int y0)] (rX10_judge n 96 [.inr (10, 0), .inl (.int x1), .inl (.int x2), .inl (.long x3), am_D, .inl (.int x5), am_D]) (fX10_of [.inr (10, 0), .inl (.int x2), .inl (.int 11)] M)) = some res) : rX10_judge (n + 100) 87 [.inr (10, 0), .inl (.int x1), .inl (.int x2), .inl (.long x3), am_D, .inl (.int x5), am_D] [.inl (.int y0)] M = some res := uX10_judge ((gX10_judge_87 (rX10_judge n) x1 x2 x3 x5 y0 M).trans h)
set_option maxRecDepth 20000 in
theorem gX10_judge_96 (k : Nat → List am_V → List am_V → am_M → am_R) (x1 : Int32) (x2 : Int32) (x3 : Int64) (x5 : Int32) (y0 : Int32) (y1 : Int32) (y2 : Int32) (M : am_M) : gX10_judge k 96 [.inr (10, 0), .inl (.int x1), .inl (.int x2), .inl (.long x3), am_D, .inl (.int x5), am_D] [.inl (.int y0), .inl (.int y1), .inl (.int y2)] M =
  if y1 ≤ y0 then
   k 104 [.inr (10, 0), .inl (.int x1), .inl (.int x2), .inl (.long x3), am_D, .inl (.int x5), am_D] [.inl (.int 0), .inl (.int y2)] M
  else k 104 [.inr (10, 0), .inl (.int x1), .inl (.int x2), .inl (.long x3), am_D, .inl (.int x5), am_D] [.inl (.int 2), .inl (.int y2)] M := (rfl)
theorem eX10_judge_96 {n : Nat} {x1 : Int32} {x2 : Int32} {x3 : Int64} {x5 : Int32} {y0 : Int32} {y1 : Int32} {y2 : Int32} {M : am_M} {res : am_O × am_M} (h : (if y1 ≤ y0 then
   rX10_judge n 104 [.inr (10, 0), .inl (.int x1), .inl (.int x2), .inl (.long x3), am_D, .inl (.int x5), am_D] [.inl (.int 0), .inl (.int y2)] M
  else rX10_judge n 104 [.inr (10, 0), .inl (.int x1), .inl (.int x2), .inl (.long x3), am_D, .inl (.int x5), am_D] [.inl (.int 2), .inl (.int y2)] M) = some res) : rX10_judge (n + 100) 96 [.inr (10, 0), .inl (.int x1), .inl (.int x2), .inl (.long x3), am_D, .inl (.int x5), am_D] [.inl (.int y0), .inl (.int y1), .inl (.int y2)] M = some res := uX10_judge ((gX10_judge_96 (rX10_judge n) x1 x2 x3 x5 y0 y1 y2 M).trans h)
set_option maxRecDepth 20000 in
theorem gX10_judge_104 (k : Nat → List am_V → List am_V → am_M → am_R) (x1 : Int32) (x2 : Int32) (x3 : Int64) (x5 : Int32) (y0 : Int32) (y1 : Int32) (M : am_M) : gX10_judge k 104 [.inr (10, 0), .inl (.int x1), .inl (.int x2), .inl (.long x3), am_D, .inl (.int x5), am_D] [.inl (.int y0), .inl (.int y1)] M =
  if (lg_cmp (Int32.toInt64 x5) x3) = 0 then
   k 118 [.inr (10, 0), .inl (.int x1), .inl (.int x2), .inl (.long x3), am_D, .inl (.int x5), am_D] [.inl (.int 0), .inl (.int (y1 + y0))] M
  else k 118 [.inr (10, 0), .inl (.int x1), .inl (.int x2), .inl (.long x3), am_D, .inl (.int x5), am_D] [.inl (.int 4), .inl (.int (y1 + y0))] M := (rfl)
theorem eX10_judge_104 {n : Nat} {x1 : Int32} {x2 : Int32} {x3 : Int64} {x5 : Int32} {y0 : Int32} {y1 : Int32} {M : am_M} {res : am_O × am_M} (h : (if (lg_cmp (Int32.toInt64 x5) x3) = 0 then
   rX10_judge n 118 [.inr (10, 0), .inl (.int x1), .inl (.int x2), .inl (.long x3), am_D, .inl (.int x5), am_D] [.inl (.int 0), .inl (.int (y1 + y0))] M
  else rX10_judge n 118 [.inr (10, 0), .inl (.int x1), .inl (.int x2), .inl (.long x3), am_D, .inl (.int x5), am_D] [.inl (.int 4), .inl (.int (y1 + y0))] M) = some res) : rX10_judge (n + 100) 104 [.inr (10, 0), .inl (.int x1), .inl (.int x2), .inl (.long x3), am_D, .inl (.int x5), am_D] [.inl (.int y0), .inl (.int y1)] M = some res := uX10_judge ((gX10_judge_104 (rX10_judge n) x1 x2 x3 x5 y0 y1 M).trans h)
set_option maxRecDepth 20000 in
theorem gX10_judge_118 (k : Nat → List am_V → List am_V → am_M → am_R) (x1 : Int32) (x2 : Int32) (x3 : Int64) (x5 : Int32) (y0 : Int32) (y1 : Int32) (M : am_M) : gX10_judge k 118 [.inr (10, 0), .inl (.int x1), .inl (.int x2), .inl (.long x3), am_D, .inl (.int x5), am_D] [.inl (.int y0), .inl (.int y1)] M =
  if am_in x1 40 then
   if (M 50 0 (Int32.toNatClampNeg x1)) = 2 then
    k 135 [.inr (10, 0), .inl (.int x1), .inl (.int x2), .inl (.long x3), am_D, .inl (.int x5), am_D] [.inl (.int 8), .inl (.int (y1 + y0))] M
   else k 135 [.inr (10, 0), .inl (.int x1), .inl (.int x2), .inl (.long x3), am_D, .inl (.int x5), am_D] [.inl (.int 0), .inl (.int (y1 + y0))] M
  else none := (rfl)
theorem eX10_judge_118 {n : Nat} {x1 : Int32} {x2 : Int32} {x3 : Int64} {x5 : Int32} {y0 : Int32} {y1 : Int32} {M : am_M} {res : am_O × am_M} (h : (if am_in x1 40 then
   if (M 50 0 (Int32.toNatClampNeg x1)) = 2 then
    rX10_judge n 135 [.inr (10, 0), .inl (.int x1), .inl (.int x2), .inl (.long x3), am_D, .inl (.int x5), am_D] [.inl (.int 8), .inl (.int (y1 + y0))] M
   else rX10_judge n 135 [.inr (10, 0), .inl (.int x1), .inl (.int x2), .inl (.long x3), am_D, .inl (.int x5), am_D] [.inl (.int 0), .inl (.int (y1 + y0))] M
  else none) = some res) : rX10_judge (n + 100) 118 [.inr (10, 0), .inl (.int x1), .inl (.int x2), .inl (.long x3), am_D, .inl (.int x5), am_D] [.inl (.int y0), .inl (.int y1)] M = some res := uX10_judge ((gX10_judge_118 (rX10_judge n) x1 x2 x3 x5 y0 y1 M).trans h)
set_option maxRecDepth 20000 in
theorem gX10_judge_135 (k : Nat → List am_V → List am_V → am_M → am_R) (x1 : Int32) (x2 : Int32) (x3 : Int64) (x5 : Int32) (y0 : Int32) (y1 : Int32) (M : am_M) : gX10_judge k 135 [.inr (10, 0), .inl (.int x1), .inl (.int x2), .inl (.long x3), am_D, .inl (.int x5), am_D] [.inl (.int y0), .inl (.int y1)] M =
  if am_in x1 40 then
   if (am_b (M 53 0 (Int32.toNatClampNeg x1))) = 0 then
    k 151 [.inr (10, 0), .inl (.int x1), .inl (.int x2), .inl (.long x3), am_D, .inl (.int x5), am_D] [.inl (.int 0), .inl (.int (y1 + y0))] M
   else k 151 [.inr (10, 0), .inl (.int x1), .inl (.int x2), .inl (.long x3), am_D, .inl (.int x5), am_D] [.inl (.int 16), .inl (.int (y1 + y0))] M
  else none := (rfl)
theorem eX10_judge_135 {n : Nat} {x1 : Int32} {x2 : Int32} {x3 : Int64} {x5 : Int32} {y0 : Int32} {y1 : Int32} {M : am_M} {res : am_O × am_M} (h : (if am_in x1 40 then
   if (am_b (M 53 0 (Int32.toNatClampNeg x1))) = 0 then
    rX10_judge n 151 [.inr (10, 0), .inl (.int x1), .inl (.int x2), .inl (.long x3), am_D, .inl (.int x5), am_D] [.inl (.int 0), .inl (.int (y1 + y0))] M
   else rX10_judge n 151 [.inr (10, 0), .inl (.int x1), .inl (.int x2), .inl (.long x3), am_D, .inl (.int x5), am_D] [.inl (.int 16), .inl (.int (y1 + y0))] M
  else none) = some res) : rX10_judge (n + 100) 135 [.inr (10, 0), .inl (.int x1), .inl (.int x2), .inl (.long x3), am_D, .inl (.int x5), am_D] [.inl (.int y0), .inl (.int y1)] M = some res := uX10_judge ((gX10_judge_135 (rX10_judge n) x1 x2 x3 x5 y0 y1 M).trans h)
set_option maxRecDepth 20000 in
theorem gX10_judge_151 (k : Nat → List am_V → List am_V → am_M → am_R) (x1 : Int32) (x2 : Int32) (x3 : Int64) (x5 : Int32) (y0 : Int32) (y1 : Int32) (M : am_M) : gX10_judge k 151 [.inr (10, 0), .inl (.int x1), .inl (.int x2), .inl (.long x3), am_D, .inl (.int x5), am_D] [.inl (.int y0), .inl (.int y1)] M =
  am_ret [] 156 [] (k 159 [.inr (10, 0), .inl (.int x1), .inl (.int x2), .inl (.long x3), am_D, .inl (.int x5), .inl (.int (y1 + y0))]) (fX10_leave [.inr (10, 0), .inl (.int x1)] M) := (rfl)
theorem eX10_judge_151 {n : Nat} {x1 : Int32} {x2 : Int32} {x3 : Int64} {x5 : Int32} {y0 : Int32} {y1 : Int32} {M : am_M} {res : am_O × am_M} (h : (am_ret [] 156 [] (rX10_judge n 159 [.inr (10, 0), .inl (.int x1), .inl (.int x2), .inl (.long x3), am_D, .inl (.int x5), .inl (.int (y1 + y0))]) (fX10_leave [.inr (10, 0), .inl (.int x1)] M)) = some res) : rX10_judge (n + 100) 151 [.inr (10, 0), .inl (.int x1), .inl (.int x2), .inl (.long x3), am_D, .inl (.int x5), am_D] [.inl (.int y0), .inl (.int y1)] M = some res := uX10_judge ((gX10_judge_151 (rX10_judge n) x1 x2 x3 x5 y0 y1 M).trans h)
set_option maxRecDepth 20000 in
theorem gX10_judge_159 (k : Nat → List am_V → List am_V → am_M → am_R) (x1 : Int32) (x2 : Int32) (x3 : Int64) (x5 : Int32) (x6 : Int32) (M : am_M) : gX10_judge k 159 [.inr (10, 0), .inl (.int x1), .inl (.int x2), .inl (.long x3), am_D, .inl (.int x5), .inl (.int x6)] [] M =
  if am_in x1 40 then
   if (am_b (M 54 0 (Int32.toNatClampNeg x1))) = 0 then
    if am_in x1 40 then
     if (M 50 0 (Int32.toNatClampNeg x1)) = 1 then
      am_ret [] 201 [] (k 204 [.inr (10, 0), .inl (.int x1), .inl (.int x2), .inl (.long x3), am_D, .inl (.int x5), .inl (.int x6)]) (fX10_of [.inr (10, 0), .inl (.int x2), .inl (.int 12)] M)
     else am_ret [] 271 [] (k 274 [.inr (10, 0), .inl (.int x1), .inl (.int x2), .inl (.long x3), am_D, .inl (.int x5), .inl (.int x6)]) (fX10_release [.inr (10, 0), .inl (.int x1), .inl (.int x5), .inl (.int x6)] M)
    else none
   else am_ret [] 172 [] (k 175 [.inr (10, 0), .inl (.int x1), .inl (.int x2), .inl (.long x3), am_D, .inl (.int x5), .inl (.int x6)]) (fX10_remember [.inr (10, 0), .inl (.int x2), .inl (.int x5)] M)
  else none := (rfl)
theorem eX10_judge_159 {n : Nat} {x1 : Int32} {x2 : Int32} {x3 : Int64} {x5 : Int32} {x6 : Int32} {M : am_M} {res : am_O × am_M} (h : (if am_in x1 40 then
   if (am_b (M 54 0 (Int32.toNatClampNeg x1))) = 0 then
    if am_in x1 40 then
     if (M 50 0 (Int32.toNatClampNeg x1)) = 1 then
      am_ret [] 201 [] (rX10_judge n 204 [.inr (10, 0), .inl (.int x1), .inl (.int x2), .inl (.long x3), am_D, .inl (.int x5), .inl (.int x6)]) (fX10_of [.inr (10, 0), .inl (.int x2), .inl (.int 12)] M)
     else am_ret [] 271 [] (rX10_judge n 274 [.inr (10, 0), .inl (.int x1), .inl (.int x2), .inl (.long x3), am_D, .inl (.int x5), .inl (.int x6)]) (fX10_release [.inr (10, 0), .inl (.int x1), .inl (.int x5), .inl (.int x6)] M)
    else none
   else am_ret [] 172 [] (rX10_judge n 175 [.inr (10, 0), .inl (.int x1), .inl (.int x2), .inl (.long x3), am_D, .inl (.int x5), .inl (.int x6)]) (fX10_remember [.inr (10, 0), .inl (.int x2), .inl (.int x5)] M)
  else none) = some res) : rX10_judge (n + 100) 159 [.inr (10, 0), .inl (.int x1), .inl (.int x2), .inl (.long x3), am_D, .inl (.int x5), .inl (.int x6)] [] M = some res := uX10_judge ((gX10_judge_159 (rX10_judge n) x1 x2 x3 x5 x6 M).trans h)
set_option maxRecDepth 20000 in
theorem gX10_judge_204 (k : Nat → List am_V → List am_V → am_M → am_R) (x1 : Int32) (x2 : Int32) (x3 : Int64) (x5 : Int32) (x6 : Int32) (y0 : Int32) (M : am_M) : gX10_judge k 204 [.inr (10, 0), .inl (.int x1), .inl (.int x2), .inl (.long x3), am_D, .inl (.int x5), .inl (.int x6)] [.inl (.int y0)] M =
  if y0 = 2 then
   if (x6 &&& 2) = 0 then
    am_ret [] 219 [] (k 222 [.inr (10, 0), .inl (.int x1), .inl (.int x2), .inl (.long x3), am_D, .inl (.int x5), .inl (.int x6)]) (fX10_of [.inr (10, 0), .inl (.int x2), .inl (.int 12)] M)
   else if am_in x1 40 then
    am_ret [] 249 [.inl (.int x1), .inr (53, 0)] (k 252 [.inr (10, 0), .inl (.int x1), .inl (.int x2), .inl (.long x3), am_D, .inl (.int x5), .inl (.int x6)]) (fX10_of [.inr (10, 0), .inl (.int x2), .inl (.int 12)] (am_put M 48 0 (Int32.toNatClampNeg x1) 0))
   else none
  else am_ret [] 219 [] (k 222 [.inr (10, 0), .inl (.int x1), .inl (.int x2), .inl (.long x3), am_D, .inl (.int x5), .inl (.int x6)]) (fX10_of [.inr (10, 0), .inl (.int x2), .inl (.int 12)] M) := (rfl)
theorem eX10_judge_204 {n : Nat} {x1 : Int32} {x2 : Int32} {x3 : Int64} {x5 : Int32} {x6 : Int32} {y0 : Int32} {M : am_M} {res : am_O × am_M} (h : (if y0 = 2 then
   if (x6 &&& 2) = 0 then
    am_ret [] 219 [] (rX10_judge n 222 [.inr (10, 0), .inl (.int x1), .inl (.int x2), .inl (.long x3), am_D, .inl (.int x5), .inl (.int x6)]) (fX10_of [.inr (10, 0), .inl (.int x2), .inl (.int 12)] M)
   else if am_in x1 40 then
    am_ret [] 249 [.inl (.int x1), .inr (53, 0)] (rX10_judge n 252 [.inr (10, 0), .inl (.int x1), .inl (.int x2), .inl (.long x3), am_D, .inl (.int x5), .inl (.int x6)]) (fX10_of [.inr (10, 0), .inl (.int x2), .inl (.int 12)] (am_put M 48 0 (Int32.toNatClampNeg x1) 0))
   else none
  else am_ret [] 219 [] (rX10_judge n 222 [.inr (10, 0), .inl (.int x1), .inl (.int x2), .inl (.long x3), am_D, .inl (.int x5), .inl (.int x6)]) (fX10_of [.inr (10, 0), .inl (.int x2), .inl (.int 12)] M)) = some res) : rX10_judge (n + 100) 204 [.inr (10, 0), .inl (.int x1), .inl (.int x2), .inl (.long x3), am_D, .inl (.int x5), .inl (.int x6)] [.inl (.int y0)] M = some res := uX10_judge ((gX10_judge_204 (rX10_judge n) x1 x2 x3 x5 x6 y0 M).trans h)
set_option maxRecDepth 20000 in
theorem gX10_judge_274 (k : Nat → List am_V → List am_V → am_M → am_R) (x1 : Int32) (x2 : Int32) (x3 : Int64) (x5 : Int32) (x6 : Int32) (M : am_M) : gX10_judge k 274 [.inr (10, 0), .inl (.int x1), .inl (.int x2), .inl (.long x3), am_D, .inl (.int x5), .inl (.int x6)] [] M =
  some (.inl none, M) := (rfl)
theorem eX10_judge_274 {n : Nat} {x1 : Int32} {x2 : Int32} {x3 : Int64} {x5 : Int32} {x6 : Int32} {M : am_M} {res : am_O × am_M} (h : (some (.inl none, M)) = some res) : rX10_judge (n + 100) 274 [.inr (10, 0), .inl (.int x1), .inl (.int x2), .inl (.long x3), am_D, .inl (.int x5), .inl (.int x6)] [] M = some res := uX10_judge ((gX10_judge_274 (rX10_judge n) x1 x2 x3 x5 x6 M).trans h)
set_option maxRecDepth 20000 in
theorem gX10_judge_175 (k : Nat → List am_V → List am_V → am_M → am_R) (x1 : Int32) (x2 : Int32) (x3 : Int64) (x5 : Int32) (x6 : Int32) (M : am_M) : gX10_judge k 175 [.inr (10, 0), .inl (.int x1), .inl (.int x2), .inl (.long x3), am_D, .inl (.int x5), .inl (.int x6)] [] M =
  am_ret [] 181 [] (k 184 [.inr (10, 0), .inl (.int x1), .inl (.int x2), .inl (.long x3), am_D, .inl (.int x5), .inl (.int x6)]) (fX10_release [.inr (10, 0), .inl (.int x1), .inl (.int x5), .inl (.int x6)] M) := (rfl)
theorem eX10_judge_175 {n : Nat} {x1 : Int32} {x2 : Int32} {x3 : Int64} {x5 : Int32} {x6 : Int32} {M : am_M} {res : am_O × am_M} (h : (am_ret [] 181 [] (rX10_judge n 184 [.inr (10, 0), .inl (.int x1), .inl (.int x2), .inl (.long x3), am_D, .inl (.int x5), .inl (.int x6)]) (fX10_release [.inr (10, 0), .inl (.int x1), .inl (.int x5), .inl (.int x6)] M)) = some res) : rX10_judge (n + 100) 175 [.inr (10, 0), .inl (.int x1), .inl (.int x2), .inl (.long x3), am_D, .inl (.int x5), .inl (.int x6)] [] M = some res := uX10_judge ((gX10_judge_175 (rX10_judge n) x1 x2 x3 x5 x6 M).trans h)
set_option maxRecDepth 20000 in
theorem gX10_judge_222 (k : Nat → List am_V → List am_V → am_M → am_R) (x1 : Int32) (x2 : Int32) (x3 : Int64) (x5 : Int32) (x6 : Int32) (y0 : Int32) (M : am_M) : gX10_judge k 222 [.inr (10, 0), .inl (.int x1), .inl (.int x2), .inl (.long x3), am_D, .inl (.int x5), .inl (.int x6)] [.inl (.int y0)] M =
  if y0 = 1 then
   if (x6 &&& 3) = 0 then
    am_ret [] 271 [] (k 274 [.inr (10, 0), .inl (.int x1), .inl (.int x2), .inl (.long x3), am_D, .inl (.int x5), .inl (.int x6)]) (fX10_release [.inr (10, 0), .inl (.int x1), .inl (.int x5), .inl (.int x6)] M)
   else if am_in x1 40 then
    am_ret [] 249 [.inl (.int x1), .inr (53, 0)] (k 252 [.inr (10, 0), .inl (.int x1), .inl (.int x2), .inl (.long x3), am_D, .inl (.int x5), .inl (.int x6)]) (fX10_of [.inr (10, 0), .inl (.int x2), .inl (.int 12)] (am_put M 48 0 (Int32.toNatClampNeg x1) 0))
   else none
  else am_ret [] 271 [] (k 274 [.inr (10, 0), .inl (.int x1), .inl (.int x2), .inl (.long x3), am_D, .inl (.int x5), .inl (.int x6)]) (fX10_release [.inr (10, 0), .inl (.int x1), .inl (.int x5), .inl (.int x6)] M) := (rfl)
theorem eX10_judge_222 {n : Nat} {x1 : Int32} {x2 : Int32} {x3 : Int64} {x5 : Int32} {x6 : Int32} {y0 : Int32} {M : am_M} {res : am_O × am_M} (h : (if y0 = 1 then
   if (x6 &&& 3) = 0 then
    am_ret [] 271 [] (rX10_judge n 274 [.inr (10, 0), .inl (.int x1), .inl (.int x2), .inl (.long x3), am_D, .inl (.int x5), .inl (.int x6)]) (fX10_release [.inr (10, 0), .inl (.int x1), .inl (.int x5), .inl (.int x6)] M)
   else if am_in x1 40 then
    am_ret [] 249 [.inl (.int x1), .inr (53, 0)] (rX10_judge n 252 [.inr (10, 0), .inl (.int x1), .inl (.int x2), .inl (.long x3), am_D, .inl (.int x5), .inl (.int x6)]) (fX10_of [.inr (10, 0), .inl (.int x2), .inl (.int 12)] (am_put M 48 0 (Int32.toNatClampNeg x1) 0))
   else none
  else am_ret [] 271 [] (rX10_judge n 274 [.inr (10, 0), .inl (.int x1), .inl (.int x2), .inl (.long x3), am_D, .inl (.int x5), .inl (.int x6)]) (fX10_release [.inr (10, 0), .inl (.int x1), .inl (.int x5), .inl (.int x6)] M)) = some res) : rX10_judge (n + 100) 222 [.inr (10, 0), .inl (.int x1), .inl (.int x2), .inl (.long x3), am_D, .inl (.int x5), .inl (.int x6)] [.inl (.int y0)] M = some res := uX10_judge ((gX10_judge_222 (rX10_judge n) x1 x2 x3 x5 x6 y0 M).trans h)
set_option maxRecDepth 20000 in
theorem gX10_judge_252 (k : Nat → List am_V → List am_V → am_M → am_R) (x1 : Int32) (x2 : Int32) (x3 : Int64) (x5 : Int32) (x6 : Int32) (y0 : Int32) (y1 : Int32) (M : am_M) : gX10_judge k 252 [.inr (10, 0), .inl (.int x1), .inl (.int x2), .inl (.long x3), am_D, .inl (.int x5), .inl (.int x6)] [.inl (.int y0), .inl (.int y1), .inr (53, 0)] M =
  if y0 = 2 then
   k 261 [.inr (10, 0), .inl (.int x1), .inl (.int x2), .inl (.long x3), am_D, .inl (.int x5), .inl (.int x6)] [.inl (.int 1), .inl (.int y1), .inr (53, 0)] M
  else k 261 [.inr (10, 0), .inl (.int x1), .inl (.int x2), .inl (.long x3), am_D, .inl (.int x5), .inl (.int x6)] [.inl (.int 0), .inl (.int y1), .inr (53, 0)] M := (rfl)
theorem eX10_judge_252 {n : Nat} {x1 : Int32} {x2 : Int32} {x3 : Int64} {x5 : Int32} {x6 : Int32} {y0 : Int32} {y1 : Int32} {M : am_M} {res : am_O × am_M} (h : (if y0 = 2 then
   rX10_judge n 261 [.inr (10, 0), .inl (.int x1), .inl (.int x2), .inl (.long x3), am_D, .inl (.int x5), .inl (.int x6)] [.inl (.int 1), .inl (.int y1), .inr (53, 0)] M
  else rX10_judge n 261 [.inr (10, 0), .inl (.int x1), .inl (.int x2), .inl (.long x3), am_D, .inl (.int x5), .inl (.int x6)] [.inl (.int 0), .inl (.int y1), .inr (53, 0)] M) = some res) : rX10_judge (n + 100) 252 [.inr (10, 0), .inl (.int x1), .inl (.int x2), .inl (.long x3), am_D, .inl (.int x5), .inl (.int x6)] [.inl (.int y0), .inl (.int y1), .inr (53, 0)] M = some res := uX10_judge ((gX10_judge_252 (rX10_judge n) x1 x2 x3 x5 x6 y0 y1 M).trans h)
set_option maxRecDepth 20000 in
theorem gX10_judge_184 (k : Nat → List am_V → List am_V → am_M → am_R) (x1 : Int32) (x2 : Int32) (x3 : Int64) (x5 : Int32) (x6 : Int32) (M : am_M) : gX10_judge k 184 [.inr (10, 0), .inl (.int x1), .inl (.int x2), .inl (.long x3), am_D, .inl (.int x5), .inl (.int x6)] [] M =
  some (.inl none, M) := (rfl)
theorem eX10_judge_184 {n : Nat} {x1 : Int32} {x2 : Int32} {x3 : Int64} {x5 : Int32} {x6 : Int32} {M : am_M} {res : am_O × am_M} (h : (some (.inl none, M)) = some res) : rX10_judge (n + 100) 184 [.inr (10, 0), .inl (.int x1), .inl (.int x2), .inl (.long x3), am_D, .inl (.int x5), .inl (.int x6)] [] M = some res := uX10_judge ((gX10_judge_184 (rX10_judge n) x1 x2 x3 x5 x6 M).trans h)
set_option maxRecDepth 20000 in
theorem gX10_judge_261 (k : Nat → List am_V → List am_V → am_M → am_R) (x1 : Int32) (x2 : Int32) (x3 : Int64) (x5 : Int32) (x6 : Int32) (y0 : Int32) (y1 : Int32) (M : am_M) : gX10_judge k 261 [.inr (10, 0), .inl (.int x1), .inl (.int x2), .inl (.long x3), am_D, .inl (.int x5), .inl (.int x6)] [.inl (.int y0), .inl (.int y1), .inr (53, 0)] M =
  if am_in y1 40 ∧ am_b y0 = y0 then
   some (.inl none, (am_put M 53 0 (Int32.toNatClampNeg y1) y0))
  else none := (rfl)
theorem eX10_judge_261 {n : Nat} {x1 : Int32} {x2 : Int32} {x3 : Int64} {x5 : Int32} {x6 : Int32} {y0 : Int32} {y1 : Int32} {M : am_M} {res : am_O × am_M} (h : (if am_in y1 40 ∧ am_b y0 = y0 then
   some (.inl none, (am_put M 53 0 (Int32.toNatClampNeg y1) y0))
  else none) = some res) : rX10_judge (n + 100) 261 [.inr (10, 0), .inl (.int x1), .inl (.int x2), .inl (.long x3), am_D, .inl (.int x5), .inl (.int x6)] [.inl (.int y0), .inl (.int y1), .inr (53, 0)] M = some res := uX10_judge ((gX10_judge_261 (rX10_judge n) x1 x2 x3 x5 x6 y0 y1 M).trans h)
def rX10_goOn (n pc : Nat) (ls st : List am_V) (M : am_M) : am_R := am_run [] [] 0 am_X0 pX10_goOn n pc ls st M
def gX10_goOn (k : Nat → List am_V → List am_V → am_M → am_R) (pc : Nat) (ls st : List am_V) (M : am_M) : am_R := am_go [] [] 0 am_X0 pX10_goOn [2, 35] k 100 pc ls st M
theorem uX10_goOn {n pc : Nat} {ls st : List am_V} {M : am_M} {res : am_O × am_M} (h : gX10_goOn (rX10_goOn n) pc ls st M = some res) : rX10_goOn (n + 100) pc ls st M = some res := am_go_ok h
theorem eX10_goOn (M : am_M) : fX10_goOn [.inr (10, 0)] M = rX10_goOn 100000 0 [.inr (10, 0), am_D] [] M := am_meth_eq rfl rfl
set_option maxRecDepth 20000 in
theorem gX10_goOn_0 (k : Nat → List am_V → List am_V → am_M → am_R) (M : am_M) : gX10_goOn k 0 [.inr (10, 0), am_D] [] M =
  k 2 [.inr (10, 0), .inl (.int 0)] [] M := (rfl)
theorem eX10_goOn_0 {n : Nat} {M : am_M} {res : am_O × am_M} (h : (rX10_goOn n 2 [.inr (10, 0), .inl (.int 0)] [] M) = some res) : rX10_goOn (n + 100) 0 [.inr (10, 0), am_D] [] M = some res := uX10_goOn ((gX10_goOn_0 (rX10_goOn n) M).trans h)
set_option maxRecDepth 20000 in
theorem gX10_goOn_2 (k : Nat → List am_V → List am_V → am_M → am_R) (x1 : Int32) (M : am_M) : gX10_goOn k 2 [.inr (10, 0), .inl (.int x1)] [] M =
  if 10 ≤ x1 then
   k 35 [.inr (10, 0), .inl (.int 0)] [] M
  else if am_in x1 10 then
   if (M 59 0 (Int32.toNatClampNeg x1)) ≤ 0 then
    k 2 [.inr (10, 0), .inl (.int (x1 + 1))] [] M
   else if am_in x1 10 then
    if am_in x1 10 then
     k 2 [.inr (10, 0), .inl (.int (x1 + 1))] [] (am_put M 59 0 (Int32.toNatClampNeg x1) ((M 59 0 (Int32.toNatClampNeg x1)) - 1))
    else none
   else none
  else none := (rfl)
theorem eX10_goOn_2 {n : Nat} {x1 : Int32} {M : am_M} {res : am_O × am_M} (h : (if 10 ≤ x1 then
   rX10_goOn n 35 [.inr (10, 0), .inl (.int 0)] [] M
  else if am_in x1 10 then
   if (M 59 0 (Int32.toNatClampNeg x1)) ≤ 0 then
    rX10_goOn n 2 [.inr (10, 0), .inl (.int (x1 + 1))] [] M
   else if am_in x1 10 then
    if am_in x1 10 then
     rX10_goOn n 2 [.inr (10, 0), .inl (.int (x1 + 1))] [] (am_put M 59 0 (Int32.toNatClampNeg x1) ((M 59 0 (Int32.toNatClampNeg x1)) - 1))
    else none
   else none
  else none) = some res) : rX10_goOn (n + 100) 2 [.inr (10, 0), .inl (.int x1)] [] M = some res := uX10_goOn ((gX10_goOn_2 (rX10_goOn n) x1 M).trans h)
set_option maxRecDepth 20000 in
theorem gX10_goOn_35 (k : Nat → List am_V → List am_V → am_M → am_R) (x1 : Int32) (M : am_M) : gX10_goOn k 35 [.inr (10, 0), .inl (.int x1)] [] M =
  if (M 10 0 14) ≤ x1 then
   some (.inl none, M)
  else if am_in x1 40 then
   if (M 48 0 (Int32.toNatClampNeg x1)) = 1 then
    if am_in x1 40 then
     if am_in x1 40 then
      k 35 [.inr (10, 0), .inl (.int (x1 + 1))] [] (am_put M 52 0 (Int32.toNatClampNeg x1) ((M 52 0 (Int32.toNatClampNeg x1)) + 1))
     else none
    else none
   else k 35 [.inr (10, 0), .inl (.int (x1 + 1))] [] M
  else none := (rfl)
theorem eX10_goOn_35 {n : Nat} {x1 : Int32} {M : am_M} {res : am_O × am_M} (h : (if (M 10 0 14) ≤ x1 then
   some (.inl none, M)
  else if am_in x1 40 then
   if (M 48 0 (Int32.toNatClampNeg x1)) = 1 then
    if am_in x1 40 then
     if am_in x1 40 then
      rX10_goOn n 35 [.inr (10, 0), .inl (.int (x1 + 1))] [] (am_put M 52 0 (Int32.toNatClampNeg x1) ((M 52 0 (Int32.toNatClampNeg x1)) + 1))
     else none
    else none
   else rX10_goOn n 35 [.inr (10, 0), .inl (.int (x1 + 1))] [] M
  else none) = some res) : rX10_goOn (n + 100) 35 [.inr (10, 0), .inl (.int x1)] [] M = some res := uX10_goOn ((gX10_goOn_35 (rX10_goOn n) x1 M).trans h)
def rX10_measure (n pc : Nat) (ls st : List am_V) (M : am_M) : am_R := am_run [fX10_of, fX10_absorbance] [] 0 am_X0 pX10_measure n pc ls st M
def gX10_measure (k : Nat → List am_V → List am_V → am_M → am_R) (pc : Nat) (ls st : List am_V) (M : am_M) : am_R := am_go [fX10_of, fX10_absorbance] [] 0 am_X0 pX10_measure [2, 38, 59, 84] k 100 pc ls st M
theorem uX10_measure {n pc : Nat} {ls st : List am_V} {M : am_M} {res : am_O × am_M} (h : gX10_measure (rX10_measure n) pc ls st M = some res) : rX10_measure (n + 100) pc ls st M = some res := am_go_ok h
theorem eX10_measure (M : am_M) : fX10_measure [.inr (10, 0)] M = rX10_measure 100000 0 [.inr (10, 0), am_D] [] M := am_meth_eq rfl rfl
set_option maxRecDepth 20000 in
theorem gX10_measure_0 (k : Nat → List am_V → List am_V → am_M → am_R) (M : am_M) : gX10_measure k 0 [.inr (10, 0), am_D] [] M =
  k 2 [.inr (10, 0), .inl (.int 0)] [] M := (rfl)
theorem eX10_measure_0 {n : Nat} {M : am_M} {res : am_O × am_M} (h : (rX10_measure n 2 [.inr (10, 0), .inl (.int 0)] [] M) = some res) : rX10_measure (n + 100) 0 [.inr (10, 0), am_D] [] M = some res := uX10_measure ((gX10_measure_0 (rX10_measure n) M).trans h)
set_option maxRecDepth 20000 in
theorem gX10_measure_2 (k : Nat → List am_V → List am_V → am_M → am_R) (x1 : Int32) (M : am_M) : gX10_measure k 2 [.inr (10, 0), .inl (.int x1)] [] M =
  if (M 10 0 14) ≤ x1 then
   some (.inl none, M)
  else if am_in x1 40 then
   if (M 48 0 (Int32.toNatClampNeg x1)) = 1 then
    if am_in x1 40 then
     if am_in x1 40 then
      am_ret [] 35 [.inl (.int (M 52 0 (Int32.toNatClampNeg x1)))] (k 38 [.inr (10, 0), .inl (.int x1)]) (fX10_of [.inr (10, 0), .inl (.int (M 46 0 (Int32.toNatClampNeg x1))), .inl (.int 7)] M)
     else none
    else none
   else k 2 [.inr (10, 0), .inl (.int (x1 + 1))] [] M
  else none := (rfl)
theorem eX10_measure_2 {n : Nat} {x1 : Int32} {M : am_M} {res : am_O × am_M} (h : (if (M 10 0 14) ≤ x1 then
   some (.inl none, M)
  else if am_in x1 40 then
   if (M 48 0 (Int32.toNatClampNeg x1)) = 1 then
    if am_in x1 40 then
     if am_in x1 40 then
      am_ret [] 35 [.inl (.int (M 52 0 (Int32.toNatClampNeg x1)))] (rX10_measure n 38 [.inr (10, 0), .inl (.int x1)]) (fX10_of [.inr (10, 0), .inl (.int (M 46 0 (Int32.toNatClampNeg x1))), .inl (.int 7)] M)
     else none
    else none
   else rX10_measure n 2 [.inr (10, 0), .inl (.int (x1 + 1))] [] M
  else none) = some res) : rX10_measure (n + 100) 2 [.inr (10, 0), .inl (.int x1)] [] M = some res := uX10_measure ((gX10_measure_2 (rX10_measure n) x1 M).trans h)
set_option maxRecDepth 20000 in
theorem gX10_measure_38 (k : Nat → List am_V → List am_V → am_M → am_R) (x1 : Int32) (y0 : Int32) (y1 : Int32) (M : am_M) : gX10_measure k 38 [.inr (10, 0), .inl (.int x1)] [.inl (.int y0), .inl (.int y1)] M =
  if y1 < y0 then
   k 2 [.inr (10, 0), .inl (.int (x1 + 1))] [] M
  else if am_in x1 40 then
   if am_in x1 40 then
    am_ret [] 56 [.inl (.int (M 52 0 (Int32.toNatClampNeg x1)))] (k 59 [.inr (10, 0), .inl (.int x1)]) (fX10_of [.inr (10, 0), .inl (.int (M 46 0 (Int32.toNatClampNeg x1))), .inl (.int 8)] M)
   else none
  else none := (rfl)
theorem eX10_measure_38 {n : Nat} {x1 : Int32} {y0 : Int32} {y1 : Int32} {M : am_M} {res : am_O × am_M} (h : (if y1 < y0 then
   rX10_measure n 2 [.inr (10, 0), .inl (.int (x1 + 1))] [] M
  else if am_in x1 40 then
   if am_in x1 40 then
    am_ret [] 56 [.inl (.int (M 52 0 (Int32.toNatClampNeg x1)))] (rX10_measure n 59 [.inr (10, 0), .inl (.int x1)]) (fX10_of [.inr (10, 0), .inl (.int (M 46 0 (Int32.toNatClampNeg x1))), .inl (.int 8)] M)
   else none
  else none) = some res) : rX10_measure (n + 100) 38 [.inr (10, 0), .inl (.int x1)] [.inl (.int y0), .inl (.int y1)] M = some res := uX10_measure ((gX10_measure_38 (rX10_measure n) x1 y0 y1 M).trans h)
set_option maxRecDepth 20000 in
theorem gX10_measure_59 (k : Nat → List am_V → List am_V → am_M → am_R) (x1 : Int32) (y0 : Int32) (y1 : Int32) (M : am_M) : gX10_measure k 59 [.inr (10, 0), .inl (.int x1)] [.inl (.int y0), .inl (.int y1)] M =
  if y0 < y1 then
   k 2 [.inr (10, 0), .inl (.int (x1 + 1))] [] M
  else if am_in x1 40 then
   am_ret [] 81 [.inl (.int ((6 * x1) + (M 56 0 (Int32.toNatClampNeg x1)))), .inr (55, 0)] (k 84 [.inr (10, 0), .inl (.int x1)]) (fX10_absorbance [.inl (.int (M 10 0 44))] M)
  else none := (rfl)
theorem eX10_measure_59 {n : Nat} {x1 : Int32} {y0 : Int32} {y1 : Int32} {M : am_M} {res : am_O × am_M} (h : (if y0 < y1 then
   rX10_measure n 2 [.inr (10, 0), .inl (.int (x1 + 1))] [] M
  else if am_in x1 40 then
   am_ret [] 81 [.inl (.int ((6 * x1) + (M 56 0 (Int32.toNatClampNeg x1)))), .inr (55, 0)] (rX10_measure n 84 [.inr (10, 0), .inl (.int x1)]) (fX10_absorbance [.inl (.int (M 10 0 44))] M)
  else none) = some res) : rX10_measure (n + 100) 59 [.inr (10, 0), .inl (.int x1)] [.inl (.int y0), .inl (.int y1)] M = some res := uX10_measure ((gX10_measure_59 (rX10_measure n) x1 y0 y1 M).trans h)
set_option maxRecDepth 20000 in
theorem gX10_measure_84 (k : Nat → List am_V → List am_V → am_M → am_R) (x1 : Int32) (y0 : Int32) (y1 : Int32) (M : am_M) : gX10_measure k 84 [.inr (10, 0), .inl (.int x1)] [.inl (.int y0), .inl (.int y1), .inr (55, 0)] M =
  if am_in y1 240 then
   if am_in x1 40 then
    if am_in x1 40 then
     k 2 [.inr (10, 0), .inl (.int (x1 + 1))] [] (am_put (am_put M 55 0 (Int32.toNatClampNeg y1) y0) 56 0 (Int32.toNatClampNeg x1) ((M 56 0 (Int32.toNatClampNeg x1)) + 1))
    else none
   else none
  else none := (rfl)
theorem eX10_measure_84 {n : Nat} {x1 : Int32} {y0 : Int32} {y1 : Int32} {M : am_M} {res : am_O × am_M} (h : (if am_in y1 240 then
   if am_in x1 40 then
    if am_in x1 40 then
     rX10_measure n 2 [.inr (10, 0), .inl (.int (x1 + 1))] [] (am_put (am_put M 55 0 (Int32.toNatClampNeg y1) y0) 56 0 (Int32.toNatClampNeg x1) ((M 56 0 (Int32.toNatClampNeg x1)) + 1))
    else none
   else none
  else none) = some res) : rX10_measure (n + 100) 84 [.inr (10, 0), .inl (.int x1)] [.inl (.int y0), .inl (.int y1), .inr (55, 0)] M = some res := uX10_measure ((gX10_measure_84 (rX10_measure n) x1 y0 y1 M).trans h)
