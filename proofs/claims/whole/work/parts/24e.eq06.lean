/-! ===== the runs, piece by piece ===== -/
def rX6_rateOf (n pc : Nat) (ls st : List am_V) (M : am_M) : am_R := am_run [fX9_rounded] [] 3 am_X0 pX6_rateOf n pc ls st M
def gX6_rateOf (k : Nat → List am_V → List am_V → am_M → am_R) (pc : Nat) (ls st : List am_V) (M : am_M) : am_R := am_go [fX9_rounded] [] 3 am_X0 pX6_rateOf [14, 101] k 100 pc ls st M
theorem uX6_rateOf {n pc : Nat} {ls st : List am_V} {M : am_M} {res : am_O × am_M} (h : gX6_rateOf (rX6_rateOf n) pc ls st M = some res) : rX6_rateOf (n + 100) pc ls st M = some res := am_go_ok h
theorem eX6_rateOf (x0 : Nat) (x1 : Int32) (M : am_M) : fX6_rateOf [.inr (13, x0), .inl (.int x1)] M = rX6_rateOf 100000 0 [.inr (13, x0), .inl (.int x1), am_D, am_D, am_D, am_D, am_D, am_D, am_D, am_D, am_D] [] M := am_meth_eq rfl rfl
set_option maxRecDepth 20000 in
theorem gX6_rateOf_0 (k : Nat → List am_V → List am_V → am_M → am_R) (x0 : Nat) (x1 : Int32) (M : am_M) : gX6_rateOf k 0 [.inr (13, x0), .inl (.int x1), am_D, am_D, am_D, am_D, am_D, am_D, am_D, am_D, am_D] [] M =
  k 14 [.inr (13, x0), .inl (.int x1), .inl (.long 0), am_D, .inl (.long 0), am_D, .inl (.long 0), am_D, .inl (.long 0), am_D, .inl (.int 0)] [] M := (rfl)
theorem eX6_rateOf_0 {n : Nat} {x0 : Nat} {x1 : Int32} {M : am_M} {res : am_O × am_M} (h : (rX6_rateOf n 14 [.inr (13, x0), .inl (.int x1), .inl (.long 0), am_D, .inl (.long 0), am_D, .inl (.long 0), am_D, .inl (.long 0), am_D, .inl (.int 0)] [] M) = some res) : rX6_rateOf (n + 100) 0 [.inr (13, x0), .inl (.int x1), am_D, am_D, am_D, am_D, am_D, am_D, am_D, am_D, am_D] [] M = some res := uX6_rateOf ((gX6_rateOf_0 (rX6_rateOf n) x0 x1 M).trans h)
set_option maxRecDepth 20000 in
theorem gX6_rateOf_14 (k : Nat → List am_V → List am_V → am_M → am_R) (x0 : Nat) (x1 : Int32) (x2 : Int64) (x4 : Int64) (x6 : Int64) (x8 : Int64) (x10 : Int32) (M : am_M) : gX6_rateOf k 14 [.inr (13, x0), .inl (.int x1), .inl (.long x2), am_D, .inl (.long x4), am_D, .inl (.long x6), am_D, .inl (.long x8), am_D, .inl (.int x10)] [] M =
  if x1 ≤ x10 then
   am_ret [] 98 [] (k 101 [.inr (13, x0), .inl (.int x1), .inl (.long x2), am_D, .inl (.long x4), am_D, .inl (.long x6), am_D, .inl (.long x8), am_D, .inl (.int x10)]) (fX9_rounded [.inl (.long (1000 * (((Int32.toInt64 x1) * x8) - (x2 * x6)))), .inl (.long (((Int32.toInt64 x1) * x4) - (x2 * x2)))] M)
  else if (Int32.ofNat 6) ≤ x10 then
   am_ret [] 98 [] (k 101 [.inr (13, x0), .inl (.int x1), .inl (.long x2), am_D, .inl (.long x4), am_D, .inl (.long x6), am_D, .inl (.long x8), am_D, .inl (.int x10)]) (fX9_rounded [.inl (.long (1000 * (((Int32.toInt64 x1) * x8) - (x2 * x6)))), .inl (.long (((Int32.toInt64 x1) * x4) - (x2 * x2)))] M)
  else if am_in x10 6 then
   if am_in x10 6 then
    k 14 [.inr (13, x0), .inl (.int x1), .inl (.long (x2 + (Int32.toInt64 x10))), am_D, .inl (.long (x4 + ((Int32.toInt64 x10) * (Int32.toInt64 x10)))), am_D, .inl (.long (x6 + (Int32.toInt64 (M 13 x0 (Int32.toNatClampNeg x10))))), am_D, .inl (.long (x8 + ((Int32.toInt64 x10) * (Int32.toInt64 (M 13 x0 (Int32.toNatClampNeg x10)))))), am_D, .inl (.int (x10 + 1))] [] M
   else none
  else none := (rfl)
theorem eX6_rateOf_14 {n : Nat} {x0 : Nat} {x1 : Int32} {x2 : Int64} {x4 : Int64} {x6 : Int64} {x8 : Int64} {x10 : Int32} {M : am_M} {res : am_O × am_M} (h : (if x1 ≤ x10 then
   am_ret [] 98 [] (rX6_rateOf n 101 [.inr (13, x0), .inl (.int x1), .inl (.long x2), am_D, .inl (.long x4), am_D, .inl (.long x6), am_D, .inl (.long x8), am_D, .inl (.int x10)]) (fX9_rounded [.inl (.long (1000 * (((Int32.toInt64 x1) * x8) - (x2 * x6)))), .inl (.long (((Int32.toInt64 x1) * x4) - (x2 * x2)))] M)
  else if (Int32.ofNat 6) ≤ x10 then
   am_ret [] 98 [] (rX6_rateOf n 101 [.inr (13, x0), .inl (.int x1), .inl (.long x2), am_D, .inl (.long x4), am_D, .inl (.long x6), am_D, .inl (.long x8), am_D, .inl (.int x10)]) (fX9_rounded [.inl (.long (1000 * (((Int32.toInt64 x1) * x8) - (x2 * x6)))), .inl (.long (((Int32.toInt64 x1) * x4) - (x2 * x2)))] M)
  else if am_in x10 6 then
   if am_in x10 6 then
    rX6_rateOf n 14 [.inr (13, x0), .inl (.int x1), .inl (.long (x2 + (Int32.toInt64 x10))), am_D, .inl (.long (x4 + ((Int32.toInt64 x10) * (Int32.toInt64 x10)))), am_D, .inl (.long (x6 + (Int32.toInt64 (M 13 x0 (Int32.toNatClampNeg x10))))), am_D, .inl (.long (x8 + ((Int32.toInt64 x10) * (Int32.toInt64 (M 13 x0 (Int32.toNatClampNeg x10)))))), am_D, .inl (.int (x10 + 1))] [] M
   else none
  else none) = some res) : rX6_rateOf (n + 100) 14 [.inr (13, x0), .inl (.int x1), .inl (.long x2), am_D, .inl (.long x4), am_D, .inl (.long x6), am_D, .inl (.long x8), am_D, .inl (.int x10)] [] M = some res := uX6_rateOf ((gX6_rateOf_14 (rX6_rateOf n) x0 x1 x2 x4 x6 x8 x10 M).trans h)
set_option maxRecDepth 20000 in
theorem gX6_rateOf_101 (k : Nat → List am_V → List am_V → am_M → am_R) (x0 : Nat) (x1 : Int32) (x2 : Int64) (x4 : Int64) (x6 : Int64) (x8 : Int64) (x10 : Int32) (y0 : Int64) (M : am_M) : gX6_rateOf k 101 [.inr (13, x0), .inl (.int x1), .inl (.long x2), am_D, .inl (.long x4), am_D, .inl (.long x6), am_D, .inl (.long x8), am_D, .inl (.int x10)] [.inl (.long y0)] M =
  some (.inl (some (.inl (.long y0))), M) := (rfl)
theorem eX6_rateOf_101 {n : Nat} {x0 : Nat} {x1 : Int32} {x2 : Int64} {x4 : Int64} {x6 : Int64} {x8 : Int64} {x10 : Int32} {y0 : Int64} {M : am_M} {res : am_O × am_M} (h : (some (.inl (some (.inl (.long y0))), M)) = some res) : rX6_rateOf (n + 100) 101 [.inr (13, x0), .inl (.int x1), .inl (.long x2), am_D, .inl (.long x4), am_D, .inl (.long x6), am_D, .inl (.long x8), am_D, .inl (.int x10)] [.inl (.long y0)] M = some res := uX6_rateOf ((gX6_rateOf_101 (rX6_rateOf n) x0 x1 x2 x4 x6 x8 x10 y0 M).trans h)
def rX6_formulaOf (n pc : Nat) (ls st : List am_V) (M : am_M) : am_R := am_run [fX9_isWithin, fX6_rateOf] [] 3 am_X0 pX6_formulaOf n pc ls st M
def gX6_formulaOf (k : Nat → List am_V → List am_V → am_M → am_R) (pc : Nat) (ls st : List am_V) (M : am_M) : am_R := am_go [fX9_isWithin, fX6_rateOf] [] 3 am_X0 pX6_formulaOf [7, 28] k 100 pc ls st M
theorem uX6_formulaOf {n pc : Nat} {ls st : List am_V} {M : am_M} {res : am_O × am_M} (h : gX6_formulaOf (rX6_formulaOf n) pc ls st M = some res) : rX6_formulaOf (n + 100) pc ls st M = some res := am_go_ok h
theorem eX6_formulaOf (x0 : Nat) (x1 : Nat) (x2 : Int32) (M : am_M) : fX6_formulaOf [.inr (6, x0), .inr (13, x1), .inl (.int x2)] M = rX6_formulaOf 100000 0 [.inr (6, x0), .inr (13, x1), .inl (.int x2), am_D] [] M := am_meth_eq rfl rfl
set_option maxRecDepth 20000 in
theorem gX6_formulaOf_0 (k : Nat → List am_V → List am_V → am_M → am_R) (x0 : Nat) (x1 : Nat) (x2 : Int32) (M : am_M) : gX6_formulaOf k 0 [.inr (6, x0), .inr (13, x1), .inl (.int x2), am_D] [] M =
  am_ret [] 4 [] (k 7 [.inr (6, x0), .inr (13, x1), .inl (.int x2), am_D]) (fX9_isWithin [.inl (.int x2), .inl (.int 1), .inl (.int (Int32.ofNat 6))] M) := (rfl)
theorem eX6_formulaOf_0 {n : Nat} {x0 : Nat} {x1 : Nat} {x2 : Int32} {M : am_M} {res : am_O × am_M} (h : (am_ret [] 4 [] (rX6_formulaOf n 7 [.inr (6, x0), .inr (13, x1), .inl (.int x2), am_D]) (fX9_isWithin [.inl (.int x2), .inl (.int 1), .inl (.int (Int32.ofNat 6))] M)) = some res) : rX6_formulaOf (n + 100) 0 [.inr (6, x0), .inr (13, x1), .inl (.int x2), am_D] [] M = some res := uX6_formulaOf ((gX6_formulaOf_0 (rX6_formulaOf n) x0 x1 x2 M).trans h)
set_option maxRecDepth 20000 in
theorem gX6_formulaOf_7 (k : Nat → List am_V → List am_V → am_M → am_R) (x0 : Nat) (x1 : Nat) (x2 : Int32) (y0 : Int32) (M : am_M) : gX6_formulaOf k 7 [.inr (6, x0), .inr (13, x1), .inl (.int x2), am_D] [.inl (.int y0)] M =
  if y0 = 0 then
   some (.inl (some (.inl (.long 0))), M)
  else if (M 18 x0 9) = 1 then
   am_ret [] 25 [] (k 28 [.inr (6, x0), .inr (13, x1), .inl (.int x2), am_D]) (fX6_rateOf [.inr (13, x1), .inl (.int x2)] M)
  else if am_in (x2 - 1) 6 then
   if (M 18 x0 9) = 0 then
    some (.inl (some (.inl (.long (Int32.toInt64 (M 13 x1 (Int32.toNatClampNeg (x2 - 1))))))), M)
   else some (.inl (some (.inl (.long (Int32.toInt64 ((M 13 x1 (Int32.toNatClampNeg (x2 - 1))) - (M 13 x1 0)))))), M)
  else none := (rfl)
theorem eX6_formulaOf_7 {n : Nat} {x0 : Nat} {x1 : Nat} {x2 : Int32} {y0 : Int32} {M : am_M} {res : am_O × am_M} (h : (if y0 = 0 then
   some (.inl (some (.inl (.long 0))), M)
  else if (M 18 x0 9) = 1 then
   am_ret [] 25 [] (rX6_formulaOf n 28 [.inr (6, x0), .inr (13, x1), .inl (.int x2), am_D]) (fX6_rateOf [.inr (13, x1), .inl (.int x2)] M)
  else if am_in (x2 - 1) 6 then
   if (M 18 x0 9) = 0 then
    some (.inl (some (.inl (.long (Int32.toInt64 (M 13 x1 (Int32.toNatClampNeg (x2 - 1))))))), M)
   else some (.inl (some (.inl (.long (Int32.toInt64 ((M 13 x1 (Int32.toNatClampNeg (x2 - 1))) - (M 13 x1 0)))))), M)
  else none) = some res) : rX6_formulaOf (n + 100) 7 [.inr (6, x0), .inr (13, x1), .inl (.int x2), am_D] [.inl (.int y0)] M = some res := uX6_formulaOf ((gX6_formulaOf_7 (rX6_formulaOf n) x0 x1 x2 y0 M).trans h)
set_option maxRecDepth 20000 in
theorem gX6_formulaOf_28 (k : Nat → List am_V → List am_V → am_M → am_R) (x0 : Nat) (x1 : Nat) (x2 : Int32) (y0 : Int64) (M : am_M) : gX6_formulaOf k 28 [.inr (6, x0), .inr (13, x1), .inl (.int x2), am_D] [.inl (.long y0)] M =
  some (.inl (some (.inl (.long y0))), M) := (rfl)
theorem eX6_formulaOf_28 {n : Nat} {x0 : Nat} {x1 : Nat} {x2 : Int32} {y0 : Int64} {M : am_M} {res : am_O × am_M} (h : (some (.inl (some (.inl (.long y0))), M)) = some res) : rX6_formulaOf (n + 100) 28 [.inr (6, x0), .inr (13, x1), .inl (.int x2), am_D] [.inl (.long y0)] M = some res := uX6_formulaOf ((gX6_formulaOf_28 (rX6_formulaOf n) x0 x1 x2 y0 M).trans h)
def rX6_brokenRules (n pc : Nat) (ls st : List am_V) (M : am_M) : am_R := am_run [fX2_above, fX2_below] [] 1 am_X0 pX6_brokenRules n pc ls st M
def gX6_brokenRules (k : Nat → List am_V → List am_V → am_M → am_R) (pc : Nat) (ls st : List am_V) (M : am_M) : am_R := am_go [fX2_above, fX2_below] [] 1 am_X0 pX6_brokenRules [33, 52, 78, 97, 118, 133] k 100 pc ls st M
theorem uX6_brokenRules {n pc : Nat} {ls st : List am_V} {M : am_M} {res : am_O × am_M} (h : gX6_brokenRules (rX6_brokenRules n) pc ls st M = some res) : rX6_brokenRules (n + 100) pc ls st M = some res := am_go_ok h
theorem eX6_brokenRules (x0 : Nat) (M : am_M) : fX6_brokenRules [.inr (6, x0)] M = rX6_brokenRules 100000 0 [.inr (6, x0), am_D, am_D, am_D, am_D, am_D, am_D, am_D] [] M := am_meth_eq rfl rfl
set_option maxRecDepth 20000 in
theorem gX6_brokenRules_0 (k : Nat → List am_V → List am_V → am_M → am_R) (x0 : Nat) (M : am_M) : gX6_brokenRules k 0 [.inr (6, x0), am_D, am_D, am_D, am_D, am_D, am_D, am_D] [] M =
  am_ret [] 30 [] (k 33 [.inr (6, x0), .inl (.long (Int32.toInt64 (M 18 x0 14))), am_D, .inl (.long (Int32.toInt64 (M 18 x0 15))), am_D, am_D, am_D, am_D]) (fX2_above [.inr (2, x0), .inl (.long ((Int32.toInt64 (M 18 x0 14)) + (3 * (Int32.toInt64 (M 18 x0 15))))), .inl (.int 1)] M) := (rfl)
theorem eX6_brokenRules_0 {n : Nat} {x0 : Nat} {M : am_M} {res : am_O × am_M} (h : (am_ret [] 30 [] (rX6_brokenRules n 33 [.inr (6, x0), .inl (.long (Int32.toInt64 (M 18 x0 14))), am_D, .inl (.long (Int32.toInt64 (M 18 x0 15))), am_D, am_D, am_D, am_D]) (fX2_above [.inr (2, x0), .inl (.long ((Int32.toInt64 (M 18 x0 14)) + (3 * (Int32.toInt64 (M 18 x0 15))))), .inl (.int 1)] M)) = some res) : rX6_brokenRules (n + 100) 0 [.inr (6, x0), am_D, am_D, am_D, am_D, am_D, am_D, am_D] [] M = some res := uX6_brokenRules ((gX6_brokenRules_0 (rX6_brokenRules n) x0 M).trans h)
set_option maxRecDepth 20000 in
theorem gX6_brokenRules_33 (k : Nat → List am_V → List am_V → am_M → am_R) (x0 : Nat) (x1 : Int64) (x3 : Int64) (y0 : Int32) (M : am_M) : gX6_brokenRules k 33 [.inr (6, x0), .inl (.long x1), am_D, .inl (.long x3), am_D, am_D, am_D, am_D] [.inl (.int y0)] M =
  if y0 = 1 then
   am_ret [] 75 [] (k 78 [.inr (6, x0), .inl (.long x1), am_D, .inl (.long x3), am_D, .inl (.int 1), am_D, am_D]) (fX2_above [.inr (2, x0), .inl (.long (x1 + (2 * x3))), .inl (.int 3)] M)
  else am_ret [] 49 [] (k 52 [.inr (6, x0), .inl (.long x1), am_D, .inl (.long x3), am_D, am_D, am_D, am_D]) (fX2_below [.inr (2, x0), .inl (.long (x1 - (3 * x3))), .inl (.int 1)] M) := (rfl)
theorem eX6_brokenRules_33 {n : Nat} {x0 : Nat} {x1 : Int64} {x3 : Int64} {y0 : Int32} {M : am_M} {res : am_O × am_M} (h : (if y0 = 1 then
   am_ret [] 75 [] (rX6_brokenRules n 78 [.inr (6, x0), .inl (.long x1), am_D, .inl (.long x3), am_D, .inl (.int 1), am_D, am_D]) (fX2_above [.inr (2, x0), .inl (.long (x1 + (2 * x3))), .inl (.int 3)] M)
  else am_ret [] 49 [] (rX6_brokenRules n 52 [.inr (6, x0), .inl (.long x1), am_D, .inl (.long x3), am_D, am_D, am_D, am_D]) (fX2_below [.inr (2, x0), .inl (.long (x1 - (3 * x3))), .inl (.int 1)] M)) = some res) : rX6_brokenRules (n + 100) 33 [.inr (6, x0), .inl (.long x1), am_D, .inl (.long x3), am_D, am_D, am_D, am_D] [.inl (.int y0)] M = some res := uX6_brokenRules ((gX6_brokenRules_33 (rX6_brokenRules n) x0 x1 x3 y0 M).trans h)
set_option maxRecDepth 20000 in
theorem gX6_brokenRules_78 (k : Nat → List am_V → List am_V → am_M → am_R) (x0 : Nat) (x1 : Int64) (x3 : Int64) (x5 : Int32) (y0 : Int32) (M : am_M) : gX6_brokenRules k 78 [.inr (6, x0), .inl (.long x1), am_D, .inl (.long x3), am_D, .inl (.int x5), am_D, am_D] [.inl (.int y0)] M =
  if 2 ≤ y0 then
   am_ret [] 115 [] (k 118 [.inr (6, x0), .inl (.long x1), am_D, .inl (.long x3), am_D, .inl (.int x5), .inl (.int 1), am_D]) (fX2_above [.inr (2, x0), .inl (.long x1), .inl (.int 10)] M)
  else am_ret [] 94 [] (k 97 [.inr (6, x0), .inl (.long x1), am_D, .inl (.long x3), am_D, .inl (.int x5), am_D, am_D]) (fX2_below [.inr (2, x0), .inl (.long (x1 - (2 * x3))), .inl (.int 3)] M) := (rfl)
theorem eX6_brokenRules_78 {n : Nat} {x0 : Nat} {x1 : Int64} {x3 : Int64} {x5 : Int32} {y0 : Int32} {M : am_M} {res : am_O × am_M} (h : (if 2 ≤ y0 then
   am_ret [] 115 [] (rX6_brokenRules n 118 [.inr (6, x0), .inl (.long x1), am_D, .inl (.long x3), am_D, .inl (.int x5), .inl (.int 1), am_D]) (fX2_above [.inr (2, x0), .inl (.long x1), .inl (.int 10)] M)
  else am_ret [] 94 [] (rX6_brokenRules n 97 [.inr (6, x0), .inl (.long x1), am_D, .inl (.long x3), am_D, .inl (.int x5), am_D, am_D]) (fX2_below [.inr (2, x0), .inl (.long (x1 - (2 * x3))), .inl (.int 3)] M)) = some res) : rX6_brokenRules (n + 100) 78 [.inr (6, x0), .inl (.long x1), am_D, .inl (.long x3), am_D, .inl (.int x5), am_D, am_D] [.inl (.int y0)] M = some res := uX6_brokenRules ((gX6_brokenRules_78 (rX6_brokenRules n) x0 x1 x3 x5 y0 M).trans h)
set_option maxRecDepth 20000 in
theorem gX6_brokenRules_52 (k : Nat → List am_V → List am_V → am_M → am_R) (x0 : Nat) (x1 : Int64) (x3 : Int64) (y0 : Int32) (M : am_M) : gX6_brokenRules k 52 [.inr (6, x0), .inl (.long x1), am_D, .inl (.long x3), am_D, am_D, am_D, am_D] [.inl (.int y0)] M =
  if y0 = 1 then
   am_ret [] 75 [] (k 78 [.inr (6, x0), .inl (.long x1), am_D, .inl (.long x3), am_D, .inl (.int 1), am_D, am_D]) (fX2_above [.inr (2, x0), .inl (.long (x1 + (2 * x3))), .inl (.int 3)] M)
  else am_ret [] 75 [] (k 78 [.inr (6, x0), .inl (.long x1), am_D, .inl (.long x3), am_D, .inl (.int 0), am_D, am_D]) (fX2_above [.inr (2, x0), .inl (.long (x1 + (2 * x3))), .inl (.int 3)] M) := (rfl)
theorem eX6_brokenRules_52 {n : Nat} {x0 : Nat} {x1 : Int64} {x3 : Int64} {y0 : Int32} {M : am_M} {res : am_O × am_M} (h : (if y0 = 1 then
   am_ret [] 75 [] (rX6_brokenRules n 78 [.inr (6, x0), .inl (.long x1), am_D, .inl (.long x3), am_D, .inl (.int 1), am_D, am_D]) (fX2_above [.inr (2, x0), .inl (.long (x1 + (2 * x3))), .inl (.int 3)] M)
  else am_ret [] 75 [] (rX6_brokenRules n 78 [.inr (6, x0), .inl (.long x1), am_D, .inl (.long x3), am_D, .inl (.int 0), am_D, am_D]) (fX2_above [.inr (2, x0), .inl (.long (x1 + (2 * x3))), .inl (.int 3)] M)) = some res) : rX6_brokenRules (n + 100) 52 [.inr (6, x0), .inl (.long x1), am_D, .inl (.long x3), am_D, am_D, am_D, am_D] [.inl (.int y0)] M = some res := uX6_brokenRules ((gX6_brokenRules_52 (rX6_brokenRules n) x0 x1 x3 y0 M).trans h)
set_option maxRecDepth 20000 in
theorem gX6_brokenRules_118 (k : Nat → List am_V → List am_V → am_M → am_R) (x0 : Nat) (x1 : Int64) (x3 : Int64) (x5 : Int32) (x6 : Int32) (y0 : Int32) (M : am_M) : gX6_brokenRules k 118 [.inr (6, x0), .inl (.long x1), am_D, .inl (.long x3), am_D, .inl (.int x5), .inl (.int x6), am_D] [.inl (.int y0)] M =
  if y0 = 10 then
   if x5 = 0 then
    if x6 = 0 then
     some (.inl (some (.inl (.int 4))), M)
    else some (.inl (some (.inl (.int 6))), M)
   else if x6 = 0 then
    some (.inl (some (.inl (.int 5))), M)
   else some (.inl (some (.inl (.int 7))), M)
  else am_ret [] 130 [] (k 133 [.inr (6, x0), .inl (.long x1), am_D, .inl (.long x3), am_D, .inl (.int x5), .inl (.int x6), am_D]) (fX2_below [.inr (2, x0), .inl (.long x1), .inl (.int 10)] M) := (rfl)
theorem eX6_brokenRules_118 {n : Nat} {x0 : Nat} {x1 : Int64} {x3 : Int64} {x5 : Int32} {x6 : Int32} {y0 : Int32} {M : am_M} {res : am_O × am_M} (h : (if y0 = 10 then
   if x5 = 0 then
    if x6 = 0 then
     some (.inl (some (.inl (.int 4))), M)
    else some (.inl (some (.inl (.int 6))), M)
   else if x6 = 0 then
    some (.inl (some (.inl (.int 5))), M)
   else some (.inl (some (.inl (.int 7))), M)
  else am_ret [] 130 [] (rX6_brokenRules n 133 [.inr (6, x0), .inl (.long x1), am_D, .inl (.long x3), am_D, .inl (.int x5), .inl (.int x6), am_D]) (fX2_below [.inr (2, x0), .inl (.long x1), .inl (.int 10)] M)) = some res) : rX6_brokenRules (n + 100) 118 [.inr (6, x0), .inl (.long x1), am_D, .inl (.long x3), am_D, .inl (.int x5), .inl (.int x6), am_D] [.inl (.int y0)] M = some res := uX6_brokenRules ((gX6_brokenRules_118 (rX6_brokenRules n) x0 x1 x3 x5 x6 y0 M).trans h)
set_option maxRecDepth 20000 in
theorem gX6_brokenRules_97 (k : Nat → List am_V → List am_V → am_M → am_R) (x0 : Nat) (x1 : Int64) (x3 : Int64) (x5 : Int32) (y0 : Int32) (M : am_M) : gX6_brokenRules k 97 [.inr (6, x0), .inl (.long x1), am_D, .inl (.long x3), am_D, .inl (.int x5), am_D, am_D] [.inl (.int y0)] M =
  if y0 < 2 then
   am_ret [] 115 [] (k 118 [.inr (6, x0), .inl (.long x1), am_D, .inl (.long x3), am_D, .inl (.int x5), .inl (.int 0), am_D]) (fX2_above [.inr (2, x0), .inl (.long x1), .inl (.int 10)] M)
  else am_ret [] 115 [] (k 118 [.inr (6, x0), .inl (.long x1), am_D, .inl (.long x3), am_D, .inl (.int x5), .inl (.int 1), am_D]) (fX2_above [.inr (2, x0), .inl (.long x1), .inl (.int 10)] M) := (rfl)
theorem eX6_brokenRules_97 {n : Nat} {x0 : Nat} {x1 : Int64} {x3 : Int64} {x5 : Int32} {y0 : Int32} {M : am_M} {res : am_O × am_M} (h : (if y0 < 2 then
   am_ret [] 115 [] (rX6_brokenRules n 118 [.inr (6, x0), .inl (.long x1), am_D, .inl (.long x3), am_D, .inl (.int x5), .inl (.int 0), am_D]) (fX2_above [.inr (2, x0), .inl (.long x1), .inl (.int 10)] M)
  else am_ret [] 115 [] (rX6_brokenRules n 118 [.inr (6, x0), .inl (.long x1), am_D, .inl (.long x3), am_D, .inl (.int x5), .inl (.int 1), am_D]) (fX2_above [.inr (2, x0), .inl (.long x1), .inl (.int 10)] M)) = some res) : rX6_brokenRules (n + 100) 97 [.inr (6, x0), .inl (.long x1), am_D, .inl (.long x3), am_D, .inl (.int x5), am_D, am_D] [.inl (.int y0)] M = some res := uX6_brokenRules ((gX6_brokenRules_97 (rX6_brokenRules n) x0 x1 x3 x5 y0 M).trans h)
set_option maxRecDepth 20000 in
theorem gX6_brokenRules_133 (k : Nat → List am_V → List am_V → am_M → am_R) (x0 : Nat) (x1 : Int64) (x3 : Int64) (x5 : Int32) (x6 : Int32) (y0 : Int32) (M : am_M) : gX6_brokenRules k 133 [.inr (6, x0), .inl (.long x1), am_D, .inl (.long x3), am_D, .inl (.int x5), .inl (.int x6), am_D] [.inl (.int y0)] M =
  if y0 = 10 then
   if x5 = 0 then
    if x6 = 0 then
     some (.inl (some (.inl (.int 4))), M)
    else some (.inl (some (.inl (.int 6))), M)
   else if x6 = 0 then
    some (.inl (some (.inl (.int 5))), M)
   else some (.inl (some (.inl (.int 7))), M)
  else if x5 = 0 then
   if x6 = 0 then
    some (.inl (some (.inl (.int 0))), M)
   else some (.inl (some (.inl (.int 2))), M)
  else if x6 = 0 then
   some (.inl (some (.inl (.int 1))), M)
  else some (.inl (some (.inl (.int 3))), M) := (rfl)
theorem eX6_brokenRules_133 {n : Nat} {x0 : Nat} {x1 : Int64} {x3 : Int64} {x5 : Int32} {x6 : Int32} {y0 : Int32} {M : am_M} {res : am_O × am_M} (h : (if y0 = 10 then
   if x5 = 0 then
    if x6 = 0 then
     some (.inl (some (.inl (.int 4))), M)
    else some (.inl (some (.inl (.int 6))), M)
   else if x6 = 0 then
    some (.inl (some (.inl (.int 5))), M)
   else some (.inl (some (.inl (.int 7))), M)
  else if x5 = 0 then
   if x6 = 0 then
    some (.inl (some (.inl (.int 0))), M)
   else some (.inl (some (.inl (.int 2))), M)
  else if x6 = 0 then
   some (.inl (some (.inl (.int 1))), M)
  else some (.inl (some (.inl (.int 3))), M)) = some res) : rX6_brokenRules (n + 100) 133 [.inr (6, x0), .inl (.long x1), am_D, .inl (.long x3), am_D, .inl (.int x5), .inl (.int x6), am_D] [.inl (.int y0)] M = some res := uX6_brokenRules ((gX6_brokenRules_133 (rX6_brokenRules n) x0 x1 x3 x5 x6 y0 M).trans h)
def rX7_turnSuccession (n pc : Nat) (ls st : List am_V) (M : am_M) : am_R := am_run [] [] 2 am_X0 pX7_turnSuccession n pc ls st M
def gX7_turnSuccession (k : Nat → List am_V → List am_V → am_M → am_R) (pc : Nat) (ls st : List am_V) (M : am_M) : am_R := am_go [] [] 2 am_X0 pX7_turnSuccession [] k 100 pc ls st M
theorem uX7_turnSuccession {n pc : Nat} {ls st : List am_V} {M : am_M} {res : am_O × am_M} (h : gX7_turnSuccession (rX7_turnSuccession n) pc ls st M = some res) : rX7_turnSuccession (n + 100) pc ls st M = some res := am_go_ok h
theorem eX7_turnSuccession (x1 : Int32) (x2 : Int32) (M : am_M) : fX7_turnSuccession [.inr (7, 0), .inl (.int x1), .inl (.int x2)] M = rX7_turnSuccession 100000 0 [.inr (7, 0), .inl (.int x1), .inl (.int x2), am_D] [] M := am_meth_eq rfl rfl
set_option maxRecDepth 20000 in
theorem gX7_turnSuccession_0 (k : Nat → List am_V → List am_V → am_M → am_R) (x1 : Int32) (x2 : Int32) (M : am_M) : gX7_turnSuccession k 0 [.inr (7, 0), .inl (.int x1), .inl (.int x2), am_D] [] M =
  if am_in ((x1 * 6) + x2) 36 then
   if (am_b (M 21 0 (Int32.toNatClampNeg ((x1 * 6) + x2)))) = 0 then
    if am_in ((x1 * 6) + x2) 36 ∧ am_b 1 = 1 then
     if am_in ((x1 * 6) + x2) 36 then
      Option.map (fun o => (o, (am_put M 21 0 (Int32.toNatClampNeg ((x1 * 6) + x2)) 1))) (am_fin 2 .ireturn [.inr (7, 0), .inl (.int x1), .inl (.int x2), .inl (.int ((x1 * 6) + x2))] [.inl (.int (am_b ((am_put M 21 0 (Int32.toNatClampNeg ((x1 * 6) + x2)) 1) 21 0 (Int32.toNatClampNeg ((x1 * 6) + x2)))))])
     else none
    else none
   else if am_in ((x1 * 6) + x2) 36 ∧ am_b 0 = 0 then
    if am_in ((x1 * 6) + x2) 36 then
     Option.map (fun o => (o, (am_put M 21 0 (Int32.toNatClampNeg ((x1 * 6) + x2)) 0))) (am_fin 2 .ireturn [.inr (7, 0), .inl (.int x1), .inl (.int x2), .inl (.int ((x1 * 6) + x2))] [.inl (.int (am_b ((am_put M 21 0 (Int32.toNatClampNeg ((x1 * 6) + x2)) 0) 21 0 (Int32.toNatClampNeg ((x1 * 6) + x2)))))])
    else none
   else none
  else none := (rfl)
theorem eX7_turnSuccession_0 {n : Nat} {x1 : Int32} {x2 : Int32} {M : am_M} {res : am_O × am_M} (h : (if am_in ((x1 * 6) + x2) 36 then
   if (am_b (M 21 0 (Int32.toNatClampNeg ((x1 * 6) + x2)))) = 0 then
    if am_in ((x1 * 6) + x2) 36 ∧ am_b 1 = 1 then
     if am_in ((x1 * 6) + x2) 36 then
      Option.map (fun o => (o, (am_put M 21 0 (Int32.toNatClampNeg ((x1 * 6) + x2)) 1))) (am_fin 2 .ireturn [.inr (7, 0), .inl (.int x1), .inl (.int x2), .inl (.int ((x1 * 6) + x2))] [.inl (.int (am_b ((am_put M 21 0 (Int32.toNatClampNeg ((x1 * 6) + x2)) 1) 21 0 (Int32.toNatClampNeg ((x1 * 6) + x2)))))])
     else none
    else none
   else if am_in ((x1 * 6) + x2) 36 ∧ am_b 0 = 0 then
    if am_in ((x1 * 6) + x2) 36 then
     Option.map (fun o => (o, (am_put M 21 0 (Int32.toNatClampNeg ((x1 * 6) + x2)) 0))) (am_fin 2 .ireturn [.inr (7, 0), .inl (.int x1), .inl (.int x2), .inl (.int ((x1 * 6) + x2))] [.inl (.int (am_b ((am_put M 21 0 (Int32.toNatClampNeg ((x1 * 6) + x2)) 0) 21 0 (Int32.toNatClampNeg ((x1 * 6) + x2)))))])
    else none
   else none
  else none) = some res) : rX7_turnSuccession (n + 100) 0 [.inr (7, 0), .inl (.int x1), .inl (.int x2), am_D] [] M = some res := uX7_turnSuccession ((gX7_turnSuccession_0 (rX7_turnSuccession n) x1 x2 M).trans h)
def rX7_clear (n pc : Nat) (ls st : List am_V) (M : am_M) : am_R := am_run [] [] 0 am_X0 pX7_clear n pc ls st M
def gX7_clear (k : Nat → List am_V → List am_V → am_M → am_R) (pc : Nat) (ls st : List am_V) (M : am_M) : am_R := am_go [] [] 0 am_X0 pX7_clear [] k 100 pc ls st M
theorem uX7_clear {n pc : Nat} {ls st : List am_V} {M : am_M} {res : am_O × am_M} (h : gX7_clear (rX7_clear n) pc ls st M = some res) : rX7_clear (n + 100) pc ls st M = some res := am_go_ok h
theorem eX7_clear (x1 : Int32) (M : am_M) : fX7_clear [.inr (7, 0), .inl (.int x1)] M = rX7_clear 100000 0 [.inr (7, 0), .inl (.int x1)] [] M := am_meth_eq rfl rfl
set_option maxRecDepth 20000 in
theorem gX7_clear_0 (k : Nat → List am_V → List am_V → am_M → am_R) (x1 : Int32) (M : am_M) : gX7_clear k 0 [.inr (7, 0), .inl (.int x1)] [] M =
  if am_in x1 13 then
   if am_in x1 13 then
    some (.inl none, (am_put (am_put M 19 0 (Int32.toNatClampNeg x1) (-1)) 20 0 (Int32.toNatClampNeg x1) (-1)))
   else none
  else none := (rfl)
theorem eX7_clear_0 {n : Nat} {x1 : Int32} {M : am_M} {res : am_O × am_M} (h : (if am_in x1 13 then
   if am_in x1 13 then
    some (.inl none, (am_put (am_put M 19 0 (Int32.toNatClampNeg x1) (-1)) 20 0 (Int32.toNatClampNeg x1) (-1)))
   else none
  else none) = some res) : rX7_clear (n + 100) 0 [.inr (7, 0), .inl (.int x1)] [] M = some res := uX7_clear ((gX7_clear_0 (rX7_clear n) x1 M).trans h)
def rX7_turn (n pc : Nat) (ls st : List am_V) (M : am_M) : am_R := am_run [fX7_clear] [] 0 am_X0 pX7_turn n pc ls st M
def gX7_turn (k : Nat → List am_V → List am_V → am_M → am_R) (pc : Nat) (ls st : List am_V) (M : am_M) : am_R := am_go [fX7_clear] [] 0 am_X0 pX7_turn [2] k 100 pc ls st M
theorem uX7_turn {n pc : Nat} {ls st : List am_V} {M : am_M} {res : am_O × am_M} (h : gX7_turn (rX7_turn n) pc ls st M = some res) : rX7_turn (n + 100) pc ls st M = some res := am_go_ok h
theorem eX7_turn (M : am_M) : fX7_turn [.inr (7, 0)] M = rX7_turn 100000 0 [.inr (7, 0), am_D] [] M := am_meth_eq rfl rfl
set_option maxRecDepth 20000 in
theorem gX7_turn_0 (k : Nat → List am_V → List am_V → am_M → am_R) (M : am_M) : gX7_turn k 0 [.inr (7, 0), am_D] [] M =
  k 2 [.inr (7, 0), .inl (.int 0)] [] M := (rfl)
theorem eX7_turn_0 {n : Nat} {M : am_M} {res : am_O × am_M} (h : (rX7_turn n 2 [.inr (7, 0), .inl (.int 0)] [] M) = some res) : rX7_turn (n + 100) 0 [.inr (7, 0), am_D] [] M = some res := uX7_turn ((gX7_turn_0 (rX7_turn n) M).trans h)
set_option maxRecDepth 20000 in
theorem gX7_turn_2 (k : Nat → List am_V → List am_V → am_M → am_R) (x1 : Int32) (M : am_M) : gX7_turn k 2 [.inr (7, 0), .inl (.int x1)] [] M =
  if 12 ≤ x1 then
   some (.inl none, (am_put (am_put M 19 0 12 (-1)) 20 0 12 (-1)))
  else if am_in (x1 + 1) 13 then
   if am_in x1 13 then
    if am_in (x1 + 1) 13 then
     if am_in x1 13 then
      k 2 [.inr (7, 0), .inl (.int (x1 + 1))] [] (am_put (am_put M 19 0 (Int32.toNatClampNeg x1) (M 19 0 (Int32.toNatClampNeg (x1 + 1)))) 20 0 (Int32.toNatClampNeg x1) (M 20 0 (Int32.toNatClampNeg (x1 + 1))))
     else none
    else none
   else none
  else none := (rfl)
theorem eX7_turn_2 {n : Nat} {x1 : Int32} {M : am_M} {res : am_O × am_M} (h : (if 12 ≤ x1 then
   some (.inl none, (am_put (am_put M 19 0 12 (-1)) 20 0 12 (-1)))
  else if am_in (x1 + 1) 13 then
   if am_in x1 13 then
    if am_in (x1 + 1) 13 then
     if am_in x1 13 then
      rX7_turn n 2 [.inr (7, 0), .inl (.int (x1 + 1))] [] (am_put (am_put M 19 0 (Int32.toNatClampNeg x1) (M 19 0 (Int32.toNatClampNeg (x1 + 1)))) 20 0 (Int32.toNatClampNeg x1) (M 20 0 (Int32.toNatClampNeg (x1 + 1))))
     else none
    else none
   else none
  else none) = some res) : rX7_turn (n + 100) 2 [.inr (7, 0), .inl (.int x1)] [] M = some res := uX7_turn ((gX7_turn_2 (rX7_turn n) x1 M).trans h)
def rX7_userNow (n pc : Nat) (ls st : List am_V) (M : am_M) : am_R := am_run [] [] 1 am_X0 pX7_userNow n pc ls st M
def gX7_userNow (k : Nat → List am_V → List am_V → am_M → am_R) (pc : Nat) (ls st : List am_V) (M : am_M) : am_R := am_go [] [] 1 am_X0 pX7_userNow [] k 100 pc ls st M
theorem uX7_userNow {n pc : Nat} {ls st : List am_V} {M : am_M} {res : am_O × am_M} (h : gX7_userNow (rX7_userNow n) pc ls st M = some res) : rX7_userNow (n + 100) pc ls st M = some res := am_go_ok h
theorem eX7_userNow (M : am_M) : fX7_userNow [.inr (7, 0)] M = rX7_userNow 100000 0 [.inr (7, 0)] [] M := am_meth_eq rfl rfl
set_option maxRecDepth 20000 in
theorem gX7_userNow_0 (k : Nat → List am_V → List am_V → am_M → am_R) (M : am_M) : gX7_userNow k 0 [.inr (7, 0)] [] M =
  some (.inl (some (.inl (.int (M 20 0 0)))), M) := (rfl)
theorem eX7_userNow_0 {n : Nat} {M : am_M} {res : am_O × am_M} (h : (some (.inl (some (.inl (.int (M 20 0 0)))), M)) = some res) : rX7_userNow (n + 100) 0 [.inr (7, 0)] [] M = some res := uX7_userNow ((gX7_userNow_0 (rX7_userNow n) M).trans h)
def rX7_isFree (n pc : Nat) (ls st : List am_V) (M : am_M) : am_R := am_run [fX9_isWithin] [] 2 am_X0 pX7_isFree n pc ls st M
def gX7_isFree (k : Nat → List am_V → List am_V → am_M → am_R) (pc : Nat) (ls st : List am_V) (M : am_M) : am_R := am_go [fX9_isWithin] [] 2 am_X0 pX7_isFree [7] k 100 pc ls st M
theorem uX7_isFree {n pc : Nat} {ls st : List am_V} {M : am_M} {res : am_O × am_M} (h : gX7_isFree (rX7_isFree n) pc ls st M = some res) : rX7_isFree (n + 100) pc ls st M = some res := am_go_ok h
theorem eX7_isFree (x1 : Int32) (M : am_M) : fX7_isFree [.inr (7, 0), .inl (.int x1)] M = rX7_isFree 100000 0 [.inr (7, 0), .inl (.int x1)] [] M := am_meth_eq rfl rfl
set_option maxRecDepth 20000 in
theorem gX7_isFree_0 (k : Nat → List am_V → List am_V → am_M → am_R) (x1 : Int32) (M : am_M) : gX7_isFree k 0 [.inr (7, 0), .inl (.int x1)] [] M =
  am_ret [] 4 [] (k 7 [.inr (7, 0), .inl (.int x1)]) (fX9_isWithin [.inl (.int x1), .inl (.int 1), .inl (.int 12)] M) := (rfl)
theorem eX7_isFree_0 {n : Nat} {x1 : Int32} {M : am_M} {res : am_O × am_M} (h : (am_ret [] 4 [] (rX7_isFree n 7 [.inr (7, 0), .inl (.int x1)]) (fX9_isWithin [.inl (.int x1), .inl (.int 1), .inl (.int 12)] M)) = some res) : rX7_isFree (n + 100) 0 [.inr (7, 0), .inl (.int x1)] [] M = some res := uX7_isFree ((gX7_isFree_0 (rX7_isFree n) x1 M).trans h)
set_option maxRecDepth 20000 in
theorem gX7_isFree_7 (k : Nat → List am_V → List am_V → am_M → am_R) (x1 : Int32) (y0 : Int32) (M : am_M) : gX7_isFree k 7 [.inr (7, 0), .inl (.int x1)] [.inl (.int y0)] M =
  if y0 = 0 then
   some (.inl (some (.inl (.int 0))), M)
  else if am_in x1 13 then
   if (M 19 0 (Int32.toNatClampNeg x1)) = (-1) then
    some (.inl (some (.inl (.int 1))), M)
   else some (.inl (some (.inl (.int 0))), M)
  else none := (rfl)
theorem eX7_isFree_7 {n : Nat} {x1 : Int32} {y0 : Int32} {M : am_M} {res : am_O × am_M} (h : (if y0 = 0 then
   some (.inl (some (.inl (.int 0))), M)
  else if am_in x1 13 then
   if (M 19 0 (Int32.toNatClampNeg x1)) = (-1) then
    some (.inl (some (.inl (.int 1))), M)
   else some (.inl (some (.inl (.int 0))), M)
  else none) = some res) : rX7_isFree (n + 100) 7 [.inr (7, 0), .inl (.int x1)] [.inl (.int y0)] M = some res := uX7_isFree ((gX7_isFree_7 (rX7_isFree n) x1 y0 M).trans h)
