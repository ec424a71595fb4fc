/-! ===== the runs, piece by piece ===== -/
def rX10_isTest (n pc : Nat) (ls st : List am_V) (M : am_M) : am_R := am_run [fX10_within] [] 2 am_X0 pX10_isTest n pc ls st M
def gX10_isTest (k : Nat → List am_V → List am_V → am_M → am_R) (pc : Nat) (ls st : List am_V) (M : am_M) : am_R := am_go [fX10_within] [] 2 am_X0 pX10_isTest [6] k 100 pc ls st M
theorem uX10_isTest {n pc : Nat} {ls st : List am_V} {M : am_M} {res : am_O × am_M} (h : gX10_isTest (rX10_isTest n) pc ls st M = some res) : rX10_isTest (n + 100) pc ls st M = some res := am_go_ok h
theorem eX10_isTest (x0 : Int32) (M : am_M) : fX10_isTest [.inl (.int x0)] M = rX10_isTest 100000 0 [.inl (.int x0)] [] M := am_meth_eq rfl rfl
set_option maxRecDepth 20000 in
theorem gX10_isTest_0 (k : Nat → List am_V → List am_V → am_M → am_R) (x0 : Int32) (M : am_M) : gX10_isTest k 0 [.inl (.int x0)] [] M =
  am_ret [] 3 [] (k 6 [.inl (.int x0)]) (fX10_within [.inl (.int x0), .inl (.int 0), .inl (.int 3)] M) := (rfl)
theorem eX10_isTest_0 {n : Nat} {x0 : Int32} {M : am_M} {res : am_O × am_M} (h : (am_ret [] 3 [] (rX10_isTest n 6 [.inl (.int x0)]) (fX10_within [.inl (.int x0), .inl (.int 0), .inl (.int 3)] M)) = some res) : rX10_isTest (n + 100) 0 [.inl (.int x0)] [] M = some res := uX10_isTest ((gX10_isTest_0 (rX10_isTest n) x0 M).trans h)
set_option maxRecDepth 20000 in
theorem gX10_isTest_6 (k : Nat → List am_V → List am_V → am_M → am_R) (x0 : Int32) (y0 : Int32) (M : am_M) : gX10_isTest k 6 [.inl (.int x0)] [.inl (.int y0)] M =
  Option.map (fun o => (o, M)) (am_fin 2 .ireturn [.inl (.int x0)] [.inl (.int y0)]) := (rfl)
theorem eX10_isTest_6 {n : Nat} {x0 : Int32} {y0 : Int32} {M : am_M} {res : am_O × am_M} (h : (Option.map (fun o => (o, M)) (am_fin 2 .ireturn [.inl (.int x0)] [.inl (.int y0)])) = some res) : rX10_isTest (n + 100) 6 [.inl (.int x0)] [.inl (.int y0)] M = some res := uX10_isTest ((gX10_isTest_6 (rX10_isTest n) x0 y0 M).trans h)
def rX10_of (n pc : Nat) (ls st : List am_V) (M : am_M) : am_R := am_run [] [] 1 am_X0 pX10_of n pc ls st M
def gX10_of (k : Nat → List am_V → List am_V → am_M → am_R) (pc : Nat) (ls st : List am_V) (M : am_M) : am_R := am_go [] [] 1 am_X0 pX10_of [] k 100 pc ls st M
theorem uX10_of {n pc : Nat} {ls st : List am_V} {M : am_M} {res : am_O × am_M} (h : gX10_of (rX10_of n) pc ls st M = some res) : rX10_of (n + 100) pc ls st M = some res := am_go_ok h
theorem eX10_of (x1 : Int32) (x2 : Int32) (M : am_M) : fX10_of [.inr (10, 0), .inl (.int x1), .inl (.int x2)] M = rX10_of 100000 0 [.inr (10, 0), .inl (.int x1), .inl (.int x2)] [] M := am_meth_eq rfl rfl
set_option maxRecDepth 20000 in
theorem gX10_of_0 (k : Nat → List am_V → List am_V → am_M → am_R) (x1 : Int32) (x2 : Int32) (M : am_M) : gX10_of k 0 [.inr (10, 0), .inl (.int x1), .inl (.int x2)] [] M =
  if am_in ((16 * x1) + x2) 64 then
   some (.inl (some (.inl (.int (M 30 0 (Int32.toNatClampNeg ((16 * x1) + x2)))))), M)
  else none := (rfl)
theorem eX10_of_0 {n : Nat} {x1 : Int32} {x2 : Int32} {M : am_M} {res : am_O × am_M} (h : (if am_in ((16 * x1) + x2) 64 then
   some (.inl (some (.inl (.int (M 30 0 (Int32.toNatClampNeg ((16 * x1) + x2)))))), M)
  else none) = some res) : rX10_of (n + 100) 0 [.inr (10, 0), .inl (.int x1), .inl (.int x2)] [] M = some res := uX10_of ((gX10_of_0 (rX10_of n) x1 x2 M).trans h)
def rX10_pending (n pc : Nat) (ls st : List am_V) (M : am_M) : am_R := am_run [] [] 2 am_X0 pX10_pending n pc ls st M
def gX10_pending (k : Nat → List am_V → List am_V → am_M → am_R) (pc : Nat) (ls st : List am_V) (M : am_M) : am_R := am_go [] [] 2 am_X0 pX10_pending [2] k 100 pc ls st M
theorem uX10_pending {n pc : Nat} {ls st : List am_V} {M : am_M} {res : am_O × am_M} (h : gX10_pending (rX10_pending n) pc ls st M = some res) : rX10_pending (n + 100) pc ls st M = some res := am_go_ok h
theorem eX10_pending (x1 : Int32) (M : am_M) : fX10_pending [.inr (10, 0), .inl (.int x1)] M = rX10_pending 100000 0 [.inr (10, 0), .inl (.int x1), am_D] [] M := am_meth_eq rfl rfl
set_option maxRecDepth 20000 in
theorem gX10_pending_0 (k : Nat → List am_V → List am_V → am_M → am_R) (x1 : Int32) (M : am_M) : gX10_pending k 0 [.inr (10, 0), .inl (.int x1), am_D] [] M =
  k 2 [.inr (10, 0), .inl (.int x1), .inl (.int 0)] [] M := (rfl)
theorem eX10_pending_0 {n : Nat} {x1 : Int32} {M : am_M} {res : am_O × am_M} (h : (rX10_pending n 2 [.inr (10, 0), .inl (.int x1), .inl (.int 0)] [] M) = some res) : rX10_pending (n + 100) 0 [.inr (10, 0), .inl (.int x1), am_D] [] M = some res := uX10_pending ((gX10_pending_0 (rX10_pending n) x1 M).trans h)
set_option maxRecDepth 20000 in
theorem gX10_pending_2 (k : Nat → List am_V → List am_V → am_M → am_R) (x1 : Int32) (x2 : Int32) (M : am_M) : gX10_pending k 2 [.inr (10, 0), .inl (.int x1), .inl (.int x2)] [] M =
  if (M 10 0 14) ≤ x2 then
   some (.inl (some (.inl (.int 0))), M)
  else if am_in x2 40 then
   if (M 46 0 (Int32.toNatClampNeg x2)) = x1 then
    if am_in x2 40 then
     if 1 < (M 48 0 (Int32.toNatClampNeg x2)) then
      k 2 [.inr (10, 0), .inl (.int x1), .inl (.int (x2 + 1))] [] M
     else some (.inl (some (.inl (.int 1))), M)
    else none
   else k 2 [.inr (10, 0), .inl (.int x1), .inl (.int (x2 + 1))] [] M
  else none := (rfl)
theorem eX10_pending_2 {n : Nat} {x1 : Int32} {x2 : Int32} {M : am_M} {res : am_O × am_M} (h : (if (M 10 0 14) ≤ x2 then
   some (.inl (some (.inl (.int 0))), M)
  else if am_in x2 40 then
   if (M 46 0 (Int32.toNatClampNeg x2)) = x1 then
    if am_in x2 40 then
     if 1 < (M 48 0 (Int32.toNatClampNeg x2)) then
      rX10_pending n 2 [.inr (10, 0), .inl (.int x1), .inl (.int (x2 + 1))] [] M
     else some (.inl (some (.inl (.int 1))), M)
    else none
   else rX10_pending n 2 [.inr (10, 0), .inl (.int x1), .inl (.int (x2 + 1))] [] M
  else none) = some res) : rX10_pending (n + 100) 2 [.inr (10, 0), .inl (.int x1), .inl (.int x2)] [] M = some res := uX10_pending ((gX10_pending_2 (rX10_pending n) x1 x2 M).trans h)
def rX10_fits (n pc : Nat) (ls st : List am_V) (M : am_M) : am_R := am_run [fX10_within] [] 2 am_X0 pX10_fits n pc ls st M
def gX10_fits (k : Nat → List am_V → List am_V → am_M → am_R) (pc : Nat) (ls st : List am_V) (M : am_M) : am_R := am_go [fX10_within] [] 2 am_X0 pX10_fits [88, 95, 104, 112, 119, 127, 135] k 100 pc ls st M
theorem uX10_fits {n pc : Nat} {ls st : List am_V} {M : am_M} {res : am_O × am_M} (h : gX10_fits (rX10_fits n) pc ls st M = some res) : rX10_fits (n + 100) pc ls st M = some res := am_go_ok h
theorem eX10_fits (x0 : Int32) (x1 : Int32) (M : am_M) : fX10_fits [.inl (.int x0), .inl (.int x1)] M = rX10_fits 100000 0 [.inl (.int x0), .inl (.int x1)] [] M := am_meth_eq rfl rfl
set_option maxRecDepth 20000 in
theorem gX10_fits_0 (k : Nat → List am_V → List am_V → am_M → am_R) (x0 : Int32) (x1 : Int32) (M : am_M) : gX10_fits k 0 [.inl (.int x0), .inl (.int x1)] [] M =
  if x0 = 0 then
   am_ret [] 85 [] (k 88 [.inl (.int x0), .inl (.int x1)]) (fX10_within [.inl (.int x1), .inl (.int 0), .inl (.int 500)] M)
  else if x0 = 1 then
   am_ret [] 92 [] (k 95 [.inl (.int x0), .inl (.int x1)]) (fX10_within [.inl (.int x1), .inl (.int (-1)), .inl (.int 5)] M)
  else if x0 = 2 then
   am_ret [] 101 [] (k 104 [.inl (.int x0), .inl (.int x1)]) (fX10_within [.inl (.int x1), .inl (.int 0), .inl (.int 2000)] M)
  else if x0 = 3 then
   am_ret [] 109 [] (k 112 [.inl (.int x0), .inl (.int x1)]) (fX10_within [.inl (.int x1), .inl (.int 0), .inl (.int 12)] M)
  else if x0 = 4 then
   am_ret [] 92 [] (k 95 [.inl (.int x0), .inl (.int x1)]) (fX10_within [.inl (.int x1), .inl (.int (-1)), .inl (.int 5)] M)
  else if x0 = 5 then
   am_ret [] 101 [] (k 104 [.inl (.int x0), .inl (.int x1)]) (fX10_within [.inl (.int x1), .inl (.int 0), .inl (.int 2000)] M)
  else if x0 = 6 then
   am_ret [] 109 [] (k 112 [.inl (.int x0), .inl (.int x1)]) (fX10_within [.inl (.int x1), .inl (.int 0), .inl (.int 12)] M)
  else if x0 = 7 then
   am_ret [] 109 [] (k 112 [.inl (.int x0), .inl (.int x1)]) (fX10_within [.inl (.int x1), .inl (.int 0), .inl (.int 12)] M)
  else if x0 = 8 then
   am_ret [] 109 [] (k 112 [.inl (.int x0), .inl (.int x1)]) (fX10_within [.inl (.int x1), .inl (.int 0), .inl (.int 12)] M)
  else if x0 = 9 then
   am_ret [] 116 [] (k 119 [.inl (.int x0), .inl (.int x1)]) (fX10_within [.inl (.int x1), .inl (.int 0), .inl (.int 2)] M)
  else if x0 = 10 then
   some (.inl (some (.inl (.int 1))), M)
  else if x0 = 11 then
   some (.inl (some (.inl (.int 1))), M)
  else if x0 = 12 then
   am_ret [] 116 [] (k 119 [.inl (.int x0), .inl (.int x1)]) (fX10_within [.inl (.int x1), .inl (.int 0), .inl (.int 2)] M)
  else if x0 = 13 then
   am_ret [] 124 [] (k 127 [.inl (.int x0), .inl (.int x1)]) (fX10_within [.inl (.int x1), .inl (.int 2), .inl (.int 10)] M)
  else if x0 = 14 then
   some (.inl (some (.inl (.int 1))), M)
  else if x0 = 15 then
   am_ret [] 132 [] (k 135 [.inl (.int x0), .inl (.int x1)]) (fX10_within [.inl (.int x1), .inl (.int 1), .inl (.int 1000000)] M)
  else some (.inl (some (.inl (.int 1))), M) := (rfl)
theorem eX10_fits_0 {n : Nat} {x0 : Int32} {x1 : Int32} {M : am_M} {res : am_O × am_M} (h : (if x0 = 0 then
   am_ret [] 85 [] (rX10_fits n 88 [.inl (.int x0), .inl (.int x1)]) (fX10_within [.inl (.int x1), .inl (.int 0), .inl (.int 500)] M)
  else if x0 = 1 then
   am_ret [] 92 [] (rX10_fits n 95 [.inl (.int x0), .inl (.int x1)]) (fX10_within [.inl (.int x1), .inl (.int (-1)), .inl (.int 5)] M)
  else if x0 = 2 then
   am_ret [] 101 [] (rX10_fits n 104 [.inl (.int x0), .inl (.int x1)]) (fX10_within [.inl (.int x1), .inl (.int 0), .inl (.int 2000)] M)
  else if x0 = 3 then
   am_ret [] 109 [] (rX10_fits n 112 [.inl (.int x0), .inl (.int x1)]) (fX10_within [.inl (.int x1), .inl (.int 0), .inl (.int 12)] M)
  else if x0 = 4 then
   am_ret [] 92 [] (rX10_fits n 95 [.inl (.int x0), .inl (.int x1)]) (fX10_within [.inl (.int x1), .inl (.int (-1)), .inl (.int 5)] M)
  else if x0 = 5 then
   am_ret [] 101 [] (rX10_fits n 104 [.inl (.int x0), .inl (.int x1)]) (fX10_within [.inl (.int x1), .inl (.int 0), .inl (.int 2000)] M)
  else if x0 = 6 then
   am_ret [] 109 [] (rX10_fits n 112 [.inl (.int x0), .inl (.int x1)]) (fX10_within [.inl (.int x1), .inl (.int 0), .inl (.int 12)] M)
  else if x0 = 7 then
   am_ret [] 109 [] (rX10_fits n 112 [.inl (.int x0), .inl (.int x1)]) (fX10_within [.inl (.int x1), .inl (.int 0), .inl (.int 12)] M)
  else if x0 = 8 then
   am_ret [] 109 [] (rX10_fits n 112 [.inl (.int x0), .inl (.int x1)]) (fX10_within [.inl (.int x1), .inl (.int 0), .inl (.int 12)] M)
  else if x0 = 9 then
   am_ret [] 116 [] (rX10_fits n 119 [.inl (.int x0), .inl (.int x1)]) (fX10_within [.inl (.int x1), .inl (.int 0), .inl (.int 2)] M)
  else if x0 = 10 then
   some (.inl (some (.inl (.int 1))), M)
  else if x0 = 11 then
   some (.inl (some (.inl (.int 1))), M)
  else if x0 = 12 then
   am_ret [] 116 [] (rX10_fits n 119 [.inl (.int x0), .inl (.int x1)]) (fX10_within [.inl (.int x1), .inl (.int 0), .inl (.int 2)] M)
  else if x0 = 13 then
   am_ret [] 124 [] (rX10_fits n 127 [.inl (.int x0), .inl (.int x1)]) (fX10_within [.inl (.int x1), .inl (.int 2), .inl (.int 10)] M)
  else if x0 = 14 then
   some (.inl (some (.inl (.int 1))), M)
  else if x0 = 15 then
   am_ret [] 132 [] (rX10_fits n 135 [.inl (.int x0), .inl (.int x1)]) (fX10_within [.inl (.int x1), .inl (.int 1), .inl (.int 1000000)] M)
  else some (.inl (some (.inl (.int 1))), M)) = some res) : rX10_fits (n + 100) 0 [.inl (.int x0), .inl (.int x1)] [] M = some res := uX10_fits ((gX10_fits_0 (rX10_fits n) x0 x1 M).trans h)
set_option maxRecDepth 20000 in
theorem gX10_fits_88 (k : Nat → List am_V → List am_V → am_M → am_R) (x0 : Int32) (x1 : Int32) (y0 : Int32) (M : am_M) : gX10_fits k 88 [.inl (.int x0), .inl (.int x1)] [.inl (.int y0)] M =
  Option.map (fun o => (o, M)) (am_fin 2 .ireturn [.inl (.int x0), .inl (.int x1)] [.inl (.int y0)]) := (rfl)
theorem eX10_fits_88 {n : Nat} {x0 : Int32} {x1 : Int32} {y0 : Int32} {M : am_M} {res : am_O × am_M} (h : (Option.map (fun o => (o, M)) (am_fin 2 .ireturn [.inl (.int x0), .inl (.int x1)] [.inl (.int y0)])) = some res) : rX10_fits (n + 100) 88 [.inl (.int x0), .inl (.int x1)] [.inl (.int y0)] M = some res := uX10_fits ((gX10_fits_88 (rX10_fits n) x0 x1 y0 M).trans h)
set_option maxRecDepth 20000 in
theorem gX10_fits_95 (k : Nat → List am_V → List am_V → am_M → am_R) (x0 : Int32) (x1 : Int32) (y0 : Int32) (M : am_M) : gX10_fits k 95 [.inl (.int x0), .inl (.int x1)] [.inl (.int y0)] M =
  Option.map (fun o => (o, M)) (am_fin 2 .ireturn [.inl (.int x0), .inl (.int x1)] [.inl (.int y0)]) := (rfl)
theorem eX10_fits_95 {n : Nat} {x0 : Int32} {x1 : Int32} {y0 : Int32} {M : am_M} {res : am_O × am_M} (h : (Option.map (fun o => (o, M)) (am_fin 2 .ireturn [.inl (.int x0), .inl (.int x1)] [.inl (.int y0)])) = some res) : rX10_fits (n + 100) 95 [.inl (.int x0), .inl (.int x1)] [.inl (.int y0)] M = some res := uX10_fits ((gX10_fits_95 (rX10_fits n) x0 x1 y0 M).trans h)
set_option maxRecDepth 20000 in
theorem gX10_fits_104 (k : Nat → List am_V → List am_V → am_M → am_R) (x0 : Int32) (x1 : Int32) (y0 : Int32) (M : am_M) : gX10_fits k 104 [.inl (.int x0), .inl (.int x1)] [.inl (.int y0)] M =
  Option.map (fun o => (o, M)) (am_fin 2 .ireturn [.inl (.int x0), .inl (.int x1)] [.inl (.int y0)]) := (rfl)
theorem eX10_fits_104 {n : Nat} {x0 : Int32} {x1 : Int32} {y0 : Int32} {M : am_M} {res : am_O × am_M} (h : (Option.map (fun o => (o, M)) (am_fin 2 .ireturn [.inl (.int x0), .inl (.int x1)] [.inl (.int y0)])) = some res) : rX10_fits (n + 100) 104 [.inl (.int x0), .inl (.int x1)] [.inl (.int y0)] M = some res := uX10_fits ((gX10_fits_104 (rX10_fits n) x0 x1 y0 M).trans h)
set_option maxRecDepth 20000 in
theorem gX10_fits_112 (k : Nat → List am_V → List am_V → am_M → am_R) (x0 : Int32) (x1 : Int32) (y0 : Int32) (M : am_M) : gX10_fits k 112 [.inl (.int x0), .inl (.int x1)] [.inl (.int y0)] M =
  Option.map (fun o => (o, M)) (am_fin 2 .ireturn [.inl (.int x0), .inl (.int x1)] [.inl (.int y0)]) := (rfl)
theorem eX10_fits_112 {n : Nat} {x0 : Int32} {x1 : Int32} {y0 : Int32} {M : am_M} {res : am_O × am_M} (h : (Option.map (fun o => (o, M)) (am_fin 2 .ireturn [.inl (.int x0), .inl (.int x1)] [.inl (.int y0)])) = some res) : rX10_fits (n + 100) 112 [.inl (.int x0), .inl (.int x1)] [.inl (.int y0)] M = some res := uX10_fits ((gX10_fits_112 (rX10_fits n) x0 x1 y0 M).trans h)
set_option maxRecDepth 20000 in
theorem gX10_fits_119 (k : Nat → List am_V → List am_V → am_M → am_R) (x0 : Int32) (x1 : Int32) (y0 : Int32) (M : am_M) : gX10_fits k 119 [.inl (.int x0), .inl (.int x1)] [.inl (.int y0)] M =
  Option.map (fun o => (o, M)) (am_fin 2 .ireturn [.inl (.int x0), .inl (.int x1)] [.inl (.int y0)]) := (rfl)
theorem eX10_fits_119 {n : Nat} {x0 : Int32} {x1 : Int32} {y0 : Int32} {M : am_M} {res : am_O × am_M} (h : (Option.map (fun o => (o, M)) (am_fin 2 .ireturn [.inl (.int x0), .inl (.int x1)] [.inl (.int y0)])) = some res) : rX10_fits (n + 100) 119 [.inl (.int x0), .inl (.int x1)] [.inl (.int y0)] M = some res := uX10_fits ((gX10_fits_119 (rX10_fits n) x0 x1 y0 M).trans h)
set_option maxRecDepth 20000 in
theorem gX10_fits_127 (k : Nat → List am_V → List am_V → am_M → am_R) (x0 : Int32) (x1 : Int32) (y0 : Int32) (M : am_M) : gX10_fits k 127 [.inl (.int x0), .inl (.int x1)] [.inl (.int y0)] M =
  Option.map (fun o => (o, M)) (am_fin 2 .ireturn [.inl (.int x0), .inl (.int x1)] [.inl (.int y0)]) := (rfl)
theorem eX10_fits_127 {n : Nat} {x0 : Int32} {x1 : Int32} {y0 : Int32} {M : am_M} {res : am_O × am_M} (h : (Option.map (fun o => (o, M)) (am_fin 2 .ireturn [.inl (.int x0), .inl (.int x1)] [.inl (.int y0)])) = some res) : rX10_fits (n + 100) 127 [.inl (.int x0), .inl (.int x1)] [.inl (.int y0)] M = some res := uX10_fits ((gX10_fits_127 (rX10_fits n) x0 x1 y0 M).trans h)
set_option maxRecDepth 20000 in
theorem gX10_fits_135 (k : Nat → List am_V → List am_V → am_M → am_R) (x0 : Int32) (x1 : Int32) (y0 : Int32) (M : am_M) : gX10_fits k 135 [.inl (.int x0), .inl (.int x1)] [.inl (.int y0)] M =
  Option.map (fun o => (o, M)) (am_fin 2 .ireturn [.inl (.int x0), .inl (.int x1)] [.inl (.int y0)]) := (rfl)
theorem eX10_fits_135 {n : Nat} {x0 : Int32} {x1 : Int32} {y0 : Int32} {M : am_M} {res : am_O × am_M} (h : (Option.map (fun o => (o, M)) (am_fin 2 .ireturn [.inl (.int x0), .inl (.int x1)] [.inl (.int y0)])) = some res) : rX10_fits (n + 100) 135 [.inl (.int x0), .inl (.int x1)] [.inl (.int y0)] M = some res := uX10_fits ((gX10_fits_135 (rX10_fits n) x0 x1 y0 M).trans h)
def rX10_define (n pc : Nat) (ls st : List am_V) (M : am_M) : am_R := am_run [fX10_isTest, fX10_within, fX10_fits, fX10_pending] [] 0 am_X0 pX10_define n pc ls st M
def gX10_define (k : Nat → List am_V → List am_V → am_M → am_R) (pc : Nat) (ls st : List am_V) (M : am_M) : am_R := am_go [fX10_isTest, fX10_within, fX10_fits, fX10_pending] [] 0 am_X0 pX10_define [5, 15, 23, 35] k 100 pc ls st M
theorem uX10_define {n pc : Nat} {ls st : List am_V} {M : am_M} {res : am_O × am_M} (h : gX10_define (rX10_define n) pc ls st M = some res) : rX10_define (n + 100) pc ls st M = some res := am_go_ok h
theorem eX10_define (x1 : Int32) (x2 : Int32) (x3 : Int32) (M : am_M) : fX10_define [.inr (10, 0), .inl (.int x1), .inl (.int x2), .inl (.int x3)] M = rX10_define 100000 0 [.inr (10, 0), .inl (.int x1), .inl (.int x2), .inl (.int x3)] [] M := am_meth_eq rfl rfl
set_option maxRecDepth 20000 in
theorem gX10_define_0 (k : Nat → List am_V → List am_V → am_M → am_R) (x1 : Int32) (x2 : Int32) (x3 : Int32) (M : am_M) : gX10_define k 0 [.inr (10, 0), .inl (.int x1), .inl (.int x2), .inl (.int x3)] [] M =
  am_ret [] 2 [.inr (10, 0)] (k 5 [.inr (10, 0), .inl (.int x1), .inl (.int x2), .inl (.int x3)]) (fX10_isTest [.inl (.int x1)] M) := (rfl)
theorem eX10_define_0 {n : Nat} {x1 : Int32} {x2 : Int32} {x3 : Int32} {M : am_M} {res : am_O × am_M} (h : (am_ret [] 2 [.inr (10, 0)] (rX10_define n 5 [.inr (10, 0), .inl (.int x1), .inl (.int x2), .inl (.int x3)]) (fX10_isTest [.inl (.int x1)] M)) = some res) : rX10_define (n + 100) 0 [.inr (10, 0), .inl (.int x1), .inl (.int x2), .inl (.int x3)] [] M = some res := uX10_define ((gX10_define_0 (rX10_define n) x1 x2 x3 M).trans h)
set_option maxRecDepth 20000 in
theorem gX10_define_5 (k : Nat → List am_V → List am_V → am_M → am_R) (x1 : Int32) (x2 : Int32) (x3 : Int32) (y0 : Int32) (M : am_M) : gX10_define k 5 [.inr (10, 0), .inl (.int x1), .inl (.int x2), .inl (.int x3)] [.inl (.int y0), .inr (10, 0)] M =
  if y0 = 0 then
   some (.inl none, (am_put M 10 0 45 1))
  else am_ret [] 12 [.inr (10, 0)] (k 15 [.inr (10, 0), .inl (.int x1), .inl (.int x2), .inl (.int x3)]) (fX10_within [.inl (.int x2), .inl (.int 0), .inl (.int 15)] M) := (rfl)
theorem eX10_define_5 {n : Nat} {x1 : Int32} {x2 : Int32} {x3 : Int32} {y0 : Int32} {M : am_M} {res : am_O × am_M} (h : (if y0 = 0 then
   some (.inl none, (am_put M 10 0 45 1))
  else am_ret [] 12 [.inr (10, 0)] (rX10_define n 15 [.inr (10, 0), .inl (.int x1), .inl (.int x2), .inl (.int x3)]) (fX10_within [.inl (.int x2), .inl (.int 0), .inl (.int 15)] M)) = some res) : rX10_define (n + 100) 5 [.inr (10, 0), .inl (.int x1), .inl (.int x2), .inl (.int x3)] [.inl (.int y0), .inr (10, 0)] M = some res := uX10_define ((gX10_define_5 (rX10_define n) x1 x2 x3 y0 M).trans h)
set_option maxRecDepth 20000 in
theorem gX10_define_15 (k : Nat → List am_V → List am_V → am_M → am_R) (x1 : Int32) (x2 : Int32) (x3 : Int32) (y0 : Int32) (M : am_M) : gX10_define k 15 [.inr (10, 0), .inl (.int x1), .inl (.int x2), .inl (.int x3)] [.inl (.int y0), .inr (10, 0)] M =
  if y0 = 0 then
   some (.inl none, (am_put M 10 0 45 1))
  else am_ret [] 20 [.inr (10, 0)] (k 23 [.inr (10, 0), .inl (.int x1), .inl (.int x2), .inl (.int x3)]) (fX10_fits [.inl (.int x2), .inl (.int x3)] M) := (rfl)
theorem eX10_define_15 {n : Nat} {x1 : Int32} {x2 : Int32} {x3 : Int32} {y0 : Int32} {M : am_M} {res : am_O × am_M} (h : (if y0 = 0 then
   some (.inl none, (am_put M 10 0 45 1))
  else am_ret [] 20 [.inr (10, 0)] (rX10_define n 23 [.inr (10, 0), .inl (.int x1), .inl (.int x2), .inl (.int x3)]) (fX10_fits [.inl (.int x2), .inl (.int x3)] M)) = some res) : rX10_define (n + 100) 15 [.inr (10, 0), .inl (.int x1), .inl (.int x2), .inl (.int x3)] [.inl (.int y0), .inr (10, 0)] M = some res := uX10_define ((gX10_define_15 (rX10_define n) x1 x2 x3 y0 M).trans h)
set_option maxRecDepth 20000 in
theorem gX10_define_23 (k : Nat → List am_V → List am_V → am_M → am_R) (x1 : Int32) (x2 : Int32) (x3 : Int32) (y0 : Int32) (M : am_M) : gX10_define k 23 [.inr (10, 0), .inl (.int x1), .inl (.int x2), .inl (.int x3)] [.inl (.int y0), .inr (10, 0)] M =
  if y0 = 0 then
   some (.inl none, (am_put M 10 0 45 1))
  else am_ret [] 32 [.inr (10, 0)] (k 35 [.inr (10, 0), .inl (.int x1), .inl (.int x2), .inl (.int x3)]) (fX10_pending [.inr (10, 0), .inl (.int x1)] M) := (rfl)
theorem eX10_define_23 {n : Nat} {x1 : Int32} {x2 : Int32} {x3 : Int32} {y0 : Int32} {M : am_M} {res : am_O × am_M} (h : (if y0 = 0 then
   some (.inl none, (am_put M 10 0 45 1))
  else am_ret [] 32 [.inr (10, 0)] (rX10_define n 35 [.inr (10, 0), .inl (.int x1), .inl (.int x2), .inl (.int x3)]) (fX10_pending [.inr (10, 0), .inl (.int x1)] M)) = some res) : rX10_define (n + 100) 23 [.inr (10, 0), .inl (.int x1), .inl (.int x2), .inl (.int x3)] [.inl (.int y0), .inr (10, 0)] M = some res := uX10_define ((gX10_define_23 (rX10_define n) x1 x2 x3 y0 M).trans h)
set_option maxRecDepth 20000 in
theorem gX10_define_35 (k : Nat → List am_V → List am_V → am_M → am_R) (x1 : Int32) (x2 : Int32) (x3 : Int32) (y0 : Int32) (M : am_M) : gX10_define k 35 [.inr (10, 0), .inl (.int x1), .inl (.int x2), .inl (.int x3)] [.inl (.int y0), .inr (10, 0)] M =
  if y0 = 0 then
   if am_in ((16 * x1) + x2) 64 then
    if am_in x1 4 ∧ am_b 0 = 0 then
     some (.inl none, (am_put (am_put (am_put M 10 0 45 0) 30 0 (Int32.toNatClampNeg ((16 * x1) + x2)) x3) 31 0 (Int32.toNatClampNeg x1) 0))
    else none
   else none
  else some (.inl none, (am_put M 10 0 45 2)) := (rfl)
theorem eX10_define_35 {n : Nat} {x1 : Int32} {x2 : Int32} {x3 : Int32} {y0 : Int32} {M : am_M} {res : am_O × am_M} (h : (if y0 = 0 then
   if am_in ((16 * x1) + x2) 64 then
    if am_in x1 4 ∧ am_b 0 = 0 then
     some (.inl none, (am_put (am_put (am_put M 10 0 45 0) 30 0 (Int32.toNatClampNeg ((16 * x1) + x2)) x3) 31 0 (Int32.toNatClampNeg x1) 0))
    else none
   else none
  else some (.inl none, (am_put M 10 0 45 2))) = some res) : rX10_define (n + 100) 35 [.inr (10, 0), .inl (.int x1), .inl (.int x2), .inl (.int x3)] [.inl (.int y0), .inr (10, 0)] M = some res := uX10_define ((gX10_define_35 (rX10_define n) x1 x2 x3 y0 M).trans h)
def rX10_curve (n pc : Nat) (ls st : List am_V) (M : am_M) : am_R := am_run [fX10_isTest, fX10_within, fX10_pending] [] 1 am_X0 pX10_curve n pc ls st M
def gX10_curve (k : Nat → List am_V → List am_V → am_M → am_R) (pc : Nat) (ls st : List am_V) (M : am_M) : am_R := am_go [fX10_isTest, fX10_within, fX10_pending] [] 1 am_X0 pX10_curve [4, 15, 26, 51, 99, 148] k 100 pc ls st M
theorem uX10_curve {n pc : Nat} {ls st : List am_V} {M : am_M} {res : am_O × am_M} (h : gX10_curve (rX10_curve n) pc ls st M = some res) : rX10_curve (n + 100) pc ls st M = some res := am_go_ok h
theorem eX10_curve (x1 : Int32) (x2 : Int32) (x3 : Int32) (M : am_M) : fX10_curve [.inr (10, 0), .inl (.int x1), .inl (.int x2), .inl (.int x3)] M = rX10_curve 100000 0 [.inr (10, 0), .inl (.int x1), .inl (.int x2), .inl (.int x3), am_D] [] M := am_meth_eq rfl rfl
set_option maxRecDepth 20000 in
theorem gX10_curve_0 (k : Nat → List am_V → List am_V → am_M → am_R) (x1 : Int32) (x2 : Int32) (x3 : Int32) (M : am_M) : gX10_curve k 0 [.inr (10, 0), .inl (.int x1), .inl (.int x2), .inl (.int x3), am_D] [] M =
  am_ret [] 1 [] (k 4 [.inr (10, 0), .inl (.int x1), .inl (.int x2), .inl (.int x3), am_D]) (fX10_isTest [.inl (.int x1)] M) := (rfl)
theorem eX10_curve_0 {n : Nat} {x1 : Int32} {x2 : Int32} {x3 : Int32} {M : am_M} {res : am_O × am_M} (h : (am_ret [] 1 [] (rX10_curve n 4 [.inr (10, 0), .inl (.int x1), .inl (.int x2), .inl (.int x3), am_D]) (fX10_isTest [.inl (.int x1)] M)) = some res) : rX10_curve (n + 100) 0 [.inr (10, 0), .inl (.int x1), .inl (.int x2), .inl (.int x3), am_D] [] M = some res := uX10_curve ((gX10_curve_0 (rX10_curve n) x1 x2 x3 M).trans h)
set_option maxRecDepth 20000 in
theorem gX10_curve_4 (k : Nat → List am_V → List am_V → am_M → am_R) (x1 : Int32) (x2 : Int32) (x3 : Int32) (y0 : Int32) (M : am_M) : gX10_curve k 4 [.inr (10, 0), .inl (.int x1), .inl (.int x2), .inl (.int x3), am_D] [.inl (.int y0)] M =
  if y0 = 0 then
   k 99 [.inr (10, 0), .inl (.int x1), .inl (.int x2), .inl (.int x3), .inl (.int 0)] [.inl (.int 1), .inr (10, 0)] M
  else am_ret [] 12 [] (k 15 [.inr (10, 0), .inl (.int x1), .inl (.int x2), .inl (.int x3), am_D]) (fX10_within [.inl (.int x2), .inl (.int (-1000000)), .inl (.int 1000000)] M) := (rfl)
theorem eX10_curve_4 {n : Nat} {x1 : Int32} {x2 : Int32} {x3 : Int32} {y0 : Int32} {M : am_M} {res : am_O × am_M} (h : (if y0 = 0 then
   rX10_curve n 99 [.inr (10, 0), .inl (.int x1), .inl (.int x2), .inl (.int x3), .inl (.int 0)] [.inl (.int 1), .inr (10, 0)] M
  else am_ret [] 12 [] (rX10_curve n 15 [.inr (10, 0), .inl (.int x1), .inl (.int x2), .inl (.int x3), am_D]) (fX10_within [.inl (.int x2), .inl (.int (-1000000)), .inl (.int 1000000)] M)) = some res) : rX10_curve (n + 100) 4 [.inr (10, 0), .inl (.int x1), .inl (.int x2), .inl (.int x3), am_D] [.inl (.int y0)] M = some res := uX10_curve ((gX10_curve_4 (rX10_curve n) x1 x2 x3 y0 M).trans h)
set_option maxRecDepth 20000 in
theorem gX10_curve_99 (k : Nat → List am_V → List am_V → am_M → am_R) (x1 : Int32) (x2 : Int32) (x3 : Int32) (x4 : Int32) (y0 : Int32) (M : am_M) : gX10_curve k 99 [.inr (10, 0), .inl (.int x1), .inl (.int x2), .inl (.int x3), .inl (.int x4)] [.inl (.int y0), .inr (10, 0)] M =
  if y0 = 0 then
   if am_in x1 4 then
    if (M 34 0 (Int32.toNatClampNeg x1)) ≤ 0 then
     k 148 [.inr (10, 0), .inl (.int x1), .inl (.int x2), .inl (.int x3), .inl (.int x4)] [] (am_put M 10 0 45 y0)
    else if am_in x1 4 then
     if am_in (((5 * x1) + (M 34 0 (Int32.toNatClampNeg x1))) - 1) 20 then
      if (M 32 0 (Int32.toNatClampNeg (((5 * x1) + (M 34 0 (Int32.toNatClampNeg x1))) - 1))) ≤ x2 then
       k 148 [.inr (10, 0), .inl (.int x1), .inl (.int x2), .inl (.int x3), .inl (.int x4)] [] (am_put M 10 0 45 y0)
      else if am_in x1 4 then
       k 148 [.inr (10, 0), .inl (.int x1), .inl (.int x2), .inl (.int x3), .inl (.int x4)] [] (am_put (am_put M 10 0 45 y0) 34 0 (Int32.toNatClampNeg x1) 0)
      else none
     else none
    else none
   else none
  else some (.inl (some (.inl (.int 0))), (am_put M 10 0 45 y0)) := (rfl)
theorem eX10_curve_99 {n : Nat} {x1 : Int32} {x2 : Int32} {x3 : Int32} {x4 : Int32} {y0 : Int32} {M : am_M} {res : am_O × am_M} (h : (if y0 = 0 then
   if am_in x1 4 then
    if (M 34 0 (Int32.toNatClampNeg x1)) ≤ 0 then
     rX10_curve n 148 [.inr (10, 0), .inl (.int x1), .inl (.int x2), .inl (.int x3), .inl (.int x4)] [] (am_put M 10 0 45 y0)
    else if am_in x1 4 then
     if am_in (((5 * x1) + (M 34 0 (Int32.toNatClampNeg x1))) - 1) 20 then
      if (M 32 0 (Int32.toNatClampNeg (((5 * x1) + (M 34 0 (Int32.toNatClampNeg x1))) - 1))) ≤ x2 then
       rX10_curve n 148 [.inr (10, 0), .inl (.int x1), .inl (.int x2), .inl (.int x3), .inl (.int x4)] [] (am_put M 10 0 45 y0)
      else if am_in x1 4 then
       rX10_curve n 148 [.inr (10, 0), .inl (.int x1), .inl (.int x2), .inl (.int x3), .inl (.int x4)] [] (am_put (am_put M 10 0 45 y0) 34 0 (Int32.toNatClampNeg x1) 0)
      else none
     else none
    else none
   else none
  else some (.inl (some (.inl (.int 0))), (am_put M 10 0 45 y0))) = some res) : rX10_curve (n + 100) 99 [.inr (10, 0), .inl (.int x1), .inl (.int x2), .inl (.int x3), .inl (.int x4)] [.inl (.int y0), .inr (10, 0)] M = some res := uX10_curve ((gX10_curve_99 (rX10_curve n) x1 x2 x3 x4 y0 M).trans h)
set_option maxRecDepth 20000 in
theorem gX10_curve_15 (k : Nat → List am_V → List am_V → am_M → am_R) (x1 : Int32) (x2 : Int32) (x3 : Int32) (y0 : Int32) (M : am_M) : gX10_curve k 15 [.inr (10, 0), .inl (.int x1), .inl (.int x2), .inl (.int x3), am_D] [.inl (.int y0)] M =
  if y0 = 0 then
   k 99 [.inr (10, 0), .inl (.int x1), .inl (.int x2), .inl (.int x3), .inl (.int 0)] [.inl (.int 1), .inr (10, 0)] M
  else am_ret [] 23 [] (k 26 [.inr (10, 0), .inl (.int x1), .inl (.int x2), .inl (.int x3), am_D]) (fX10_within [.inl (.int x3), .inl (.int (-1000000)), .inl (.int 1000000)] M) := (rfl)
theorem eX10_curve_15 {n : Nat} {x1 : Int32} {x2 : Int32} {x3 : Int32} {y0 : Int32} {M : am_M} {res : am_O × am_M} (h : (if y0 = 0 then
   rX10_curve n 99 [.inr (10, 0), .inl (.int x1), .inl (.int x2), .inl (.int x3), .inl (.int 0)] [.inl (.int 1), .inr (10, 0)] M
  else am_ret [] 23 [] (rX10_curve n 26 [.inr (10, 0), .inl (.int x1), .inl (.int x2), .inl (.int x3), am_D]) (fX10_within [.inl (.int x3), .inl (.int (-1000000)), .inl (.int 1000000)] M)) = some res) : rX10_curve (n + 100) 15 [.inr (10, 0), .inl (.int x1), .inl (.int x2), .inl (.int x3), am_D] [.inl (.int y0)] M = some res := uX10_curve ((gX10_curve_15 (rX10_curve n) x1 x2 x3 y0 M).trans h)
set_option maxRecDepth 20000 in
theorem gX10_curve_148 (k : Nat → List am_V → List am_V → am_M → am_R) (x1 : Int32) (x2 : Int32) (x3 : Int32) (x4 : Int32) (M : am_M) : gX10_curve k 148 [.inr (10, 0), .inl (.int x1), .inl (.int x2), .inl (.int x3), .inl (.int x4)] [] M =
  if am_in x1 4 then
   if am_in ((5 * x1) + (M 34 0 (Int32.toNatClampNeg x1))) 20 then
    if am_in x1 4 then
     if am_in ((5 * x1) + (M 34 0 (Int32.toNatClampNeg x1))) 20 then
      if am_in x1 4 then
       if am_in x1 4 then
        if am_in x1 4 ∧ am_b 0 = 0 then
         if am_in x1 4 then
          some (.inl (some (.inl (.int ((am_put (am_put (am_put M 32 0 (Int32.toNatClampNeg ((5 * x1) + (M 34 0 (Int32.toNatClampNeg x1)))) x2) 33 0 (Int32.toNatClampNeg ((5 * x1) + (M 34 0 (Int32.toNatClampNeg x1)))) x3) 34 0 (Int32.toNatClampNeg x1) ((M 34 0 (Int32.toNatClampNeg x1)) + 1)) 34 0 (Int32.toNatClampNeg x1))))), (am_put (am_put (am_put (am_put M 32 0 (Int32.toNatClampNeg ((5 * x1) + (M 34 0 (Int32.toNatClampNeg x1)))) x2) 33 0 (Int32.toNatClampNeg ((5 * x1) + (M 34 0 (Int32.toNatClampNeg x1)))) x3) 34 0 (Int32.toNatClampNeg x1) ((M 34 0 (Int32.toNatClampNeg x1)) + 1)) 31 0 (Int32.toNatClampNeg x1) 0))
         else none
        else none
       else none
      else none
     else none
    else none
   else none
  else none := (rfl)
theorem eX10_curve_148 {n : Nat} {x1 : Int32} {x2 : Int32} {x3 : Int32} {x4 : Int32} {M : am_M} {res : am_O × am_M} (h : (if am_in x1 4 then
   if am_in ((5 * x1) + (M 34 0 (Int32.toNatClampNeg x1))) 20 then
    if am_in x1 4 then
     if am_in ((5 * x1) + (M 34 0 (Int32.toNatClampNeg x1))) 20 then
      if am_in x1 4 then
       if am_in x1 4 then
        if am_in x1 4 ∧ am_b 0 = 0 then
         if am_in x1 4 then
          some (.inl (some (.inl (.int ((am_put (am_put (am_put M 32 0 (Int32.toNatClampNeg ((5 * x1) + (M 34 0 (Int32.toNatClampNeg x1)))) x2) 33 0 (Int32.toNatClampNeg ((5 * x1) + (M 34 0 (Int32.toNatClampNeg x1)))) x3) 34 0 (Int32.toNatClampNeg x1) ((M 34 0 (Int32.toNatClampNeg x1)) + 1)) 34 0 (Int32.toNatClampNeg x1))))), (am_put (am_put (am_put (am_put M 32 0 (Int32.toNatClampNeg ((5 * x1) + (M 34 0 (Int32.toNatClampNeg x1)))) x2) 33 0 (Int32.toNatClampNeg ((5 * x1) + (M 34 0 (Int32.toNatClampNeg x1)))) x3) 34 0 (Int32.toNatClampNeg x1) ((M 34 0 (Int32.toNatClampNeg x1)) + 1)) 31 0 (Int32.toNatClampNeg x1) 0))
         else none
        else none
       else none
      else none
     else none
    else none
   else none
  else none) = some res) : rX10_curve (n + 100) 148 [.inr (10, 0), .inl (.int x1), .inl (.int x2), .inl (.int x3), .inl (.int x4)] [] M = some res := uX10_curve ((gX10_curve_148 (rX10_curve n) x1 x2 x3 x4 M).trans h)
set_option maxRecDepth 20000 in
theorem gX10_curve_26 (k : Nat → List am_V → List am_V → am_M → am_R) (x1 : Int32) (x2 : Int32) (x3 : Int32) (y0 : Int32) (M : am_M) : gX10_curve k 26 [.inr (10, 0), .inl (.int x1), .inl (.int x2), .inl (.int x3), am_D] [.inl (.int y0)] M =
  if y0 = 0 then
   k 99 [.inr (10, 0), .inl (.int x1), .inl (.int x2), .inl (.int x3), .inl (.int 0)] [.inl (.int 1), .inr (10, 0)] M
  else am_ret [] 48 [.inr (10, 0)] (k 51 [.inr (10, 0), .inl (.int x1), .inl (.int x2), .inl (.int x3), .inl (.int 1)]) (fX10_pending [.inr (10, 0), .inl (.int x1)] M) := (rfl)
theorem eX10_curve_26 {n : Nat} {x1 : Int32} {x2 : Int32} {x3 : Int32} {y0 : Int32} {M : am_M} {res : am_O × am_M} (h : (if y0 = 0 then
   rX10_curve n 99 [.inr (10, 0), .inl (.int x1), .inl (.int x2), .inl (.int x3), .inl (.int 0)] [.inl (.int 1), .inr (10, 0)] M
  else am_ret [] 48 [.inr (10, 0)] (rX10_curve n 51 [.inr (10, 0), .inl (.int x1), .inl (.int x2), .inl (.int x3), .inl (.int 1)]) (fX10_pending [.inr (10, 0), .inl (.int x1)] M)) = some res) : rX10_curve (n + 100) 26 [.inr (10, 0), .inl (.int x1), .inl (.int x2), .inl (.int x3), am_D] [.inl (.int y0)] M = some res := uX10_curve ((gX10_curve_26 (rX10_curve n) x1 x2 x3 y0 M).trans h)
set_option maxRecDepth 20000 in
theorem gX10_curve_51 (k : Nat → List am_V → List am_V → am_M → am_R) (x1 : Int32) (x2 : Int32) (x3 : Int32) (x4 : Int32) (y0 : Int32) (M : am_M) : gX10_curve k 51 [.inr (10, 0), .inl (.int x1), .inl (.int x2), .inl (.int x3), .inl (.int x4)] [.inl (.int y0), .inr (10, 0)] M =
  if y0 = 0 then
   if am_in x1 4 then
    if (M 34 0 (Int32.toNatClampNeg x1)) = 5 then
     k 99 [.inr (10, 0), .inl (.int x1), .inl (.int x2), .inl (.int x3), .inl (.int x4)] [.inl (.int 2), .inr (10, 0)] M
    else if am_in x1 4 then
     if (M 34 0 (Int32.toNatClampNeg x1)) ≤ 0 then
      k 99 [.inr (10, 0), .inl (.int x1), .inl (.int x2), .inl (.int x3), .inl (.int x4)] [.inl (.int 0), .inr (10, 0)] M
     else if am_in x1 4 then
      if am_in (((5 * x1) + (M 34 0 (Int32.toNatClampNeg x1))) - 1) 20 then
       if (M 32 0 (Int32.toNatClampNeg (((5 * x1) + (M 34 0 (Int32.toNatClampNeg x1))) - 1))) = x2 then
        k 99 [.inr (10, 0), .inl (.int x1), .inl (.int x2), .inl (.int x3), .inl (.int x4)] [.inl (.int 2), .inr (10, 0)] M
       else k 99 [.inr (10, 0), .inl (.int x1), .inl (.int x2), .inl (.int x3), .inl (.int x4)] [.inl (.int 0), .inr (10, 0)] M
      else none
     else none
    else none
   else none
  else k 99 [.inr (10, 0), .inl (.int x1), .inl (.int x2), .inl (.int x3), .inl (.int x4)] [.inl (.int 2), .inr (10, 0)] M := (rfl)
theorem eX10_curve_51 {n : Nat} {x1 : Int32} {x2 : Int32} {x3 : Int32} {x4 : Int32} {y0 : Int32} {M : am_M} {res : am_O × am_M} (h : (if y0 = 0 then
   if am_in x1 4 then
    if (M 34 0 (Int32.toNatClampNeg x1)) = 5 then
     rX10_curve n 99 [.inr (10, 0), .inl (.int x1), .inl (.int x2), .inl (.int x3), .inl (.int x4)] [.inl (.int 2), .inr (10, 0)] M
    else if am_in x1 4 then
     if (M 34 0 (Int32.toNatClampNeg x1)) ≤ 0 then
      rX10_curve n 99 [.inr (10, 0), .inl (.int x1), .inl (.int x2), .inl (.int x3), .inl (.int x4)] [.inl (.int 0), .inr (10, 0)] M
     else if am_in x1 4 then
      if am_in (((5 * x1) + (M 34 0 (Int32.toNatClampNeg x1))) - 1) 20 then
       if (M 32 0 (Int32.toNatClampNeg (((5 * x1) + (M 34 0 (Int32.toNatClampNeg x1))) - 1))) = x2 then
        rX10_curve n 99 [.inr (10, 0), .inl (.int x1), .inl (.int x2), .inl (.int x3), .inl (.int x4)] [.inl (.int 2), .inr (10, 0)] M
       else rX10_curve n 99 [.inr (10, 0), .inl (.int x1), .inl (.int x2), .inl (.int x3), .inl (.int x4)] [.inl (.int 0), .inr (10, 0)] M
      else none
     else none
    else none
   else none
  else rX10_curve n 99 [.inr (10, 0), .inl (.int x1), .inl (.int x2), .inl (.int x3), .inl (.int x4)] [.inl (.int 2), .inr (10, 0)] M) = some res) : rX10_curve (n + 100) 51 [.inr (10, 0), .inl (.int x1), .inl (.int x2), .inl (.int x3), .inl (.int x4)] [.inl (.int y0), .inr (10, 0)] M = some res := uX10_curve ((gX10_curve_51 (rX10_curve n) x1 x2 x3 x4 y0 M).trans h)
def rX10_reagentGood (n pc : Nat) (ls st : List am_V) (M : am_M) : am_R := am_run [fX10_of] [] 2 am_X0 pX10_reagentGood n pc ls st M
def gX10_reagentGood (k : Nat → List am_V → List am_V → am_M → am_R) (pc : Nat) (ls st : List am_V) (M : am_M) : am_R := am_go [fX10_of] [] 2 am_X0 pX10_reagentGood [10, 25, 39, 53, 60] k 100 pc ls st M
theorem uX10_reagentGood {n pc : Nat} {ls st : List am_V} {M : am_M} {res : am_O × am_M} (h : gX10_reagentGood (rX10_reagentGood n) pc ls st M = some res) : rX10_reagentGood (n + 100) pc ls st M = some res := am_go_ok h
theorem eX10_reagentGood (x1 : Int32) (x2 : Int32) (M : am_M) : fX10_reagentGood [.inr (10, 0), .inl (.int x1), .inl (.int x2)] M = rX10_reagentGood 100000 0 [.inr (10, 0), .inl (.int x1), .inl (.int x2)] [] M := am_meth_eq rfl rfl
set_option maxRecDepth 20000 in
theorem gX10_reagentGood_0 (k : Nat → List am_V → List am_V → am_M → am_R) (x1 : Int32) (x2 : Int32) (M : am_M) : gX10_reagentGood k 0 [.inr (10, 0), .inl (.int x1), .inl (.int x2)] [] M =
  am_ret [] 7 [] (k 10 [.inr (10, 0), .inl (.int x1), .inl (.int x2)]) (fX10_of [.inr (10, 0), .inl (.int x1), .inl (.int ((3 * x2) + 1))] M) := (rfl)
theorem eX10_reagentGood_0 {n : Nat} {x1 : Int32} {x2 : Int32} {M : am_M} {res : am_O × am_M} (h : (am_ret [] 7 [] (rX10_reagentGood n 10 [.inr (10, 0), .inl (.int x1), .inl (.int x2)]) (fX10_of [.inr (10, 0), .inl (.int x1), .inl (.int ((3 * x2) + 1))] M)) = some res) : rX10_reagentGood (n + 100) 0 [.inr (10, 0), .inl (.int x1), .inl (.int x2)] [] M = some res := uX10_reagentGood ((gX10_reagentGood_0 (rX10_reagentGood n) x1 x2 M).trans h)
set_option maxRecDepth 20000 in
theorem gX10_reagentGood_10 (k : Nat → List am_V → List am_V → am_M → am_R) (x1 : Int32) (x2 : Int32) (y0 : Int32) (M : am_M) : gX10_reagentGood k 10 [.inr (10, 0), .inl (.int x1), .inl (.int x2)] [.inl (.int y0)] M =
  if 0 ≤ y0 then
   am_ret [] 22 [] (k 25 [.inr (10, 0), .inl (.int x1), .inl (.int x2)]) (fX10_of [.inr (10, 0), .inl (.int x1), .inl (.int ((3 * x2) + 2))] M)
  else some (.inl (some (.inl (.int 1))), M) := (rfl)
theorem eX10_reagentGood_10 {n : Nat} {x1 : Int32} {x2 : Int32} {y0 : Int32} {M : am_M} {res : am_O × am_M} (h : (if 0 ≤ y0 then
   am_ret [] 22 [] (rX10_reagentGood n 25 [.inr (10, 0), .inl (.int x1), .inl (.int x2)]) (fX10_of [.inr (10, 0), .inl (.int x1), .inl (.int ((3 * x2) + 2))] M)
  else some (.inl (some (.inl (.int 1))), M)) = some res) : rX10_reagentGood (n + 100) 10 [.inr (10, 0), .inl (.int x1), .inl (.int x2)] [.inl (.int y0)] M = some res := uX10_reagentGood ((gX10_reagentGood_10 (rX10_reagentGood n) x1 x2 y0 M).trans h)
set_option maxRecDepth 20000 in
theorem gX10_reagentGood_25 (k : Nat → List am_V → List am_V → am_M → am_R) (x1 : Int32) (x2 : Int32) (y0 : Int32) (M : am_M) : gX10_reagentGood k 25 [.inr (10, 0), .inl (.int x1), .inl (.int x2)] [.inl (.int y0)] M =
  if y0 < 1 then
   some (.inl (some (.inl (.int 0))), M)
  else am_ret [] 36 [] (k 39 [.inr (10, 0), .inl (.int x1), .inl (.int x2)]) (fX10_of [.inr (10, 0), .inl (.int x1), .inl (.int ((3 * x2) + 3))] M) := (rfl)
theorem eX10_reagentGood_25 {n : Nat} {x1 : Int32} {x2 : Int32} {y0 : Int32} {M : am_M} {res : am_O × am_M} (h : (if y0 < 1 then
   some (.inl (some (.inl (.int 0))), M)
  else am_ret [] 36 [] (rX10_reagentGood n 39 [.inr (10, 0), .inl (.int x1), .inl (.int x2)]) (fX10_of [.inr (10, 0), .inl (.int x1), .inl (.int ((3 * x2) + 3))] M)) = some res) : rX10_reagentGood (n + 100) 25 [.inr (10, 0), .inl (.int x1), .inl (.int x2)] [.inl (.int y0)] M = some res := uX10_reagentGood ((gX10_reagentGood_25 (rX10_reagentGood n) x1 x2 y0 M).trans h)
set_option maxRecDepth 20000 in
theorem gX10_reagentGood_39 (k : Nat → List am_V → List am_V → am_M → am_R) (x1 : Int32) (x2 : Int32) (y0 : Int32) (M : am_M) : gX10_reagentGood k 39 [.inr (10, 0), .inl (.int x1), .inl (.int x2)] [.inl (.int y0)] M =
  if y0 < 1 then
   some (.inl (some (.inl (.int 0))), M)
  else am_ret [] 50 [] (k 53 [.inr (10, 0), .inl (.int x1), .inl (.int x2)]) (fX10_of [.inr (10, 0), .inl (.int x1), .inl (.int ((3 * x2) + 3))] M) := (rfl)
theorem eX10_reagentGood_39 {n : Nat} {x1 : Int32} {x2 : Int32} {y0 : Int32} {M : am_M} {res : am_O × am_M} (h : (if y0 < 1 then
   some (.inl (some (.inl (.int 0))), M)
  else am_ret [] 50 [] (rX10_reagentGood n 53 [.inr (10, 0), .inl (.int x1), .inl (.int x2)]) (fX10_of [.inr (10, 0), .inl (.int x1), .inl (.int ((3 * x2) + 3))] M)) = some res) : rX10_reagentGood (n + 100) 39 [.inr (10, 0), .inl (.int x1), .inl (.int x2)] [.inl (.int y0)] M = some res := uX10_reagentGood ((gX10_reagentGood_39 (rX10_reagentGood n) x1 x2 y0 M).trans h)
set_option maxRecDepth 20000 in
theorem gX10_reagentGood_53 (k : Nat → List am_V → List am_V → am_M → am_R) (x1 : Int32) (x2 : Int32) (y0 : Int32) (M : am_M) : gX10_reagentGood k 53 [.inr (10, 0), .inl (.int x1), .inl (.int x2)] [.inl (.int y0)] M =
  am_ret [] 57 [.inl (.int y0)] (k 60 [.inr (10, 0), .inl (.int x1), .inl (.int x2)]) (fX10_of [.inr (10, 0), .inl (.int x1), .inl (.int 7)] M) := (rfl)
theorem eX10_reagentGood_53 {n : Nat} {x1 : Int32} {x2 : Int32} {y0 : Int32} {M : am_M} {res : am_O × am_M} (h : (am_ret [] 57 [.inl (.int y0)] (rX10_reagentGood n 60 [.inr (10, 0), .inl (.int x1), .inl (.int x2)]) (fX10_of [.inr (10, 0), .inl (.int x1), .inl (.int 7)] M)) = some res) : rX10_reagentGood (n + 100) 53 [.inr (10, 0), .inl (.int x1), .inl (.int x2)] [.inl (.int y0)] M = some res := uX10_reagentGood ((gX10_reagentGood_53 (rX10_reagentGood n) x1 x2 y0 M).trans h)
set_option maxRecDepth 20000 in
theorem gX10_reagentGood_60 (k : Nat → List am_V → List am_V → am_M → am_R) (x1 : Int32) (x2 : Int32) (y0 : Int32) (y1 : Int32) (M : am_M) : gX10_reagentGood k 60 [.inr (10, 0), .inl (.int x1), .inl (.int x2)] [.inl (.int y0), .inl (.int y1)] M =
  if y0 ≤ y1 then
   some (.inl (some (.inl (.int 0))), M)
  else some (.inl (some (.inl (.int 1))), M) := (rfl)
theorem eX10_reagentGood_60 {n : Nat} {x1 : Int32} {x2 : Int32} {y0 : Int32} {y1 : Int32} {M : am_M} {res : am_O × am_M} (h : (if y0 ≤ y1 then
   some (.inl (some (.inl (.int 0))), M)
  else some (.inl (some (.inl (.int 1))), M)) = some res) : rX10_reagentGood (n + 100) 60 [.inr (10, 0), .inl (.int x1), .inl (.int x2)] [.inl (.int y0), .inl (.int y1)] M = some res := uX10_reagentGood ((gX10_reagentGood_60 (rX10_reagentGood n) x1 x2 y0 y1 M).trans h)
def rX10_curveGood (n pc : Nat) (ls st : List am_V) (M : am_M) : am_R := am_run [] [] 2 am_X0 pX10_curveGood n pc ls st M
def gX10_curveGood (k : Nat → List am_V → List am_V → am_M → am_R) (pc : Nat) (ls st : List am_V) (M : am_M) : am_R := am_go [] [] 2 am_X0 pX10_curveGood [39] k 100 pc ls st M
theorem uX10_curveGood {n pc : Nat} {ls st : List am_V} {M : am_M} {res : am_O × am_M} (h : gX10_curveGood (rX10_curveGood n) pc ls st M = some res) : rX10_curveGood (n + 100) pc ls st M = some res := am_go_ok h
theorem eX10_curveGood (x1 : Int32) (M : am_M) : fX10_curveGood [.inr (10, 0), .inl (.int x1)] M = rX10_curveGood 100000 0 [.inr (10, 0), .inl (.int x1), am_D, am_D, am_D] [] M := am_meth_eq rfl rfl
set_option maxRecDepth 20000 in
theorem gX10_curveGood_0 (k : Nat → List am_V → List am_V → am_M → am_R) (x1 : Int32) (M : am_M) : gX10_curveGood k 0 [.inr (10, 0), .inl (.int x1), am_D, am_D, am_D] [] M =
  if am_in x1 4 then
   if (M 34 0 (Int32.toNatClampNeg x1)) < 2 then
    if am_in x1 4 then
     if (M 34 0 (Int32.toNatClampNeg x1)) < 2 then
      k 39 [.inr (10, 0), .inl (.int x1), .inl (.int 0), .inl (.int 0), .inl (.int ((5 * x1) + 1))] [] M
     else k 39 [.inr (10, 0), .inl (.int x1), .inl (.int 0), .inl (.int 1), .inl (.int ((5 * x1) + 1))] [] M
    else none
   else if am_in x1 4 then
    if (M 34 0 (Int32.toNatClampNeg x1)) < 2 then
     k 39 [.inr (10, 0), .inl (.int x1), .inl (.int 1), .inl (.int 0), .inl (.int ((5 * x1) + 1))] [] M
    else k 39 [.inr (10, 0), .inl (.int x1), .inl (.int 1), .inl (.int 1), .inl (.int ((5 * x1) + 1))] [] M
   else none
  else none := (rfl)
theorem eX10_curveGood_0 {n : Nat} {x1 : Int32} {M : am_M} {res : am_O × am_M} (h : (if am_in x1 4 then
   if (M 34 0 (Int32.toNatClampNeg x1)) < 2 then
    if am_in x1 4 then
     if (M 34 0 (Int32.toNatClampNeg x1)) < 2 then
      rX10_curveGood n 39 [.inr (10, 0), .inl (.int x1), .inl (.int 0), .inl (.int 0), .inl (.int ((5 * x1) + 1))] [] M
     else rX10_curveGood n 39 [.inr (10, 0), .inl (.int x1), .inl (.int 0), .inl (.int 1), .inl (.int ((5 * x1) + 1))] [] M
    else none
   else if am_in x1 4 then
    if (M 34 0 (Int32.toNatClampNeg x1)) < 2 then
     rX10_curveGood n 39 [.inr (10, 0), .inl (.int x1), .inl (.int 1), .inl (.int 0), .inl (.int ((5 * x1) + 1))] [] M
    else rX10_curveGood n 39 [.inr (10, 0), .inl (.int x1), .inl (.int 1), .inl (.int 1), .inl (.int ((5 * x1) + 1))] [] M
   else none
  else none) = some res) : rX10_curveGood (n + 100) 0 [.inr (10, 0), .inl (.int x1), am_D, am_D, am_D] [] M = some res := uX10_curveGood ((gX10_curveGood_0 (rX10_curveGood n) x1 M).trans h)
set_option maxRecDepth 20000 in
theorem gX10_curveGood_39 (k : Nat → List am_V → List am_V → am_M → am_R) (x1 : Int32) (x2 : Int32) (x3 : Int32) (x4 : Int32) (M : am_M) : gX10_curveGood k 39 [.inr (10, 0), .inl (.int x1), .inl (.int x2), .inl (.int x3), .inl (.int x4)] [] M =
  if am_in x1 4 then
   if ((5 * x1) + (M 34 0 (Int32.toNatClampNeg x1))) ≤ x4 then
    if x2 = 0 then
     if x3 = 0 then
      some (.inl (some (.inl (.int 0))), M)
     else some (.inl (some (.inl (.int 1))), M)
    else some (.inl (some (.inl (.int 1))), M)
   else if am_in x4 20 then
    if am_in (x4 - 1) 20 then
     if (M 33 0 (Int32.toNatClampNeg (x4 - 1))) < (M 33 0 (Int32.toNatClampNeg x4)) then
      if am_in x4 20 then
       if am_in (x4 - 1) 20 then
        if (M 33 0 (Int32.toNatClampNeg x4)) < (M 33 0 (Int32.toNatClampNeg (x4 - 1))) then
         k 39 [.inr (10, 0), .inl (.int x1), .inl (.int x2), .inl (.int x3), .inl (.int (x4 + 1))] [] M
        else k 39 [.inr (10, 0), .inl (.int x1), .inl (.int x2), .inl (.int 0), .inl (.int (x4 + 1))] [] M
       else none
      else none
     else if am_in x4 20 then
      if am_in (x4 - 1) 20 then
       if (M 33 0 (Int32.toNatClampNeg x4)) < (M 33 0 (Int32.toNatClampNeg (x4 - 1))) then
        k 39 [.inr (10, 0), .inl (.int x1), .inl (.int 0), .inl (.int x3), .inl (.int (x4 + 1))] [] M
       else k 39 [.inr (10, 0), .inl (.int x1), .inl (.int 0), .inl (.int 0), .inl (.int (x4 + 1))] [] M
      else none
     else none
    else none
   else none
  else none := (rfl)
theorem eX10_curveGood_39 {n : Nat} {x1 : Int32} {x2 : Int32} {x3 : Int32} {x4 : Int32} {M : am_M} {res : am_O × am_M} (h : (if am_in x1 4 then
   if ((5 * x1) + (M 34 0 (Int32.toNatClampNeg x1))) ≤ x4 then
    if x2 = 0 then
     if x3 = 0 then
      some (.inl (some (.inl (.int 0))), M)
     else some (.inl (some (.inl (.int 1))), M)
    else some (.inl (some (.inl (.int 1))), M)
   else if am_in x4 20 then
    if am_in (x4 - 1) 20 then
     if (M 33 0 (Int32.toNatClampNeg (x4 - 1))) < (M 33 0 (Int32.toNatClampNeg x4)) then
      if am_in x4 20 then
       if am_in (x4 - 1) 20 then
        if (M 33 0 (Int32.toNatClampNeg x4)) < (M 33 0 (Int32.toNatClampNeg (x4 - 1))) then
         rX10_curveGood n 39 [.inr (10, 0), .inl (.int x1), .inl (.int x2), .inl (.int x3), .inl (.int (x4 + 1))] [] M
        else rX10_curveGood n 39 [.inr (10, 0), .inl (.int x1), .inl (.int x2), .inl (.int 0), .inl (.int (x4 + 1))] [] M
       else none
      else none
     else if am_in x4 20 then
      if am_in (x4 - 1) 20 then
       if (M 33 0 (Int32.toNatClampNeg x4)) < (M 33 0 (Int32.toNatClampNeg (x4 - 1))) then
        rX10_curveGood n 39 [.inr (10, 0), .inl (.int x1), .inl (.int 0), .inl (.int x3), .inl (.int (x4 + 1))] [] M
       else rX10_curveGood n 39 [.inr (10, 0), .inl (.int x1), .inl (.int 0), .inl (.int 0), .inl (.int (x4 + 1))] [] M
      else none
     else none
    else none
   else none
  else none) = some res) : rX10_curveGood (n + 100) 39 [.inr (10, 0), .inl (.int x1), .inl (.int x2), .inl (.int x3), .inl (.int x4)] [] M = some res := uX10_curveGood ((gX10_curveGood_39 (rX10_curveGood n) x1 x2 x3 x4 M).trans h)
