/-! ===== the runs, piece by piece ===== -/
def rX10_seal (n pc : Nat) (ls st : List am_V) (M : am_M) : am_R := am_run [fX10_isTest, fX10_of, fX10_reagentGood, fX10_curveGood] [] 2 am_X0 pX10_seal n pc ls st M
def gX10_seal (k : Nat → List am_V → List am_V → am_M → am_R) (pc : Nat) (ls st : List am_V) (M : am_M) : am_R := am_go [fX10_isTest, fX10_of, fX10_reagentGood, fX10_curveGood] [] 2 am_X0 pX10_seal [5, 31, 41, 50, 58, 73, 82, 92, 98, 110, 117, 128, 150, 165, 172, 184, 194, 201] k 100 pc ls st M
theorem uX10_seal {n pc : Nat} {ls st : List am_V} {M : am_M} {res : am_O × am_M} (h : gX10_seal (rX10_seal n) pc ls st M = some res) : rX10_seal (n + 100) pc ls st M = some res := am_go_ok h
theorem eX10_seal (x1 : Int32) (M : am_M) : fX10_seal [.inr (10, 0), .inl (.int x1)] M = rX10_seal 100000 0 [.inr (10, 0), .inl (.int x1), am_D, am_D] [] M := am_meth_eq rfl rfl
set_option maxRecDepth 20000 in
theorem gX10_seal_0 (k : Nat → List am_V → List am_V → am_M → am_R) (x1 : Int32) (M : am_M) : gX10_seal k 0 [.inr (10, 0), .inl (.int x1), am_D, am_D] [] M =
  am_ret [] 2 [.inr (10, 0)] (k 5 [.inr (10, 0), .inl (.int x1), am_D, am_D]) (fX10_isTest [.inl (.int x1)] M) := (rfl)
theorem eX10_seal_0 {n : Nat} {x1 : Int32} {M : am_M} {res : am_O × am_M} (h : (am_ret [] 2 [.inr (10, 0)] (rX10_seal n 5 [.inr (10, 0), .inl (.int x1), am_D, am_D]) (fX10_isTest [.inl (.int x1)] M)) = some res) : rX10_seal (n + 100) 0 [.inr (10, 0), .inl (.int x1), am_D, am_D] [] M = some res := uX10_seal ((gX10_seal_0 (rX10_seal n) x1 M).trans h)
set_option maxRecDepth 20000 in
theorem gX10_seal_5 (k : Nat → List am_V → List am_V → am_M → am_R) (x1 : Int32) (y0 : Int32) (M : am_M) : gX10_seal k 5 [.inr (10, 0), .inl (.int x1), am_D, am_D] [.inl (.int y0), .inr (10, 0)] M =
  if y0 = 0 then
   some (.inl (some (.inl (.int 0))), (am_put M 10 0 45 1))
  else am_ret [] 28 [] (k 31 [.inr (10, 0), .inl (.int x1), am_D, am_D]) (fX10_of [.inr (10, 0), .inl (.int x1), .inl (.int 0)] (am_put M 10 0 45 0)) := (rfl)
theorem eX10_seal_5 {n : Nat} {x1 : Int32} {y0 : Int32} {M : am_M} {res : am_O × am_M} (h : (if y0 = 0 then
   some (.inl (some (.inl (.int 0))), (am_put M 10 0 45 1))
  else am_ret [] 28 [] (rX10_seal n 31 [.inr (10, 0), .inl (.int x1), am_D, am_D]) (fX10_of [.inr (10, 0), .inl (.int x1), .inl (.int 0)] (am_put M 10 0 45 0))) = some res) : rX10_seal (n + 100) 5 [.inr (10, 0), .inl (.int x1), am_D, am_D] [.inl (.int y0), .inr (10, 0)] M = some res := uX10_seal ((gX10_seal_5 (rX10_seal n) x1 y0 M).trans h)
set_option maxRecDepth 20000 in
theorem gX10_seal_31 (k : Nat → List am_V → List am_V → am_M → am_R) (x1 : Int32) (y0 : Int32) (M : am_M) : gX10_seal k 31 [.inr (10, 0), .inl (.int x1), am_D, am_D] [.inl (.int y0)] M =
  if y0 < 1 then
   am_ret [] 70 [] (k 73 [.inr (10, 0), .inl (.int x1), .inl (.int 0), am_D]) (fX10_of [.inr (10, 0), .inl (.int x1), .inl (.int 4)] M)
  else am_ret [] 38 [] (k 41 [.inr (10, 0), .inl (.int x1), am_D, am_D]) (fX10_reagentGood [.inr (10, 0), .inl (.int x1), .inl (.int 0)] M) := (rfl)
theorem eX10_seal_31 {n : Nat} {x1 : Int32} {y0 : Int32} {M : am_M} {res : am_O × am_M} (h : (if y0 < 1 then
   am_ret [] 70 [] (rX10_seal n 73 [.inr (10, 0), .inl (.int x1), .inl (.int 0), am_D]) (fX10_of [.inr (10, 0), .inl (.int x1), .inl (.int 4)] M)
  else am_ret [] 38 [] (rX10_seal n 41 [.inr (10, 0), .inl (.int x1), am_D, am_D]) (fX10_reagentGood [.inr (10, 0), .inl (.int x1), .inl (.int 0)] M)) = some res) : rX10_seal (n + 100) 31 [.inr (10, 0), .inl (.int x1), am_D, am_D] [.inl (.int y0)] M = some res := uX10_seal ((gX10_seal_31 (rX10_seal n) x1 y0 M).trans h)
set_option maxRecDepth 20000 in
theorem gX10_seal_73 (k : Nat → List am_V → List am_V → am_M → am_R) (x1 : Int32) (x2 : Int32) (y0 : Int32) (M : am_M) : gX10_seal k 73 [.inr (10, 0), .inl (.int x1), .inl (.int x2), am_D] [.inl (.int y0)] M =
  if y0 < 0 then
   am_ret [] 107 [] (k 110 [.inr (10, 0), .inl (.int x1), .inl (.int x2), am_D]) (fX10_of [.inr (10, 0), .inl (.int x1), .inl (.int 8)] M)
  else am_ret [] 79 [] (k 82 [.inr (10, 0), .inl (.int x1), .inl (.int x2), am_D]) (fX10_of [.inr (10, 0), .inl (.int x1), .inl (.int 1)] M) := (rfl)
theorem eX10_seal_73 {n : Nat} {x1 : Int32} {x2 : Int32} {y0 : Int32} {M : am_M} {res : am_O × am_M} (h : (if y0 < 0 then
   am_ret [] 107 [] (rX10_seal n 110 [.inr (10, 0), .inl (.int x1), .inl (.int x2), am_D]) (fX10_of [.inr (10, 0), .inl (.int x1), .inl (.int 8)] M)
  else am_ret [] 79 [] (rX10_seal n 82 [.inr (10, 0), .inl (.int x1), .inl (.int x2), am_D]) (fX10_of [.inr (10, 0), .inl (.int x1), .inl (.int 1)] M)) = some res) : rX10_seal (n + 100) 73 [.inr (10, 0), .inl (.int x1), .inl (.int x2), am_D] [.inl (.int y0)] M = some res := uX10_seal ((gX10_seal_73 (rX10_seal n) x1 x2 y0 M).trans h)
set_option maxRecDepth 20000 in
theorem gX10_seal_41 (k : Nat → List am_V → List am_V → am_M → am_R) (x1 : Int32) (y0 : Int32) (M : am_M) : gX10_seal k 41 [.inr (10, 0), .inl (.int x1), am_D, am_D] [.inl (.int y0)] M =
  if y0 = 0 then
   am_ret [] 70 [] (k 73 [.inr (10, 0), .inl (.int x1), .inl (.int 0), am_D]) (fX10_of [.inr (10, 0), .inl (.int x1), .inl (.int 4)] M)
  else am_ret [] 47 [] (k 50 [.inr (10, 0), .inl (.int x1), am_D, am_D]) (fX10_reagentGood [.inr (10, 0), .inl (.int x1), .inl (.int 1)] M) := (rfl)
theorem eX10_seal_41 {n : Nat} {x1 : Int32} {y0 : Int32} {M : am_M} {res : am_O × am_M} (h : (if y0 = 0 then
   am_ret [] 70 [] (rX10_seal n 73 [.inr (10, 0), .inl (.int x1), .inl (.int 0), am_D]) (fX10_of [.inr (10, 0), .inl (.int x1), .inl (.int 4)] M)
  else am_ret [] 47 [] (rX10_seal n 50 [.inr (10, 0), .inl (.int x1), am_D, am_D]) (fX10_reagentGood [.inr (10, 0), .inl (.int x1), .inl (.int 1)] M)) = some res) : rX10_seal (n + 100) 41 [.inr (10, 0), .inl (.int x1), am_D, am_D] [.inl (.int y0)] M = some res := uX10_seal ((gX10_seal_41 (rX10_seal n) x1 y0 M).trans h)
set_option maxRecDepth 20000 in
theorem gX10_seal_110 (k : Nat → List am_V → List am_V → am_M → am_R) (x1 : Int32) (x2 : Int32) (y0 : Int32) (M : am_M) : gX10_seal k 110 [.inr (10, 0), .inl (.int x1), .inl (.int x2), am_D] [.inl (.int y0)] M =
  am_ret [] 114 [.inl (.int y0)] (k 117 [.inr (10, 0), .inl (.int x1), .inl (.int x2), am_D]) (fX10_of [.inr (10, 0), .inl (.int x1), .inl (.int 7)] M) := (rfl)
theorem eX10_seal_110 {n : Nat} {x1 : Int32} {x2 : Int32} {y0 : Int32} {M : am_M} {res : am_O × am_M} (h : (am_ret [] 114 [.inl (.int y0)] (rX10_seal n 117 [.inr (10, 0), .inl (.int x1), .inl (.int x2), am_D]) (fX10_of [.inr (10, 0), .inl (.int x1), .inl (.int 7)] M)) = some res) : rX10_seal (n + 100) 110 [.inr (10, 0), .inl (.int x1), .inl (.int x2), am_D] [.inl (.int y0)] M = some res := uX10_seal ((gX10_seal_110 (rX10_seal n) x1 x2 y0 M).trans h)
set_option maxRecDepth 20000 in
theorem gX10_seal_82 (k : Nat → List am_V → List am_V → am_M → am_R) (x1 : Int32) (x2 : Int32) (y0 : Int32) (M : am_M) : gX10_seal k 82 [.inr (10, 0), .inl (.int x1), .inl (.int x2), am_D] [.inl (.int y0)] M =
  if y0 < 0 then
   am_ret [] 107 [] (k 110 [.inr (10, 0), .inl (.int x1), .inl (.int 0), am_D]) (fX10_of [.inr (10, 0), .inl (.int x1), .inl (.int 8)] M)
  else am_ret [] 89 [] (k 92 [.inr (10, 0), .inl (.int x1), .inl (.int x2), am_D]) (fX10_of [.inr (10, 0), .inl (.int x1), .inl (.int 6)] M) := (rfl)
theorem eX10_seal_82 {n : Nat} {x1 : Int32} {x2 : Int32} {y0 : Int32} {M : am_M} {res : am_O × am_M} (h : (if y0 < 0 then
   am_ret [] 107 [] (rX10_seal n 110 [.inr (10, 0), .inl (.int x1), .inl (.int 0), am_D]) (fX10_of [.inr (10, 0), .inl (.int x1), .inl (.int 8)] M)
  else am_ret [] 89 [] (rX10_seal n 92 [.inr (10, 0), .inl (.int x1), .inl (.int x2), am_D]) (fX10_of [.inr (10, 0), .inl (.int x1), .inl (.int 6)] M)) = some res) : rX10_seal (n + 100) 82 [.inr (10, 0), .inl (.int x1), .inl (.int x2), am_D] [.inl (.int y0)] M = some res := uX10_seal ((gX10_seal_82 (rX10_seal n) x1 x2 y0 M).trans h)
set_option maxRecDepth 20000 in
theorem gX10_seal_50 (k : Nat → List am_V → List am_V → am_M → am_R) (x1 : Int32) (y0 : Int32) (M : am_M) : gX10_seal k 50 [.inr (10, 0), .inl (.int x1), am_D, am_D] [.inl (.int y0)] M =
  if y0 = 0 then
   am_ret [] 70 [] (k 73 [.inr (10, 0), .inl (.int x1), .inl (.int 0), am_D]) (fX10_of [.inr (10, 0), .inl (.int x1), .inl (.int 4)] M)
  else am_ret [] 55 [] (k 58 [.inr (10, 0), .inl (.int x1), am_D, am_D]) (fX10_curveGood [.inr (10, 0), .inl (.int x1)] M) := (rfl)
theorem eX10_seal_50 {n : Nat} {x1 : Int32} {y0 : Int32} {M : am_M} {res : am_O × am_M} (h : (if y0 = 0 then
   am_ret [] 70 [] (rX10_seal n 73 [.inr (10, 0), .inl (.int x1), .inl (.int 0), am_D]) (fX10_of [.inr (10, 0), .inl (.int x1), .inl (.int 4)] M)
  else am_ret [] 55 [] (rX10_seal n 58 [.inr (10, 0), .inl (.int x1), am_D, am_D]) (fX10_curveGood [.inr (10, 0), .inl (.int x1)] M)) = some res) : rX10_seal (n + 100) 50 [.inr (10, 0), .inl (.int x1), am_D, am_D] [.inl (.int y0)] M = some res := uX10_seal ((gX10_seal_50 (rX10_seal n) x1 y0 M).trans h)
set_option maxRecDepth 20000 in
theorem gX10_seal_117 (k : Nat → List am_V → List am_V → am_M → am_R) (x1 : Int32) (x2 : Int32) (y0 : Int32) (y1 : Int32) (M : am_M) : gX10_seal k 117 [.inr (10, 0), .inl (.int x1), .inl (.int x2), am_D] [.inl (.int y0), .inl (.int y1)] M =
  am_ret [] 125 [] (k 128 [.inr (10, 0), .inl (.int x1), .inl (.int x2), .inl (.int ((y1 - y0) + 1))]) (fX10_of [.inr (10, 0), .inl (.int x1), .inl (.int 7)] M) := (rfl)
theorem eX10_seal_117 {n : Nat} {x1 : Int32} {x2 : Int32} {y0 : Int32} {y1 : Int32} {M : am_M} {res : am_O × am_M} (h : (am_ret [] 125 [] (rX10_seal n 128 [.inr (10, 0), .inl (.int x1), .inl (.int x2), .inl (.int ((y1 - y0) + 1))]) (fX10_of [.inr (10, 0), .inl (.int x1), .inl (.int 7)] M)) = some res) : rX10_seal (n + 100) 117 [.inr (10, 0), .inl (.int x1), .inl (.int x2), am_D] [.inl (.int y0), .inl (.int y1)] M = some res := uX10_seal ((gX10_seal_117 (rX10_seal n) x1 x2 y0 y1 M).trans h)
set_option maxRecDepth 20000 in
theorem gX10_seal_92 (k : Nat → List am_V → List am_V → am_M → am_R) (x1 : Int32) (x2 : Int32) (y0 : Int32) (M : am_M) : gX10_seal k 92 [.inr (10, 0), .inl (.int x1), .inl (.int x2), am_D] [.inl (.int y0)] M =
  am_ret [] 95 [.inl (.int y0)] (k 98 [.inr (10, 0), .inl (.int x1), .inl (.int x2), am_D]) (fX10_of [.inr (10, 0), .inl (.int x1), .inl (.int 3)] M) := (rfl)
theorem eX10_seal_92 {n : Nat} {x1 : Int32} {x2 : Int32} {y0 : Int32} {M : am_M} {res : am_O × am_M} (h : (am_ret [] 95 [.inl (.int y0)] (rX10_seal n 98 [.inr (10, 0), .inl (.int x1), .inl (.int x2), am_D]) (fX10_of [.inr (10, 0), .inl (.int x1), .inl (.int 3)] M)) = some res) : rX10_seal (n + 100) 92 [.inr (10, 0), .inl (.int x1), .inl (.int x2), am_D] [.inl (.int y0)] M = some res := uX10_seal ((gX10_seal_92 (rX10_seal n) x1 x2 y0 M).trans h)
set_option maxRecDepth 20000 in
theorem gX10_seal_58 (k : Nat → List am_V → List am_V → am_M → am_R) (x1 : Int32) (y0 : Int32) (M : am_M) : gX10_seal k 58 [.inr (10, 0), .inl (.int x1), am_D, am_D] [.inl (.int y0)] M =
  if y0 = 0 then
   am_ret [] 70 [] (k 73 [.inr (10, 0), .inl (.int x1), .inl (.int 0), am_D]) (fX10_of [.inr (10, 0), .inl (.int x1), .inl (.int 4)] M)
  else am_ret [] 70 [] (k 73 [.inr (10, 0), .inl (.int x1), .inl (.int 1), am_D]) (fX10_of [.inr (10, 0), .inl (.int x1), .inl (.int 4)] M) := (rfl)
theorem eX10_seal_58 {n : Nat} {x1 : Int32} {y0 : Int32} {M : am_M} {res : am_O × am_M} (h : (if y0 = 0 then
   am_ret [] 70 [] (rX10_seal n 73 [.inr (10, 0), .inl (.int x1), .inl (.int 0), am_D]) (fX10_of [.inr (10, 0), .inl (.int x1), .inl (.int 4)] M)
  else am_ret [] 70 [] (rX10_seal n 73 [.inr (10, 0), .inl (.int x1), .inl (.int 1), am_D]) (fX10_of [.inr (10, 0), .inl (.int x1), .inl (.int 4)] M)) = some res) : rX10_seal (n + 100) 58 [.inr (10, 0), .inl (.int x1), am_D, am_D] [.inl (.int y0)] M = some res := uX10_seal ((gX10_seal_58 (rX10_seal n) x1 y0 M).trans h)
set_option maxRecDepth 20000 in
theorem gX10_seal_128 (k : Nat → List am_V → List am_V → am_M → am_R) (x1 : Int32) (x2 : Int32) (x3 : Int32) (y0 : Int32) (M : am_M) : gX10_seal k 128 [.inr (10, 0), .inl (.int x1), .inl (.int x2), .inl (.int x3)] [.inl (.int y0)] M =
  if y0 < 1 then
   am_ret [] 181 [] (k 184 [.inr (10, 0), .inl (.int x1), .inl (.int 0), .inl (.int x3)]) (fX10_of [.inr (10, 0), .inl (.int x1), .inl (.int 12)] M)
  else if x3 < 1 then
   am_ret [] 181 [] (k 184 [.inr (10, 0), .inl (.int x1), .inl (.int 0), .inl (.int x3)]) (fX10_of [.inr (10, 0), .inl (.int x1), .inl (.int 12)] M)
  else if 6 < x3 then
   am_ret [] 181 [] (k 184 [.inr (10, 0), .inl (.int x1), .inl (.int 0), .inl (.int x3)]) (fX10_of [.inr (10, 0), .inl (.int x1), .inl (.int 12)] M)
  else am_ret [] 147 [] (k 150 [.inr (10, 0), .inl (.int x1), .inl (.int x2), .inl (.int x3)]) (fX10_of [.inr (10, 0), .inl (.int x1), .inl (.int 9)] M) := (rfl)
theorem eX10_seal_128 {n : Nat} {x1 : Int32} {x2 : Int32} {x3 : Int32} {y0 : Int32} {M : am_M} {res : am_O × am_M} (h : (if y0 < 1 then
   am_ret [] 181 [] (rX10_seal n 184 [.inr (10, 0), .inl (.int x1), .inl (.int 0), .inl (.int x3)]) (fX10_of [.inr (10, 0), .inl (.int x1), .inl (.int 12)] M)
  else if x3 < 1 then
   am_ret [] 181 [] (rX10_seal n 184 [.inr (10, 0), .inl (.int x1), .inl (.int 0), .inl (.int x3)]) (fX10_of [.inr (10, 0), .inl (.int x1), .inl (.int 12)] M)
  else if 6 < x3 then
   am_ret [] 181 [] (rX10_seal n 184 [.inr (10, 0), .inl (.int x1), .inl (.int 0), .inl (.int x3)]) (fX10_of [.inr (10, 0), .inl (.int x1), .inl (.int 12)] M)
  else am_ret [] 147 [] (rX10_seal n 150 [.inr (10, 0), .inl (.int x1), .inl (.int x2), .inl (.int x3)]) (fX10_of [.inr (10, 0), .inl (.int x1), .inl (.int 9)] M)) = some res) : rX10_seal (n + 100) 128 [.inr (10, 0), .inl (.int x1), .inl (.int x2), .inl (.int x3)] [.inl (.int y0)] M = some res := uX10_seal ((gX10_seal_128 (rX10_seal n) x1 x2 x3 y0 M).trans h)
set_option maxRecDepth 20000 in
theorem gX10_seal_98 (k : Nat → List am_V → List am_V → am_M → am_R) (x1 : Int32) (x2 : Int32) (y0 : Int32) (y1 : Int32) (M : am_M) : gX10_seal k 98 [.inr (10, 0), .inl (.int x1), .inl (.int x2), am_D] [.inl (.int y0), .inl (.int y1)] M =
  if y0 < y1 then
   am_ret [] 107 [] (k 110 [.inr (10, 0), .inl (.int x1), .inl (.int x2), am_D]) (fX10_of [.inr (10, 0), .inl (.int x1), .inl (.int 8)] M)
  else am_ret [] 107 [] (k 110 [.inr (10, 0), .inl (.int x1), .inl (.int 0), am_D]) (fX10_of [.inr (10, 0), .inl (.int x1), .inl (.int 8)] M) := (rfl)
theorem eX10_seal_98 {n : Nat} {x1 : Int32} {x2 : Int32} {y0 : Int32} {y1 : Int32} {M : am_M} {res : am_O × am_M} (h : (if y0 < y1 then
   am_ret [] 107 [] (rX10_seal n 110 [.inr (10, 0), .inl (.int x1), .inl (.int x2), am_D]) (fX10_of [.inr (10, 0), .inl (.int x1), .inl (.int 8)] M)
  else am_ret [] 107 [] (rX10_seal n 110 [.inr (10, 0), .inl (.int x1), .inl (.int 0), am_D]) (fX10_of [.inr (10, 0), .inl (.int x1), .inl (.int 8)] M)) = some res) : rX10_seal (n + 100) 98 [.inr (10, 0), .inl (.int x1), .inl (.int x2), am_D] [.inl (.int y0), .inl (.int y1)] M = some res := uX10_seal ((gX10_seal_98 (rX10_seal n) x1 x2 y0 y1 M).trans h)
set_option maxRecDepth 20000 in
theorem gX10_seal_184 (k : Nat → List am_V → List am_V → am_M → am_R) (x1 : Int32) (x2 : Int32) (x3 : Int32) (y0 : Int32) (M : am_M) : gX10_seal k 184 [.inr (10, 0), .inl (.int x1), .inl (.int x2), .inl (.int x3)] [.inl (.int y0)] M =
  if y0 = 2 then
   am_ret [] 191 [] (k 194 [.inr (10, 0), .inl (.int x1), .inl (.int x2), .inl (.int x3)]) (fX10_of [.inr (10, 0), .inl (.int x1), .inl (.int 0)] M)
  else if am_in x1 4 ∧ am_b x2 = x2 then
   Option.map (fun o => (o, (am_put M 31 0 (Int32.toNatClampNeg x1) x2))) (am_fin 2 .ireturn [.inr (10, 0), .inl (.int x1), .inl (.int x2), .inl (.int x3)] [.inl (.int x2)])
  else none := (rfl)
theorem eX10_seal_184 {n : Nat} {x1 : Int32} {x2 : Int32} {x3 : Int32} {y0 : Int32} {M : am_M} {res : am_O × am_M} (h : (if y0 = 2 then
   am_ret [] 191 [] (rX10_seal n 194 [.inr (10, 0), .inl (.int x1), .inl (.int x2), .inl (.int x3)]) (fX10_of [.inr (10, 0), .inl (.int x1), .inl (.int 0)] M)
  else if am_in x1 4 ∧ am_b x2 = x2 then
   Option.map (fun o => (o, (am_put M 31 0 (Int32.toNatClampNeg x1) x2))) (am_fin 2 .ireturn [.inr (10, 0), .inl (.int x1), .inl (.int x2), .inl (.int x3)] [.inl (.int x2)])
  else none) = some res) : rX10_seal (n + 100) 184 [.inr (10, 0), .inl (.int x1), .inl (.int x2), .inl (.int x3)] [.inl (.int y0)] M = some res := uX10_seal ((gX10_seal_184 (rX10_seal n) x1 x2 x3 y0 M).trans h)
set_option maxRecDepth 20000 in
theorem gX10_seal_150 (k : Nat → List am_V → List am_V → am_M → am_R) (x1 : Int32) (x2 : Int32) (x3 : Int32) (y0 : Int32) (M : am_M) : gX10_seal k 150 [.inr (10, 0), .inl (.int x1), .inl (.int x2), .inl (.int x3)] [.inl (.int y0)] M =
  if y0 ≤ 0 then
   am_ret [] 162 [] (k 165 [.inr (10, 0), .inl (.int x1), .inl (.int x2), .inl (.int x3)]) (fX10_of [.inr (10, 0), .inl (.int x1), .inl (.int 10)] M)
  else if x3 < 2 then
   am_ret [] 181 [] (k 184 [.inr (10, 0), .inl (.int x1), .inl (.int 0), .inl (.int x3)]) (fX10_of [.inr (10, 0), .inl (.int x1), .inl (.int 12)] M)
  else am_ret [] 162 [] (k 165 [.inr (10, 0), .inl (.int x1), .inl (.int x2), .inl (.int x3)]) (fX10_of [.inr (10, 0), .inl (.int x1), .inl (.int 10)] M) := (rfl)
theorem eX10_seal_150 {n : Nat} {x1 : Int32} {x2 : Int32} {x3 : Int32} {y0 : Int32} {M : am_M} {res : am_O × am_M} (h : (if y0 ≤ 0 then
   am_ret [] 162 [] (rX10_seal n 165 [.inr (10, 0), .inl (.int x1), .inl (.int x2), .inl (.int x3)]) (fX10_of [.inr (10, 0), .inl (.int x1), .inl (.int 10)] M)
  else if x3 < 2 then
   am_ret [] 181 [] (rX10_seal n 184 [.inr (10, 0), .inl (.int x1), .inl (.int 0), .inl (.int x3)]) (fX10_of [.inr (10, 0), .inl (.int x1), .inl (.int 12)] M)
  else am_ret [] 162 [] (rX10_seal n 165 [.inr (10, 0), .inl (.int x1), .inl (.int x2), .inl (.int x3)]) (fX10_of [.inr (10, 0), .inl (.int x1), .inl (.int 10)] M)) = some res) : rX10_seal (n + 100) 150 [.inr (10, 0), .inl (.int x1), .inl (.int x2), .inl (.int x3)] [.inl (.int y0)] M = some res := uX10_seal ((gX10_seal_150 (rX10_seal n) x1 x2 x3 y0 M).trans h)
set_option maxRecDepth 20000 in
theorem gX10_seal_194 (k : Nat → List am_V → List am_V → am_M → am_R) (x1 : Int32) (x2 : Int32) (x3 : Int32) (y0 : Int32) (M : am_M) : gX10_seal k 194 [.inr (10, 0), .inl (.int x1), .inl (.int x2), .inl (.int x3)] [.inl (.int y0)] M =
  am_ret [] 198 [.inl (.int y0)] (k 201 [.inr (10, 0), .inl (.int x1), .inl (.int x2), .inl (.int x3)]) (fX10_of [.inr (10, 0), .inl (.int x1), .inl (.int 13)] M) := (rfl)
theorem eX10_seal_194 {n : Nat} {x1 : Int32} {x2 : Int32} {x3 : Int32} {y0 : Int32} {M : am_M} {res : am_O × am_M} (h : (am_ret [] 198 [.inl (.int y0)] (rX10_seal n 201 [.inr (10, 0), .inl (.int x1), .inl (.int x2), .inl (.int x3)]) (fX10_of [.inr (10, 0), .inl (.int x1), .inl (.int 13)] M)) = some res) : rX10_seal (n + 100) 194 [.inr (10, 0), .inl (.int x1), .inl (.int x2), .inl (.int x3)] [.inl (.int y0)] M = some res := uX10_seal ((gX10_seal_194 (rX10_seal n) x1 x2 x3 y0 M).trans h)
set_option maxRecDepth 20000 in
theorem gX10_seal_165 (k : Nat → List am_V → List am_V → am_M → am_R) (x1 : Int32) (x2 : Int32) (x3 : Int32) (y0 : Int32) (M : am_M) : gX10_seal k 165 [.inr (10, 0), .inl (.int x1), .inl (.int x2), .inl (.int x3)] [.inl (.int y0)] M =
  am_ret [] 169 [.inl (.int y0)] (k 172 [.inr (10, 0), .inl (.int x1), .inl (.int x2), .inl (.int x3)]) (fX10_of [.inr (10, 0), .inl (.int x1), .inl (.int 11)] M) := (rfl)
theorem eX10_seal_165 {n : Nat} {x1 : Int32} {x2 : Int32} {x3 : Int32} {y0 : Int32} {M : am_M} {res : am_O × am_M} (h : (am_ret [] 169 [.inl (.int y0)] (rX10_seal n 172 [.inr (10, 0), .inl (.int x1), .inl (.int x2), .inl (.int x3)]) (fX10_of [.inr (10, 0), .inl (.int x1), .inl (.int 11)] M)) = some res) : rX10_seal (n + 100) 165 [.inr (10, 0), .inl (.int x1), .inl (.int x2), .inl (.int x3)] [.inl (.int y0)] M = some res := uX10_seal ((gX10_seal_165 (rX10_seal n) x1 x2 x3 y0 M).trans h)
set_option maxRecDepth 20000 in
theorem gX10_seal_201 (k : Nat → List am_V → List am_V → am_M → am_R) (x1 : Int32) (x2 : Int32) (x3 : Int32) (y0 : Int32) (y1 : Int32) (M : am_M) : gX10_seal k 201 [.inr (10, 0), .inl (.int x1), .inl (.int x2), .inl (.int x3)] [.inl (.int y0), .inl (.int y1)] M =
  if y0 = 0 then
   none
  else if (y1 - y1 / y0 * y0) = 0 then
   if am_in x1 4 ∧ am_b x2 = x2 then
    Option.map (fun o => (o, (am_put M 31 0 (Int32.toNatClampNeg x1) x2))) (am_fin 2 .ireturn [.inr (10, 0), .inl (.int x1), .inl (.int x2), .inl (.int x3)] [.inl (.int x2)])
   else none
  else if am_in x1 4 ∧ am_b 0 = 0 then
   some (.inl (some (.inl (.int 0))), (am_put M 31 0 (Int32.toNatClampNeg x1) 0))
  else none := (rfl)
theorem eX10_seal_201 {n : Nat} {x1 : Int32} {x2 : Int32} {x3 : Int32} {y0 : Int32} {y1 : Int32} {M : am_M} {res : am_O × am_M} (h : (if y0 = 0 then
   none
  else if (y1 - y1 / y0 * y0) = 0 then
   if am_in x1 4 ∧ am_b x2 = x2 then
    Option.map (fun o => (o, (am_put M 31 0 (Int32.toNatClampNeg x1) x2))) (am_fin 2 .ireturn [.inr (10, 0), .inl (.int x1), .inl (.int x2), .inl (.int x3)] [.inl (.int x2)])
   else none
  else if am_in x1 4 ∧ am_b 0 = 0 then
   some (.inl (some (.inl (.int 0))), (am_put M 31 0 (Int32.toNatClampNeg x1) 0))
  else none) = some res) : rX10_seal (n + 100) 201 [.inr (10, 0), .inl (.int x1), .inl (.int x2), .inl (.int x3)] [.inl (.int y0), .inl (.int y1)] M = some res := uX10_seal ((gX10_seal_201 (rX10_seal n) x1 x2 x3 y0 y1 M).trans h)
set_option maxRecDepth 20000 in
theorem gX10_seal_172 (k : Nat → List am_V → List am_V → am_M → am_R) (x1 : Int32) (x2 : Int32) (x3 : Int32) (y0 : Int32) (y1 : Int32) (M : am_M) : gX10_seal k 172 [.inr (10, 0), .inl (.int x1), .inl (.int x2), .inl (.int x3)] [.inl (.int y0), .inl (.int y1)] M =
  if y1 ≤ y0 then
   am_ret [] 181 [] (k 184 [.inr (10, 0), .inl (.int x1), .inl (.int x2), .inl (.int x3)]) (fX10_of [.inr (10, 0), .inl (.int x1), .inl (.int 12)] M)
  else am_ret [] 181 [] (k 184 [.inr (10, 0), .inl (.int x1), .inl (.int 0), .inl (.int x3)]) (fX10_of [.inr (10, 0), .inl (.int x1), .inl (.int 12)] M) := (rfl)
theorem eX10_seal_172 {n : Nat} {x1 : Int32} {x2 : Int32} {x3 : Int32} {y0 : Int32} {y1 : Int32} {M : am_M} {res : am_O × am_M} (h : (if y1 ≤ y0 then
   am_ret [] 181 [] (rX10_seal n 184 [.inr (10, 0), .inl (.int x1), .inl (.int x2), .inl (.int x3)]) (fX10_of [.inr (10, 0), .inl (.int x1), .inl (.int 12)] M)
  else am_ret [] 181 [] (rX10_seal n 184 [.inr (10, 0), .inl (.int x1), .inl (.int 0), .inl (.int x3)]) (fX10_of [.inr (10, 0), .inl (.int x1), .inl (.int 12)] M)) = some res) : rX10_seal (n + 100) 172 [.inr (10, 0), .inl (.int x1), .inl (.int x2), .inl (.int x3)] [.inl (.int y0), .inl (.int y1)] M = some res := uX10_seal ((gX10_seal_172 (rX10_seal n) x1 x2 x3 y0 y1 M).trans h)
def rX10_slotOf (n pc : Nat) (ls st : List am_V) (M : am_M) : am_R := am_run [] [] 1 am_X0 pX10_slotOf n pc ls st M
def gX10_slotOf (k : Nat → List am_V → List am_V → am_M → am_R) (pc : Nat) (ls st : List am_V) (M : am_M) : am_R := am_go [] [] 1 am_X0 pX10_slotOf [2] k 100 pc ls st M
theorem uX10_slotOf {n pc : Nat} {ls st : List am_V} {M : am_M} {res : am_O × am_M} (h : gX10_slotOf (rX10_slotOf n) pc ls st M = some res) : rX10_slotOf (n + 100) pc ls st M = some res := am_go_ok h
theorem eX10_slotOf (x1 : Int32) (M : am_M) : fX10_slotOf [.inr (10, 0), .inl (.int x1)] M = rX10_slotOf 100000 0 [.inr (10, 0), .inl (.int x1), am_D] [] M := am_meth_eq rfl rfl
set_option maxRecDepth 20000 in
theorem gX10_slotOf_0 (k : Nat → List am_V → List am_V → am_M → am_R) (x1 : Int32) (M : am_M) : gX10_slotOf k 0 [.inr (10, 0), .inl (.int x1), am_D] [] M =
  k 2 [.inr (10, 0), .inl (.int x1), .inl (.int 0)] [] M := (rfl)
theorem eX10_slotOf_0 {n : Nat} {x1 : Int32} {M : am_M} {res : am_O × am_M} (h : (rX10_slotOf n 2 [.inr (10, 0), .inl (.int x1), .inl (.int 0)] [] M) = some res) : rX10_slotOf (n + 100) 0 [.inr (10, 0), .inl (.int x1), am_D] [] M = some res := uX10_slotOf ((gX10_slotOf_0 (rX10_slotOf n) x1 M).trans h)
set_option maxRecDepth 20000 in
theorem gX10_slotOf_2 (k : Nat → List am_V → List am_V → am_M → am_R) (x1 : Int32) (x2 : Int32) (M : am_M) : gX10_slotOf k 2 [.inr (10, 0), .inl (.int x1), .inl (.int x2)] [] M =
  if 6 ≤ x2 then
   some (.inl (some (.inl (.int (-1)))), M)
  else if am_in x2 6 then
   if (M 37 0 (Int32.toNatClampNeg x2)) = x1 then
    some (.inl (some (.inl (.int x2))), M)
   else k 2 [.inr (10, 0), .inl (.int x1), .inl (.int (x2 + 1))] [] M
  else none := (rfl)
theorem eX10_slotOf_2 {n : Nat} {x1 : Int32} {x2 : Int32} {M : am_M} {res : am_O × am_M} (h : (if 6 ≤ x2 then
   some (.inl (some (.inl (.int (-1)))), M)
  else if am_in x2 6 then
   if (M 37 0 (Int32.toNatClampNeg x2)) = x1 then
    some (.inl (some (.inl (.int x2))), M)
   else rX10_slotOf n 2 [.inr (10, 0), .inl (.int x1), .inl (.int (x2 + 1))] [] M
  else none) = some res) : rX10_slotOf (n + 100) 2 [.inr (10, 0), .inl (.int x1), .inl (.int x2)] [] M = some res := uX10_slotOf ((gX10_slotOf_2 (rX10_slotOf n) x1 x2 M).trans h)
def rX10_rack (n pc : Nat) (ls st : List am_V) (M : am_M) : am_R := am_run [fX10_within, fX10_slotOf] [] 0 am_X0 pX10_rack n pc ls st M
def gX10_rack (k : Nat → List am_V → List am_V → am_M → am_R) (pc : Nat) (ls st : List am_V) (M : am_M) : am_R := am_go [fX10_within, fX10_slotOf] [] 0 am_X0 pX10_rack [6, 16, 25, 36, 70] k 100 pc ls st M
theorem uX10_rack {n pc : Nat} {ls st : List am_V} {M : am_M} {res : am_O × am_M} (h : gX10_rack (rX10_rack n) pc ls st M = some res) : rX10_rack (n + 100) pc ls st M = some res := am_go_ok h
theorem eX10_rack (x1 : Int32) (x2 : Int32) (x3 : Int32) (x4 : Int32) (M : am_M) : fX10_rack [.inr (10, 0), .inl (.int x1), .inl (.int x2), .inl (.int x3), .inl (.int x4)] M = rX10_rack 100000 0 [.inr (10, 0), .inl (.int x1), .inl (.int x2), .inl (.int x3), .inl (.int x4), am_D] [] M := am_meth_eq rfl rfl
set_option maxRecDepth 20000 in
theorem gX10_rack_0 (k : Nat → List am_V → List am_V → am_M → am_R) (x1 : Int32) (x2 : Int32) (x3 : Int32) (x4 : Int32) (M : am_M) : gX10_rack k 0 [.inr (10, 0), .inl (.int x1), .inl (.int x2), .inl (.int x3), .inl (.int x4), am_D] [] M =
  am_ret [] 3 [] (k 6 [.inr (10, 0), .inl (.int x1), .inl (.int x2), .inl (.int x3), .inl (.int x4), am_D]) (fX10_within [.inl (.int x1), .inl (.int 0), .inl (.int 5)] M) := (rfl)
theorem eX10_rack_0 {n : Nat} {x1 : Int32} {x2 : Int32} {x3 : Int32} {x4 : Int32} {M : am_M} {res : am_O × am_M} (h : (am_ret [] 3 [] (rX10_rack n 6 [.inr (10, 0), .inl (.int x1), .inl (.int x2), .inl (.int x3), .inl (.int x4), am_D]) (fX10_within [.inl (.int x1), .inl (.int 0), .inl (.int 5)] M)) = some res) : rX10_rack (n + 100) 0 [.inr (10, 0), .inl (.int x1), .inl (.int x2), .inl (.int x3), .inl (.int x4), am_D] [] M = some res := uX10_rack ((gX10_rack_0 (rX10_rack n) x1 x2 x3 x4 M).trans h)
set_option maxRecDepth 20000 in
theorem gX10_rack_6 (k : Nat → List am_V → List am_V → am_M → am_R) (x1 : Int32) (x2 : Int32) (x3 : Int32) (x4 : Int32) (y0 : Int32) (M : am_M) : gX10_rack k 6 [.inr (10, 0), .inl (.int x1), .inl (.int x2), .inl (.int x3), .inl (.int x4), am_D] [.inl (.int y0)] M =
  if y0 = 0 then
   some (.inl none, (am_put M 10 0 45 1))
  else am_ret [] 13 [] (k 16 [.inr (10, 0), .inl (.int x1), .inl (.int x2), .inl (.int x3), .inl (.int x4), am_D]) (fX10_within [.inl (.int x2), .inl (.int 1), .inl (.int 999999)] M) := (rfl)
theorem eX10_rack_6 {n : Nat} {x1 : Int32} {x2 : Int32} {x3 : Int32} {x4 : Int32} {y0 : Int32} {M : am_M} {res : am_O × am_M} (h : (if y0 = 0 then
   some (.inl none, (am_put M 10 0 45 1))
  else am_ret [] 13 [] (rX10_rack n 16 [.inr (10, 0), .inl (.int x1), .inl (.int x2), .inl (.int x3), .inl (.int x4), am_D]) (fX10_within [.inl (.int x2), .inl (.int 1), .inl (.int 999999)] M)) = some res) : rX10_rack (n + 100) 6 [.inr (10, 0), .inl (.int x1), .inl (.int x2), .inl (.int x3), .inl (.int x4), am_D] [.inl (.int y0)] M = some res := uX10_rack ((gX10_rack_6 (rX10_rack n) x1 x2 x3 x4 y0 M).trans h)
set_option maxRecDepth 20000 in
theorem gX10_rack_16 (k : Nat → List am_V → List am_V → am_M → am_R) (x1 : Int32) (x2 : Int32) (x3 : Int32) (x4 : Int32) (y0 : Int32) (M : am_M) : gX10_rack k 16 [.inr (10, 0), .inl (.int x1), .inl (.int x2), .inl (.int x3), .inl (.int x4), am_D] [.inl (.int y0)] M =
  if y0 = 0 then
   some (.inl none, (am_put M 10 0 45 1))
  else am_ret [] 22 [] (k 25 [.inr (10, 0), .inl (.int x1), .inl (.int x2), .inl (.int x3), .inl (.int x4), am_D]) (fX10_within [.inl (.int x3), .inl (.int 0), .inl (.int 1)] M) := (rfl)
theorem eX10_rack_16 {n : Nat} {x1 : Int32} {x2 : Int32} {x3 : Int32} {x4 : Int32} {y0 : Int32} {M : am_M} {res : am_O × am_M} (h : (if y0 = 0 then
   some (.inl none, (am_put M 10 0 45 1))
  else am_ret [] 22 [] (rX10_rack n 25 [.inr (10, 0), .inl (.int x1), .inl (.int x2), .inl (.int x3), .inl (.int x4), am_D]) (fX10_within [.inl (.int x3), .inl (.int 0), .inl (.int 1)] M)) = some res) : rX10_rack (n + 100) 16 [.inr (10, 0), .inl (.int x1), .inl (.int x2), .inl (.int x3), .inl (.int x4), am_D] [.inl (.int y0)] M = some res := uX10_rack ((gX10_rack_16 (rX10_rack n) x1 x2 x3 x4 y0 M).trans h)
set_option maxRecDepth 20000 in
theorem gX10_rack_25 (k : Nat → List am_V → List am_V → am_M → am_R) (x1 : Int32) (x2 : Int32) (x3 : Int32) (x4 : Int32) (y0 : Int32) (M : am_M) : gX10_rack k 25 [.inr (10, 0), .inl (.int x1), .inl (.int x2), .inl (.int x3), .inl (.int x4), am_D] [.inl (.int y0)] M =
  if y0 = 0 then
   some (.inl none, (am_put M 10 0 45 1))
  else am_ret [] 33 [] (k 36 [.inr (10, 0), .inl (.int x1), .inl (.int x2), .inl (.int x3), .inl (.int x4), am_D]) (fX10_within [.inl (.int x4), .inl (.int 0), .inl (.int 100000)] M) := (rfl)
theorem eX10_rack_25 {n : Nat} {x1 : Int32} {x2 : Int32} {x3 : Int32} {x4 : Int32} {y0 : Int32} {M : am_M} {res : am_O × am_M} (h : (if y0 = 0 then
   some (.inl none, (am_put M 10 0 45 1))
  else am_ret [] 33 [] (rX10_rack n 36 [.inr (10, 0), .inl (.int x1), .inl (.int x2), .inl (.int x3), .inl (.int x4), am_D]) (fX10_within [.inl (.int x4), .inl (.int 0), .inl (.int 100000)] M)) = some res) : rX10_rack (n + 100) 25 [.inr (10, 0), .inl (.int x1), .inl (.int x2), .inl (.int x3), .inl (.int x4), am_D] [.inl (.int y0)] M = some res := uX10_rack ((gX10_rack_25 (rX10_rack n) x1 x2 x3 x4 y0 M).trans h)
set_option maxRecDepth 20000 in
theorem gX10_rack_36 (k : Nat → List am_V → List am_V → am_M → am_R) (x1 : Int32) (x2 : Int32) (x3 : Int32) (x4 : Int32) (y0 : Int32) (M : am_M) : gX10_rack k 36 [.inr (10, 0), .inl (.int x1), .inl (.int x2), .inl (.int x3), .inl (.int x4), am_D] [.inl (.int y0)] M =
  if y0 = 0 then
   some (.inl none, (am_put M 10 0 45 1))
  else if am_in x1 6 then
   if (M 37 0 (Int32.toNatClampNeg x1)) = 0 then
    am_ret [] 67 [.inr (10, 0)] (k 70 [.inr (10, 0), .inl (.int x1), .inl (.int x2), .inl (.int x3), .inl (.int x4), .inl (.int 1)]) (fX10_slotOf [.inr (10, 0), .inl (.int x2)] M)
   else some (.inl none, (am_put M 10 0 45 2))
  else none := (rfl)
theorem eX10_rack_36 {n : Nat} {x1 : Int32} {x2 : Int32} {x3 : Int32} {x4 : Int32} {y0 : Int32} {M : am_M} {res : am_O × am_M} (h : (if y0 = 0 then
   some (.inl none, (am_put M 10 0 45 1))
  else if am_in x1 6 then
   if (M 37 0 (Int32.toNatClampNeg x1)) = 0 then
    am_ret [] 67 [.inr (10, 0)] (rX10_rack n 70 [.inr (10, 0), .inl (.int x1), .inl (.int x2), .inl (.int x3), .inl (.int x4), .inl (.int 1)]) (fX10_slotOf [.inr (10, 0), .inl (.int x2)] M)
   else some (.inl none, (am_put M 10 0 45 2))
  else none) = some res) : rX10_rack (n + 100) 36 [.inr (10, 0), .inl (.int x1), .inl (.int x2), .inl (.int x3), .inl (.int x4), am_D] [.inl (.int y0)] M = some res := uX10_rack ((gX10_rack_36 (rX10_rack n) x1 x2 x3 x4 y0 M).trans h)
set_option maxRecDepth 20000 in
theorem gX10_rack_70 (k : Nat → List am_V → List am_V → am_M → am_R) (x1 : Int32) (x2 : Int32) (x3 : Int32) (x4 : Int32) (x5 : Int32) (y0 : Int32) (M : am_M) : gX10_rack k 70 [.inr (10, 0), .inl (.int x1), .inl (.int x2), .inl (.int x3), .inl (.int x4), .inl (.int x5)] [.inl (.int y0), .inr (10, 0)] M =
  if y0 < 0 then
   if am_in x1 6 then
    if am_in x1 6 then
     if am_in x1 6 then
      some (.inl none, (am_put (am_put (am_put (am_put M 10 0 45 0) 37 0 (Int32.toNatClampNeg x1) x2) 38 0 (Int32.toNatClampNeg x1) x3) 39 0 (Int32.toNatClampNeg x1) x4))
     else none
    else none
   else none
  else some (.inl none, (am_put M 10 0 45 2)) := (rfl)
theorem eX10_rack_70 {n : Nat} {x1 : Int32} {x2 : Int32} {x3 : Int32} {x4 : Int32} {x5 : Int32} {y0 : Int32} {M : am_M} {res : am_O × am_M} (h : (if y0 < 0 then
   if am_in x1 6 then
    if am_in x1 6 then
     if am_in x1 6 then
      some (.inl none, (am_put (am_put (am_put (am_put M 10 0 45 0) 37 0 (Int32.toNatClampNeg x1) x2) 38 0 (Int32.toNatClampNeg x1) x3) 39 0 (Int32.toNatClampNeg x1) x4))
     else none
    else none
   else none
  else some (.inl none, (am_put M 10 0 45 2))) = some res) : rX10_rack (n + 100) 70 [.inr (10, 0), .inl (.int x1), .inl (.int x2), .inl (.int x3), .inl (.int x4), .inl (.int x5)] [.inl (.int y0), .inr (10, 0)] M = some res := uX10_rack ((gX10_rack_70 (rX10_rack n) x1 x2 x3 x4 x5 y0 M).trans h)
def rX10_removeRack (n pc : Nat) (ls st : List am_V) (M : am_M) : am_R := am_run [fX10_within] [] 1 am_X0 pX10_removeRack n pc ls st M
def gX10_removeRack (k : Nat → List am_V → List am_V → am_M → am_R) (pc : Nat) (ls st : List am_V) (M : am_M) : am_R := am_go [fX10_within] [] 1 am_X0 pX10_removeRack [7, 33] k 100 pc ls st M
theorem uX10_removeRack {n pc : Nat} {ls st : List am_V} {M : am_M} {res : am_O × am_M} (h : gX10_removeRack (rX10_removeRack n) pc ls st M = some res) : rX10_removeRack (n + 100) pc ls st M = some res := am_go_ok h
theorem eX10_removeRack (x1 : Int32) (M : am_M) : fX10_removeRack [.inr (10, 0), .inl (.int x1)] M = rX10_removeRack 100000 0 [.inr (10, 0), .inl (.int x1), am_D] [] M := am_meth_eq rfl rfl
set_option maxRecDepth 20000 in
theorem gX10_removeRack_0 (k : Nat → List am_V → List am_V → am_M → am_R) (x1 : Int32) (M : am_M) : gX10_removeRack k 0 [.inr (10, 0), .inl (.int x1), am_D] [] M =
  am_ret [] 4 [.inr (10, 0)] (k 7 [.inr (10, 0), .inl (.int x1), am_D]) (fX10_within [.inl (.int x1), .inl (.int 0), .inl (.int 5)] M) := (rfl)
theorem eX10_removeRack_0 {n : Nat} {x1 : Int32} {M : am_M} {res : am_O × am_M} (h : (am_ret [] 4 [.inr (10, 0)] (rX10_removeRack n 7 [.inr (10, 0), .inl (.int x1), am_D]) (fX10_within [.inl (.int x1), .inl (.int 0), .inl (.int 5)] M)) = some res) : rX10_removeRack (n + 100) 0 [.inr (10, 0), .inl (.int x1), am_D] [] M = some res := uX10_removeRack ((gX10_removeRack_0 (rX10_removeRack n) x1 M).trans h)
set_option maxRecDepth 20000 in
theorem gX10_removeRack_7 (k : Nat → List am_V → List am_V → am_M → am_R) (x1 : Int32) (y0 : Int32) (M : am_M) : gX10_removeRack k 7 [.inr (10, 0), .inl (.int x1), am_D] [.inl (.int y0), .inr (10, 0)] M =
  if y0 = 0 then
   k 33 [.inr (10, 0), .inl (.int x1), .inl (.int 0)] [] (am_put M 10 0 45 1)
  else if am_in x1 6 then
   if (M 37 0 (Int32.toNatClampNeg x1)) = 0 then
    k 33 [.inr (10, 0), .inl (.int x1), .inl (.int 0)] [] (am_put M 10 0 45 2)
   else k 33 [.inr (10, 0), .inl (.int x1), .inl (.int 0)] [] (am_put M 10 0 45 0)
  else none := (rfl)
theorem eX10_removeRack_7 {n : Nat} {x1 : Int32} {y0 : Int32} {M : am_M} {res : am_O × am_M} (h : (if y0 = 0 then
   rX10_removeRack n 33 [.inr (10, 0), .inl (.int x1), .inl (.int 0)] [] (am_put M 10 0 45 1)
  else if am_in x1 6 then
   if (M 37 0 (Int32.toNatClampNeg x1)) = 0 then
    rX10_removeRack n 33 [.inr (10, 0), .inl (.int x1), .inl (.int 0)] [] (am_put M 10 0 45 2)
   else rX10_removeRack n 33 [.inr (10, 0), .inl (.int x1), .inl (.int 0)] [] (am_put M 10 0 45 0)
  else none) = some res) : rX10_removeRack (n + 100) 7 [.inr (10, 0), .inl (.int x1), am_D] [.inl (.int y0), .inr (10, 0)] M = some res := uX10_removeRack ((gX10_removeRack_7 (rX10_removeRack n) x1 y0 M).trans h)
set_option maxRecDepth 20000 in
theorem gX10_removeRack_33 (k : Nat → List am_V → List am_V → am_M → am_R) (x1 : Int32) (x2 : Int32) (M : am_M) : gX10_removeRack k 33 [.inr (10, 0), .inl (.int x1), .inl (.int x2)] [] M =
  if (M 10 0 14) ≤ x2 then
   if (M 10 0 45) = 0 then
    if am_in x1 6 then
     if am_in x1 6 then
      some (.inl (some (.inl (.int (M 39 0 (Int32.toNatClampNeg x1))))), (am_put M 37 0 (Int32.toNatClampNeg x1) 0))
     else none
    else none
   else some (.inl (some (.inl (.int 0))), M)
  else if (M 10 0 45) = 0 then
   if am_in x2 40 then
    if am_in x1 6 then
     if (M 45 0 (Int32.toNatClampNeg x2)) = (M 37 0 (Int32.toNatClampNeg x1)) then
      if am_in x2 40 then
       if 1 < (M 48 0 (Int32.toNatClampNeg x2)) then
        k 33 [.inr (10, 0), .inl (.int x1), .inl (.int (x2 + 1))] [] M
       else k 33 [.inr (10, 0), .inl (.int x1), .inl (.int (x2 + 1))] [] (am_put M 10 0 45 3)
      else none
     else k 33 [.inr (10, 0), .inl (.int x1), .inl (.int (x2 + 1))] [] M
    else none
   else none
  else if (M 10 0 45) = 0 then
   if am_in x1 6 then
    if am_in x1 6 then
     some (.inl (some (.inl (.int (M 39 0 (Int32.toNatClampNeg x1))))), (am_put M 37 0 (Int32.toNatClampNeg x1) 0))
    else none
   else none
  else some (.inl (some (.inl (.int 0))), M) := (rfl)
theorem eX10_removeRack_33 {n : Nat} {x1 : Int32} {x2 : Int32} {M : am_M} {res : am_O × am_M} (h : (if (M 10 0 14) ≤ x2 then
   if (M 10 0 45) = 0 then
    if am_in x1 6 then
     if am_in x1 6 then
      some (.inl (some (.inl (.int (M 39 0 (Int32.toNatClampNeg x1))))), (am_put M 37 0 (Int32.toNatClampNeg x1) 0))
     else none
    else none
   else some (.inl (some (.inl (.int 0))), M)
  else if (M 10 0 45) = 0 then
   if am_in x2 40 then
    if am_in x1 6 then
     if (M 45 0 (Int32.toNatClampNeg x2)) = (M 37 0 (Int32.toNatClampNeg x1)) then
      if am_in x2 40 then
       if 1 < (M 48 0 (Int32.toNatClampNeg x2)) then
        rX10_removeRack n 33 [.inr (10, 0), .inl (.int x1), .inl (.int (x2 + 1))] [] M
       else rX10_removeRack n 33 [.inr (10, 0), .inl (.int x1), .inl (.int (x2 + 1))] [] (am_put M 10 0 45 3)
      else none
     else rX10_removeRack n 33 [.inr (10, 0), .inl (.int x1), .inl (.int (x2 + 1))] [] M
    else none
   else none
  else if (M 10 0 45) = 0 then
   if am_in x1 6 then
    if am_in x1 6 then
     some (.inl (some (.inl (.int (M 39 0 (Int32.toNatClampNeg x1))))), (am_put M 37 0 (Int32.toNatClampNeg x1) 0))
    else none
   else none
  else some (.inl (some (.inl (.int 0))), M)) = some res) : rX10_removeRack (n + 100) 33 [.inr (10, 0), .inl (.int x1), .inl (.int x2)] [] M = some res := uX10_removeRack ((gX10_removeRack_33 (rX10_removeRack n) x1 x2 M).trans h)
def rX10_reserved (n pc : Nat) (ls st : List am_V) (M : am_M) : am_R := am_run [] [] 1 am_X0 pX10_reserved n pc ls st M
def gX10_reserved (k : Nat → List am_V → List am_V → am_M → am_R) (pc : Nat) (ls st : List am_V) (M : am_M) : am_R := am_go [] [] 1 am_X0 pX10_reserved [4] k 100 pc ls st M
theorem uX10_reserved {n pc : Nat} {ls st : List am_V} {M : am_M} {res : am_O × am_M} (h : gX10_reserved (rX10_reserved n) pc ls st M = some res) : rX10_reserved (n + 100) pc ls st M = some res := am_go_ok h
theorem eX10_reserved (x1 : Int32) (M : am_M) : fX10_reserved [.inr (10, 0), .inl (.int x1)] M = rX10_reserved 100000 0 [.inr (10, 0), .inl (.int x1), am_D, am_D] [] M := am_meth_eq rfl rfl
set_option maxRecDepth 20000 in
theorem gX10_reserved_0 (k : Nat → List am_V → List am_V → am_M → am_R) (x1 : Int32) (M : am_M) : gX10_reserved k 0 [.inr (10, 0), .inl (.int x1), am_D, am_D] [] M =
  k 4 [.inr (10, 0), .inl (.int x1), .inl (.int 0), .inl (.int 0)] [] M := (rfl)
theorem eX10_reserved_0 {n : Nat} {x1 : Int32} {M : am_M} {res : am_O × am_M} (h : (rX10_reserved n 4 [.inr (10, 0), .inl (.int x1), .inl (.int 0), .inl (.int 0)] [] M) = some res) : rX10_reserved (n + 100) 0 [.inr (10, 0), .inl (.int x1), am_D, am_D] [] M = some res := uX10_reserved ((gX10_reserved_0 (rX10_reserved n) x1 M).trans h)
set_option maxRecDepth 20000 in
theorem gX10_reserved_4 (k : Nat → List am_V → List am_V → am_M → am_R) (x1 : Int32) (x2 : Int32) (x3 : Int32) (M : am_M) : gX10_reserved k 4 [.inr (10, 0), .inl (.int x1), .inl (.int x2), .inl (.int x3)] [] M =
  if (M 10 0 36) ≤ x3 then
   some (.inl (some (.inl (.int x2))), M)
  else if am_in x3 24 then
   if (M 63 0 (Int32.toNatClampNeg x3)) = x1 then
    if am_in x3 24 then
     k 4 [.inr (10, 0), .inl (.int x1), .inl (.int (x2 + (M 64 0 (Int32.toNatClampNeg x3)))), .inl (.int (x3 + 1))] [] M
    else none
   else k 4 [.inr (10, 0), .inl (.int x1), .inl (.int x2), .inl (.int (x3 + 1))] [] M
  else none := (rfl)
theorem eX10_reserved_4 {n : Nat} {x1 : Int32} {x2 : Int32} {x3 : Int32} {M : am_M} {res : am_O × am_M} (h : (if (M 10 0 36) ≤ x3 then
   some (.inl (some (.inl (.int x2))), M)
  else if am_in x3 24 then
   if (M 63 0 (Int32.toNatClampNeg x3)) = x1 then
    if am_in x3 24 then
     rX10_reserved n 4 [.inr (10, 0), .inl (.int x1), .inl (.int (x2 + (M 64 0 (Int32.toNatClampNeg x3)))), .inl (.int (x3 + 1))] [] M
    else none
   else rX10_reserved n 4 [.inr (10, 0), .inl (.int x1), .inl (.int x2), .inl (.int (x3 + 1))] [] M
  else none) = some res) : rX10_reserved (n + 100) 4 [.inr (10, 0), .inl (.int x1), .inl (.int x2), .inl (.int x3)] [] M = some res := uX10_reserved ((gX10_reserved_4 (rX10_reserved n) x1 x2 x3 M).trans h)
def rX10_reagent (n pc : Nat) (ls st : List am_V) (M : am_M) : am_R := am_run [fX10_within, fX10_reserved] [] 0 am_X0 pX10_reagent n pc ls st M
def gX10_reagent (k : Nat → List am_V → List am_V → am_M → am_R) (pc : Nat) (ls st : List am_V) (M : am_M) : am_R := am_go [fX10_within, fX10_reserved] [] 0 am_X0 pX10_reagent [7, 16, 26, 56] k 100 pc ls st M
theorem uX10_reagent {n pc : Nat} {ls st : List am_V} {M : am_M} {res : am_O × am_M} (h : gX10_reagent (rX10_reagent n) pc ls st M = some res) : rX10_reagent (n + 100) pc ls st M = some res := am_go_ok h
theorem eX10_reagent (x1 : Int32) (x2 : Int32) (x3 : Int32) (x4 : Int32) (M : am_M) : fX10_reagent [.inr (10, 0), .inl (.int x1), .inl (.int x2), .inl (.int x3), .inl (.int x4)] M = rX10_reagent 100000 0 [.inr (10, 0), .inl (.int x1), .inl (.int x2), .inl (.int x3), .inl (.int x4), am_D] [] M := am_meth_eq rfl rfl
set_option maxRecDepth 20000 in
theorem gX10_reagent_0 (k : Nat → List am_V → List am_V → am_M → am_R) (x1 : Int32) (x2 : Int32) (x3 : Int32) (x4 : Int32) (M : am_M) : gX10_reagent k 0 [.inr (10, 0), .inl (.int x1), .inl (.int x2), .inl (.int x3), .inl (.int x4), am_D] [] M =
  am_ret [] 4 [] (k 7 [.inr (10, 0), .inl (.int x1), .inl (.int x2), .inl (.int x3), .inl (.int x4), am_D]) (fX10_within [.inl (.int x1), .inl (.int 0), .inl (.int 7)] M) := (rfl)
theorem eX10_reagent_0 {n : Nat} {x1 : Int32} {x2 : Int32} {x3 : Int32} {x4 : Int32} {M : am_M} {res : am_O × am_M} (h : (am_ret [] 4 [] (rX10_reagent n 7 [.inr (10, 0), .inl (.int x1), .inl (.int x2), .inl (.int x3), .inl (.int x4), am_D]) (fX10_within [.inl (.int x1), .inl (.int 0), .inl (.int 7)] M)) = some res) : rX10_reagent (n + 100) 0 [.inr (10, 0), .inl (.int x1), .inl (.int x2), .inl (.int x3), .inl (.int x4), am_D] [] M = some res := uX10_reagent ((gX10_reagent_0 (rX10_reagent n) x1 x2 x3 x4 M).trans h)
set_option maxRecDepth 20000 in
theorem gX10_reagent_7 (k : Nat → List am_V → List am_V → am_M → am_R) (x1 : Int32) (x2 : Int32) (x3 : Int32) (x4 : Int32) (y0 : Int32) (M : am_M) : gX10_reagent k 7 [.inr (10, 0), .inl (.int x1), .inl (.int x2), .inl (.int x3), .inl (.int x4), am_D] [.inl (.int y0)] M =
  if y0 = 0 then
   some (.inl none, (am_put M 10 0 45 1))
  else am_ret [] 13 [] (k 16 [.inr (10, 0), .inl (.int x1), .inl (.int x2), .inl (.int x3), .inl (.int x4), am_D]) (fX10_within [.inl (.int x2), .inl (.int 0), .inl (.int 5)] M) := (rfl)
theorem eX10_reagent_7 {n : Nat} {x1 : Int32} {x2 : Int32} {x3 : Int32} {x4 : Int32} {y0 : Int32} {M : am_M} {res : am_O × am_M} (h : (if y0 = 0 then
   some (.inl none, (am_put M 10 0 45 1))
  else am_ret [] 13 [] (rX10_reagent n 16 [.inr (10, 0), .inl (.int x1), .inl (.int x2), .inl (.int x3), .inl (.int x4), am_D]) (fX10_within [.inl (.int x2), .inl (.int 0), .inl (.int 5)] M)) = some res) : rX10_reagent (n + 100) 7 [.inr (10, 0), .inl (.int x1), .inl (.int x2), .inl (.int x3), .inl (.int x4), am_D] [.inl (.int y0)] M = some res := uX10_reagent ((gX10_reagent_7 (rX10_reagent n) x1 x2 x3 x4 y0 M).trans h)
set_option maxRecDepth 20000 in
theorem gX10_reagent_16 (k : Nat → List am_V → List am_V → am_M → am_R) (x1 : Int32) (x2 : Int32) (x3 : Int32) (x4 : Int32) (y0 : Int32) (M : am_M) : gX10_reagent k 16 [.inr (10, 0), .inl (.int x1), .inl (.int x2), .inl (.int x3), .inl (.int x4), am_D] [.inl (.int y0)] M =
  if y0 = 0 then
   some (.inl none, (am_put M 10 0 45 1))
  else am_ret [] 23 [] (k 26 [.inr (10, 0), .inl (.int x1), .inl (.int x2), .inl (.int x3), .inl (.int x4), am_D]) (fX10_within [.inl (.int x3), .inl (.int 0), .inl (.int 100000)] M) := (rfl)
theorem eX10_reagent_16 {n : Nat} {x1 : Int32} {x2 : Int32} {x3 : Int32} {x4 : Int32} {y0 : Int32} {M : am_M} {res : am_O × am_M} (h : (if y0 = 0 then
   some (.inl none, (am_put M 10 0 45 1))
  else am_ret [] 23 [] (rX10_reagent n 26 [.inr (10, 0), .inl (.int x1), .inl (.int x2), .inl (.int x3), .inl (.int x4), am_D]) (fX10_within [.inl (.int x3), .inl (.int 0), .inl (.int 100000)] M)) = some res) : rX10_reagent (n + 100) 16 [.inr (10, 0), .inl (.int x1), .inl (.int x2), .inl (.int x3), .inl (.int x4), am_D] [.inl (.int y0)] M = some res := uX10_reagent ((gX10_reagent_16 (rX10_reagent n) x1 x2 x3 x4 y0 M).trans h)
set_option maxRecDepth 20000 in
theorem gX10_reagent_26 (k : Nat → List am_V → List am_V → am_M → am_R) (x1 : Int32) (x2 : Int32) (x3 : Int32) (x4 : Int32) (y0 : Int32) (M : am_M) : gX10_reagent k 26 [.inr (10, 0), .inl (.int x1), .inl (.int x2), .inl (.int x3), .inl (.int x4), am_D] [.inl (.int y0)] M =
  if y0 = 0 then
   some (.inl none, (am_put M 10 0 45 1))
  else if x4 < 0 then
   some (.inl none, (am_put M 10 0 45 1))
  else am_ret [] 53 [.inr (10, 0)] (k 56 [.inr (10, 0), .inl (.int x1), .inl (.int x2), .inl (.int x3), .inl (.int x4), .inl (.int 1)]) (fX10_reserved [.inr (10, 0), .inl (.int x1)] M) := (rfl)
theorem eX10_reagent_26 {n : Nat} {x1 : Int32} {x2 : Int32} {x3 : Int32} {x4 : Int32} {y0 : Int32} {M : am_M} {res : am_O × am_M} (h : (if y0 = 0 then
   some (.inl none, (am_put M 10 0 45 1))
  else if x4 < 0 then
   some (.inl none, (am_put M 10 0 45 1))
  else am_ret [] 53 [.inr (10, 0)] (rX10_reagent n 56 [.inr (10, 0), .inl (.int x1), .inl (.int x2), .inl (.int x3), .inl (.int x4), .inl (.int 1)]) (fX10_reserved [.inr (10, 0), .inl (.int x1)] M)) = some res) : rX10_reagent (n + 100) 26 [.inr (10, 0), .inl (.int x1), .inl (.int x2), .inl (.int x3), .inl (.int x4), am_D] [.inl (.int y0)] M = some res := uX10_reagent ((gX10_reagent_26 (rX10_reagent n) x1 x2 x3 x4 y0 M).trans h)
set_option maxRecDepth 20000 in
theorem gX10_reagent_56 (k : Nat → List am_V → List am_V → am_M → am_R) (x1 : Int32) (x2 : Int32) (x3 : Int32) (x4 : Int32) (x5 : Int32) (y0 : Int32) (M : am_M) : gX10_reagent k 56 [.inr (10, 0), .inl (.int x1), .inl (.int x2), .inl (.int x3), .inl (.int x4), .inl (.int x5)] [.inl (.int y0), .inr (10, 0)] M =
  if y0 ≤ 0 then
   if am_in x1 8 then
    if am_in x1 8 then
     if am_in x1 8 then
      some (.inl none, (am_put (am_put (am_put (am_put M 10 0 45 0) 40 0 (Int32.toNatClampNeg x1) x2) 41 0 (Int32.toNatClampNeg x1) x3) 42 0 (Int32.toNatClampNeg x1) x4))
     else none
    else none
   else none
  else some (.inl none, (am_put M 10 0 45 2)) := (rfl)
theorem eX10_reagent_56 {n : Nat} {x1 : Int32} {x2 : Int32} {x3 : Int32} {x4 : Int32} {x5 : Int32} {y0 : Int32} {M : am_M} {res : am_O × am_M} (h : (if y0 ≤ 0 then
   if am_in x1 8 then
    if am_in x1 8 then
     if am_in x1 8 then
      some (.inl none, (am_put (am_put (am_put (am_put M 10 0 45 0) 40 0 (Int32.toNatClampNeg x1) x2) 41 0 (Int32.toNatClampNeg x1) x3) 42 0 (Int32.toNatClampNeg x1) x4))
     else none
    else none
   else none
  else some (.inl none, (am_put M 10 0 45 2))) = some res) : rX10_reagent (n + 100) 56 [.inr (10, 0), .inl (.int x1), .inl (.int x2), .inl (.int x3), .inl (.int x4), .inl (.int x5)] [.inl (.int y0), .inr (10, 0)] M = some res := uX10_reagent ((gX10_reagent_56 (rX10_reagent n) x1 x2 x3 x4 x5 y0 M).trans h)
def rX10_forbid (n pc : Nat) (ls st : List am_V) (M : am_M) : am_R := am_run [fX10_within] [] 2 am_X0 pX10_forbid n pc ls st M
def gX10_forbid (k : Nat → List am_V → List am_V → am_M → am_R) (pc : Nat) (ls st : List am_V) (M : am_M) : am_R := am_go [fX10_within] [] 2 am_X0 pX10_forbid [7, 16] k 100 pc ls st M
theorem uX10_forbid {n pc : Nat} {ls st : List am_V} {M : am_M} {res : am_O × am_M} (h : gX10_forbid (rX10_forbid n) pc ls st M = some res) : rX10_forbid (n + 100) pc ls st M = some res := am_go_ok h
theorem eX10_forbid (x1 : Int32) (x2 : Int32) (M : am_M) : fX10_forbid [.inr (10, 0), .inl (.int x1), .inl (.int x2)] M = rX10_forbid 100000 0 [.inr (10, 0), .inl (.int x1), .inl (.int x2)] [] M := am_meth_eq rfl rfl
set_option maxRecDepth 20000 in
theorem gX10_forbid_0 (k : Nat → List am_V → List am_V → am_M → am_R) (x1 : Int32) (x2 : Int32) (M : am_M) : gX10_forbid k 0 [.inr (10, 0), .inl (.int x1), .inl (.int x2)] [] M =
  am_ret [] 4 [.inr (10, 0)] (k 7 [.inr (10, 0), .inl (.int x1), .inl (.int x2)]) (fX10_within [.inl (.int x1), .inl (.int 0), .inl (.int 5)] M) := (rfl)
theorem eX10_forbid_0 {n : Nat} {x1 : Int32} {x2 : Int32} {M : am_M} {res : am_O × am_M} (h : (am_ret [] 4 [.inr (10, 0)] (rX10_forbid n 7 [.inr (10, 0), .inl (.int x1), .inl (.int x2)]) (fX10_within [.inl (.int x1), .inl (.int 0), .inl (.int 5)] M)) = some res) : rX10_forbid (n + 100) 0 [.inr (10, 0), .inl (.int x1), .inl (.int x2)] [] M = some res := uX10_forbid ((gX10_forbid_0 (rX10_forbid n) x1 x2 M).trans h)
set_option maxRecDepth 20000 in
theorem gX10_forbid_7 (k : Nat → List am_V → List am_V → am_M → am_R) (x1 : Int32) (x2 : Int32) (y0 : Int32) (M : am_M) : gX10_forbid k 7 [.inr (10, 0), .inl (.int x1), .inl (.int x2)] [.inl (.int y0), .inr (10, 0)] M =
  if y0 = 0 then
   some (.inl (some (.inl (.int 0))), (am_put M 10 0 45 1))
  else am_ret [] 13 [.inr (10, 0)] (k 16 [.inr (10, 0), .inl (.int x1), .inl (.int x2)]) (fX10_within [.inl (.int x2), .inl (.int 0), .inl (.int 5)] M) := (rfl)
theorem eX10_forbid_7 {n : Nat} {x1 : Int32} {x2 : Int32} {y0 : Int32} {M : am_M} {res : am_O × am_M} (h : (if y0 = 0 then
   some (.inl (some (.inl (.int 0))), (am_put M 10 0 45 1))
  else am_ret [] 13 [.inr (10, 0)] (rX10_forbid n 16 [.inr (10, 0), .inl (.int x1), .inl (.int x2)]) (fX10_within [.inl (.int x2), .inl (.int 0), .inl (.int 5)] M)) = some res) : rX10_forbid (n + 100) 7 [.inr (10, 0), .inl (.int x1), .inl (.int x2)] [.inl (.int y0), .inr (10, 0)] M = some res := uX10_forbid ((gX10_forbid_7 (rX10_forbid n) x1 x2 y0 M).trans h)
set_option maxRecDepth 20000 in
theorem gX10_forbid_16 (k : Nat → List am_V → List am_V → am_M → am_R) (x1 : Int32) (x2 : Int32) (y0 : Int32) (M : am_M) : gX10_forbid k 16 [.inr (10, 0), .inl (.int x1), .inl (.int x2)] [.inl (.int y0), .inr (10, 0)] M =
  if y0 = 0 then
   some (.inl (some (.inl (.int 0))), (am_put M 10 0 45 1))
  else if am_in ((6 * x1) + x2) 36 then
   if (am_b (M 43 0 (Int32.toNatClampNeg ((6 * x1) + x2)))) = 0 then
    if am_in ((6 * x1) + x2) 36 ∧ am_b 1 = 1 then
     if am_in ((6 * x1) + x2) 36 then
      Option.map (fun o => (o, (am_put (am_put M 10 0 45 0) 43 0 (Int32.toNatClampNeg ((6 * x1) + x2)) 1))) (am_fin 2 .ireturn [.inr (10, 0), .inl (.int x1), .inl (.int x2)] [.inl (.int (am_b ((am_put (am_put M 10 0 45 0) 43 0 (Int32.toNatClampNeg ((6 * x1) + x2)) 1) 43 0 (Int32.toNatClampNeg ((6 * x1) + x2)))))])
     else none
    else none
   else if am_in ((6 * x1) + x2) 36 ∧ am_b 0 = 0 then
    if am_in ((6 * x1) + x2) 36 then
     Option.map (fun o => (o, (am_put (am_put M 10 0 45 0) 43 0 (Int32.toNatClampNeg ((6 * x1) + x2)) 0))) (am_fin 2 .ireturn [.inr (10, 0), .inl (.int x1), .inl (.int x2)] [.inl (.int (am_b ((am_put (am_put M 10 0 45 0) 43 0 (Int32.toNatClampNeg ((6 * x1) + x2)) 0) 43 0 (Int32.toNatClampNeg ((6 * x1) + x2)))))])
    else none
   else none
  else none := (rfl)
theorem eX10_forbid_16 {n : Nat} {x1 : Int32} {x2 : Int32} {y0 : Int32} {M : am_M} {res : am_O × am_M} (h : (if y0 = 0 then
   some (.inl (some (.inl (.int 0))), (am_put M 10 0 45 1))
  else if am_in ((6 * x1) + x2) 36 then
   if (am_b (M 43 0 (Int32.toNatClampNeg ((6 * x1) + x2)))) = 0 then
    if am_in ((6 * x1) + x2) 36 ∧ am_b 1 = 1 then
     if am_in ((6 * x1) + x2) 36 then
      Option.map (fun o => (o, (am_put (am_put M 10 0 45 0) 43 0 (Int32.toNatClampNeg ((6 * x1) + x2)) 1))) (am_fin 2 .ireturn [.inr (10, 0), .inl (.int x1), .inl (.int x2)] [.inl (.int (am_b ((am_put (am_put M 10 0 45 0) 43 0 (Int32.toNatClampNeg ((6 * x1) + x2)) 1) 43 0 (Int32.toNatClampNeg ((6 * x1) + x2)))))])
     else none
    else none
   else if am_in ((6 * x1) + x2) 36 ∧ am_b 0 = 0 then
    if am_in ((6 * x1) + x2) 36 then
     Option.map (fun o => (o, (am_put (am_put M 10 0 45 0) 43 0 (Int32.toNatClampNeg ((6 * x1) + x2)) 0))) (am_fin 2 .ireturn [.inr (10, 0), .inl (.int x1), .inl (.int x2)] [.inl (.int (am_b ((am_put (am_put M 10 0 45 0) 43 0 (Int32.toNatClampNeg ((6 * x1) + x2)) 0) 43 0 (Int32.toNatClampNeg ((6 * x1) + x2)))))])
    else none
   else none
  else none) = some res) : rX10_forbid (n + 100) 16 [.inr (10, 0), .inl (.int x1), .inl (.int x2)] [.inl (.int y0), .inr (10, 0)] M = some res := uX10_forbid ((gX10_forbid_16 (rX10_forbid n) x1 x2 y0 M).trans h)
def rX10_order (n pc : Nat) (ls st : List am_V) (M : am_M) : am_R := am_run [fX10_within, fX10_isTest] [] 1 am_X0 pX10_order n pc ls st M
def gX10_order (k : Nat → List am_V → List am_V → am_M → am_R) (pc : Nat) (ls st : List am_V) (M : am_M) : am_R := am_go [fX10_within, fX10_isTest] [] 1 am_X0 pX10_order [8, 15] k 100 pc ls st M
theorem uX10_order {n pc : Nat} {ls st : List am_V} {M : am_M} {res : am_O × am_M} (h : gX10_order (rX10_order n) pc ls st M = some res) : rX10_order (n + 100) pc ls st M = some res := am_go_ok h
theorem eX10_order (x1 : Int32) (x2 : Int32) (x3 : Int32) (M : am_M) : fX10_order [.inr (10, 0), .inl (.int x1), .inl (.int x2), .inl (.int x3)] M = rX10_order 100000 0 [.inr (10, 0), .inl (.int x1), .inl (.int x2), .inl (.int x3)] [] M := am_meth_eq rfl rfl
set_option maxRecDepth 20000 in
theorem gX10_order_0 (k : Nat → List am_V → List am_V → am_M → am_R) (x1 : Int32) (x2 : Int32) (x3 : Int32) (M : am_M) : gX10_order k 0 [.inr (10, 0), .inl (.int x1), .inl (.int x2), .inl (.int x3)] [] M =
  am_ret [] 5 [.inr (10, 0)] (k 8 [.inr (10, 0), .inl (.int x1), .inl (.int x2), .inl (.int x3)]) (fX10_within [.inl (.int x1), .inl (.int 1), .inl (.int 999999)] M) := (rfl)
theorem eX10_order_0 {n : Nat} {x1 : Int32} {x2 : Int32} {x3 : Int32} {M : am_M} {res : am_O × am_M} (h : (am_ret [] 5 [.inr (10, 0)] (rX10_order n 8 [.inr (10, 0), .inl (.int x1), .inl (.int x2), .inl (.int x3)]) (fX10_within [.inl (.int x1), .inl (.int 1), .inl (.int 999999)] M)) = some res) : rX10_order (n + 100) 0 [.inr (10, 0), .inl (.int x1), .inl (.int x2), .inl (.int x3)] [] M = some res := uX10_order ((gX10_order_0 (rX10_order n) x1 x2 x3 M).trans h)
set_option maxRecDepth 20000 in
theorem gX10_order_8 (k : Nat → List am_V → List am_V → am_M → am_R) (x1 : Int32) (x2 : Int32) (x3 : Int32) (y0 : Int32) (M : am_M) : gX10_order k 8 [.inr (10, 0), .inl (.int x1), .inl (.int x2), .inl (.int x3)] [.inl (.int y0), .inr (10, 0)] M =
  if y0 = 0 then
   some (.inl (some (.inl (.int 0))), (am_put M 10 0 45 1))
  else am_ret [] 12 [.inr (10, 0)] (k 15 [.inr (10, 0), .inl (.int x1), .inl (.int x2), .inl (.int x3)]) (fX10_isTest [.inl (.int x2)] M) := (rfl)
theorem eX10_order_8 {n : Nat} {x1 : Int32} {x2 : Int32} {x3 : Int32} {y0 : Int32} {M : am_M} {res : am_O × am_M} (h : (if y0 = 0 then
   some (.inl (some (.inl (.int 0))), (am_put M 10 0 45 1))
  else am_ret [] 12 [.inr (10, 0)] (rX10_order n 15 [.inr (10, 0), .inl (.int x1), .inl (.int x2), .inl (.int x3)]) (fX10_isTest [.inl (.int x2)] M)) = some res) : rX10_order (n + 100) 8 [.inr (10, 0), .inl (.int x1), .inl (.int x2), .inl (.int x3)] [.inl (.int y0), .inr (10, 0)] M = some res := uX10_order ((gX10_order_8 (rX10_order n) x1 x2 x3 y0 M).trans h)
set_option maxRecDepth 20000 in
theorem gX10_order_15 (k : Nat → List am_V → List am_V → am_M → am_R) (x1 : Int32) (x2 : Int32) (x3 : Int32) (y0 : Int32) (M : am_M) : gX10_order k 15 [.inr (10, 0), .inl (.int x1), .inl (.int x2), .inl (.int x3)] [.inl (.int y0), .inr (10, 0)] M =
  if y0 = 0 then
   some (.inl (some (.inl (.int 0))), (am_put M 10 0 45 1))
  else if am_in x2 4 then
   if (am_b (M 31 0 (Int32.toNatClampNeg x2))) = 0 then
    some (.inl (some (.inl (.int 0))), (am_put M 10 0 45 2))
   else if (M 10 0 14) = 40 then
    some (.inl (some (.inl (.int 0))), (am_put M 10 0 45 2))
   else if am_in (M 10 0 14) 40 then
    if am_in (M 10 0 14) 40 then
     if am_in (M 10 0 14) 40 ∧ am_b x3 = x3 then
      if am_in (M 10 0 14) 40 then
       some (.inl (some (.inl (.int (((M 10 0 14) + 1) - 1)))), (am_put (am_put (am_put (am_put (am_put (am_put M 10 0 45 0) 45 0 (Int32.toNatClampNeg (M 10 0 14)) x1) 46 0 (Int32.toNatClampNeg (M 10 0 14)) x2) 47 0 (Int32.toNatClampNeg (M 10 0 14)) x3) 51 0 (Int32.toNatClampNeg (M 10 0 14)) (-1)) 10 0 14 ((M 10 0 14) + 1)))
      else none
     else none
    else none
   else none
  else none := (rfl)
theorem eX10_order_15 {n : Nat} {x1 : Int32} {x2 : Int32} {x3 : Int32} {y0 : Int32} {M : am_M} {res : am_O × am_M} (h : (if y0 = 0 then
   some (.inl (some (.inl (.int 0))), (am_put M 10 0 45 1))
  else if am_in x2 4 then
   if (am_b (M 31 0 (Int32.toNatClampNeg x2))) = 0 then
    some (.inl (some (.inl (.int 0))), (am_put M 10 0 45 2))
   else if (M 10 0 14) = 40 then
    some (.inl (some (.inl (.int 0))), (am_put M 10 0 45 2))
   else if am_in (M 10 0 14) 40 then
    if am_in (M 10 0 14) 40 then
     if am_in (M 10 0 14) 40 ∧ am_b x3 = x3 then
      if am_in (M 10 0 14) 40 then
       some (.inl (some (.inl (.int (((M 10 0 14) + 1) - 1)))), (am_put (am_put (am_put (am_put (am_put (am_put M 10 0 45 0) 45 0 (Int32.toNatClampNeg (M 10 0 14)) x1) 46 0 (Int32.toNatClampNeg (M 10 0 14)) x2) 47 0 (Int32.toNatClampNeg (M 10 0 14)) x3) 51 0 (Int32.toNatClampNeg (M 10 0 14)) (-1)) 10 0 14 ((M 10 0 14) + 1)))
      else none
     else none
    else none
   else none
  else none) = some res) : rX10_order (n + 100) 15 [.inr (10, 0), .inl (.int x1), .inl (.int x2), .inl (.int x3)] [.inl (.int y0), .inr (10, 0)] M = some res := uX10_order ((gX10_order_15 (rX10_order n) x1 x2 x3 y0 M).trans h)
