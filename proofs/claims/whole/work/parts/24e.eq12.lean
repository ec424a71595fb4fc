/-! ===== the runs, piece by piece ===== -/
def rX9_cuvette (n pc : Nat) (ls st : List am_V) (M : am_M) : am_R := am_run [fX9_isWithin, fX9_demandArgument] [] 1 am_X0 pX9_cuvette n pc ls st M
def gX9_cuvette (k : Nat → List am_V → List am_V → am_M → am_R) (pc : Nat) (ls st : List am_V) (M : am_M) : am_R := am_go [fX9_isWithin, fX9_demandArgument] [] 1 am_X0 pX9_cuvette [7, 16, 27] k 100 pc ls st M
theorem uX9_cuvette {n pc : Nat} {ls st : List am_V} {M : am_M} {res : am_O × am_M} (h : gX9_cuvette (rX9_cuvette n) pc ls st M = some res) : rX9_cuvette (n + 100) pc ls st M = some res := am_go_ok h
theorem eX9_cuvette (x1 : Int32) (x2 : Int32) (M : am_M) : fX9_cuvette [.inr (9, 0), .inl (.int x1), .inl (.int x2)] M = rX9_cuvette 100000 0 [.inr (9, 0), .inl (.int x1), .inl (.int x2), am_D] [] M := am_meth_eq rfl rfl
set_option maxRecDepth 20000 in
theorem gX9_cuvette_0 (k : Nat → List am_V → List am_V → am_M → am_R) (x1 : Int32) (x2 : Int32) (M : am_M) : gX9_cuvette k 0 [.inr (9, 0), .inl (.int x1), .inl (.int x2), am_D] [] M =
  am_ret [] 4 [] (k 7 [.inr (9, 0), .inl (.int x1), .inl (.int x2), am_D]) (fX9_isWithin [.inl (.int x1), .inl (.int 0), .inl (.int 9)] M) := (rfl)
theorem eX9_cuvette_0 {n : Nat} {x1 : Int32} {x2 : Int32} {M : am_M} {res : am_O × am_M} (h : (am_ret [] 4 [] (rX9_cuvette n 7 [.inr (9, 0), .inl (.int x1), .inl (.int x2), am_D]) (fX9_isWithin [.inl (.int x1), .inl (.int 0), .inl (.int 9)] M)) = some res) : rX9_cuvette (n + 100) 0 [.inr (9, 0), .inl (.int x1), .inl (.int x2), am_D] [] M = some res := uX9_cuvette ((gX9_cuvette_0 (rX9_cuvette n) x1 x2 M).trans h)
set_option maxRecDepth 20000 in
theorem gX9_cuvette_7 (k : Nat → List am_V → List am_V → am_M → am_R) (x1 : Int32) (x2 : Int32) (y0 : Int32) (M : am_M) : gX9_cuvette k 7 [.inr (9, 0), .inl (.int x1), .inl (.int x2), am_D] [.inl (.int y0)] M =
  if y0 = 0 then
   am_ret [] 24 [] (k 27 [.inr (9, 0), .inl (.int x1), .inl (.int x2), am_D]) (fX9_demandArgument [.inl (.int 0)] M)
  else am_ret [] 13 [] (k 16 [.inr (9, 0), .inl (.int x1), .inl (.int x2), am_D]) (fX9_isWithin [.inl (.int x2), .inl (.int 0), .inl (.int 2)] M) := (rfl)
theorem eX9_cuvette_7 {n : Nat} {x1 : Int32} {x2 : Int32} {y0 : Int32} {M : am_M} {res : am_O × am_M} (h : (if y0 = 0 then
   am_ret [] 24 [] (rX9_cuvette n 27 [.inr (9, 0), .inl (.int x1), .inl (.int x2), am_D]) (fX9_demandArgument [.inl (.int 0)] M)
  else am_ret [] 13 [] (rX9_cuvette n 16 [.inr (9, 0), .inl (.int x1), .inl (.int x2), am_D]) (fX9_isWithin [.inl (.int x2), .inl (.int 0), .inl (.int 2)] M)) = some res) : rX9_cuvette (n + 100) 7 [.inr (9, 0), .inl (.int x1), .inl (.int x2), am_D] [.inl (.int y0)] M = some res := uX9_cuvette ((gX9_cuvette_7 (rX9_cuvette n) x1 x2 y0 M).trans h)
set_option maxRecDepth 20000 in
theorem gX9_cuvette_27 (k : Nat → List am_V → List am_V → am_M → am_R) (x1 : Int32) (x2 : Int32) (M : am_M) : gX9_cuvette k 27 [.inr (9, 0), .inl (.int x1), .inl (.int x2), am_D] [] M =
  if am_in x1 10 then
   if x2 = 0 then
    some (.inl (some (.inl (.int (M 1 (Int32.toNatClampNeg x1) 5)))), M)
   else if x2 = 1 then
    some (.inl (some (.inl (.int (M 1 (Int32.toNatClampNeg x1) 8)))), M)
   else some (.inl (some (.inl (.int (M 1 (Int32.toNatClampNeg x1) 9)))), M)
  else none := (rfl)
theorem eX9_cuvette_27 {n : Nat} {x1 : Int32} {x2 : Int32} {M : am_M} {res : am_O × am_M} (h : (if am_in x1 10 then
   if x2 = 0 then
    some (.inl (some (.inl (.int (M 1 (Int32.toNatClampNeg x1) 5)))), M)
   else if x2 = 1 then
    some (.inl (some (.inl (.int (M 1 (Int32.toNatClampNeg x1) 8)))), M)
   else some (.inl (some (.inl (.int (M 1 (Int32.toNatClampNeg x1) 9)))), M)
  else none) = some res) : rX9_cuvette (n + 100) 27 [.inr (9, 0), .inl (.int x1), .inl (.int x2), am_D] [] M = some res := uX9_cuvette ((gX9_cuvette_27 (rX9_cuvette n) x1 x2 M).trans h)
set_option maxRecDepth 20000 in
theorem gX9_cuvette_16 (k : Nat → List am_V → List am_V → am_M → am_R) (x1 : Int32) (x2 : Int32) (y0 : Int32) (M : am_M) : gX9_cuvette k 16 [.inr (9, 0), .inl (.int x1), .inl (.int x2), am_D] [.inl (.int y0)] M =
  if y0 = 0 then
   am_ret [] 24 [] (k 27 [.inr (9, 0), .inl (.int x1), .inl (.int x2), am_D]) (fX9_demandArgument [.inl (.int 0)] M)
  else am_ret [] 24 [] (k 27 [.inr (9, 0), .inl (.int x1), .inl (.int x2), am_D]) (fX9_demandArgument [.inl (.int 1)] M) := (rfl)
theorem eX9_cuvette_16 {n : Nat} {x1 : Int32} {x2 : Int32} {y0 : Int32} {M : am_M} {res : am_O × am_M} (h : (if y0 = 0 then
   am_ret [] 24 [] (rX9_cuvette n 27 [.inr (9, 0), .inl (.int x1), .inl (.int x2), am_D]) (fX9_demandArgument [.inl (.int 0)] M)
  else am_ret [] 24 [] (rX9_cuvette n 27 [.inr (9, 0), .inl (.int x1), .inl (.int x2), am_D]) (fX9_demandArgument [.inl (.int 1)] M)) = some res) : rX9_cuvette (n + 100) 16 [.inr (9, 0), .inl (.int x1), .inl (.int x2), am_D] [.inl (.int y0)] M = some res := uX9_cuvette ((gX9_cuvette_16 (rX9_cuvette n) x1 x2 y0 M).trans h)
def rX9_volume (n pc : Nat) (ls st : List am_V) (M : am_M) : am_R := am_run [fX9_isWithin, fX9_demandArgument, fX8_isEmpty, fX9_demandElement, fX5_isEmpty] [] 1 am_X0 pX9_volume n pc ls st M
def gX9_volume (k : Nat → List am_V → List am_V → am_M → am_R) (pc : Nat) (ls st : List am_V) (M : am_M) : am_R := am_go [fX9_isWithin, fX9_demandArgument, fX8_isEmpty, fX9_demandElement, fX5_isEmpty] [] 1 am_X0 pX9_volume [6, 27, 38, 51, 62, 81, 92] k 100 pc ls st M
theorem uX9_volume {n pc : Nat} {ls st : List am_V} {M : am_M} {res : am_O × am_M} (h : gX9_volume (rX9_volume n) pc ls st M = some res) : rX9_volume (n + 100) pc ls st M = some res := am_go_ok h
theorem eX9_volume (x1 : Int32) (x2 : Int32) (M : am_M) : fX9_volume [.inr (9, 0), .inl (.int x1), .inl (.int x2)] M = rX9_volume 100000 0 [.inr (9, 0), .inl (.int x1), .inl (.int x2)] [] M := am_meth_eq rfl rfl
set_option maxRecDepth 20000 in
theorem gX9_volume_0 (k : Nat → List am_V → List am_V → am_M → am_R) (x1 : Int32) (x2 : Int32) (M : am_M) : gX9_volume k 0 [.inr (9, 0), .inl (.int x1), .inl (.int x2)] [] M =
  am_ret [] 3 [] (k 6 [.inr (9, 0), .inl (.int x1), .inl (.int x2)]) (fX9_isWithin [.inl (.int x1), .inl (.int 0), .inl (.int 2)] M) := (rfl)
theorem eX9_volume_0 {n : Nat} {x1 : Int32} {x2 : Int32} {M : am_M} {res : am_O × am_M} (h : (am_ret [] 3 [] (rX9_volume n 6 [.inr (9, 0), .inl (.int x1), .inl (.int x2)]) (fX9_isWithin [.inl (.int x1), .inl (.int 0), .inl (.int 2)] M)) = some res) : rX9_volume (n + 100) 0 [.inr (9, 0), .inl (.int x1), .inl (.int x2)] [] M = some res := uX9_volume ((gX9_volume_0 (rX9_volume n) x1 x2 M).trans h)
set_option maxRecDepth 20000 in
theorem gX9_volume_6 (k : Nat → List am_V → List am_V → am_M → am_R) (x1 : Int32) (x2 : Int32) (y0 : Int32) (M : am_M) : gX9_volume k 6 [.inr (9, 0), .inl (.int x1), .inl (.int x2)] [.inl (.int y0)] M =
  if y0 = 0 then
   am_ret [] 35 [] (k 38 [.inr (9, 0), .inl (.int x1), .inl (.int x2)]) (fX9_demandArgument [.inl (.int 0)] M)
  else if x1 = 0 then
   am_ret [] 24 [] (k 27 [.inr (9, 0), .inl (.int x1), .inl (.int x2)]) (fX9_isWithin [.inl (.int x2), .inl (.int 0), .inl (.int 5)] M)
  else am_ret [] 24 [] (k 27 [.inr (9, 0), .inl (.int x1), .inl (.int x2)]) (fX9_isWithin [.inl (.int x2), .inl (.int 0), .inl (.int 7)] M) := (rfl)
theorem eX9_volume_6 {n : Nat} {x1 : Int32} {x2 : Int32} {y0 : Int32} {M : am_M} {res : am_O × am_M} (h : (if y0 = 0 then
   am_ret [] 35 [] (rX9_volume n 38 [.inr (9, 0), .inl (.int x1), .inl (.int x2)]) (fX9_demandArgument [.inl (.int 0)] M)
  else if x1 = 0 then
   am_ret [] 24 [] (rX9_volume n 27 [.inr (9, 0), .inl (.int x1), .inl (.int x2)]) (fX9_isWithin [.inl (.int x2), .inl (.int 0), .inl (.int 5)] M)
  else am_ret [] 24 [] (rX9_volume n 27 [.inr (9, 0), .inl (.int x1), .inl (.int x2)]) (fX9_isWithin [.inl (.int x2), .inl (.int 0), .inl (.int 7)] M)) = some res) : rX9_volume (n + 100) 6 [.inr (9, 0), .inl (.int x1), .inl (.int x2)] [.inl (.int y0)] M = some res := uX9_volume ((gX9_volume_6 (rX9_volume n) x1 x2 y0 M).trans h)
set_option maxRecDepth 20000 in
theorem gX9_volume_38 (k : Nat → List am_V → List am_V → am_M → am_R) (x1 : Int32) (x2 : Int32) (M : am_M) : gX9_volume k 38 [.inr (9, 0), .inl (.int x1), .inl (.int x2)] [] M =
  if x1 = 0 then
   if am_in x2 6 then
    am_ret [] 48 [] (k 51 [.inr (9, 0), .inl (.int x1), .inl (.int x2)]) (fX8_isEmpty [.inr (8, (Int32.toNatClampNeg x2))] M)
   else none
  else if am_in x2 8 then
   am_ret [] 78 [] (k 81 [.inr (9, 0), .inl (.int x1), .inl (.int x2)]) (fX5_isEmpty [.inr (5, (Int32.toNatClampNeg x2))] M)
  else none := (rfl)
theorem eX9_volume_38 {n : Nat} {x1 : Int32} {x2 : Int32} {M : am_M} {res : am_O × am_M} (h : (if x1 = 0 then
   if am_in x2 6 then
    am_ret [] 48 [] (rX9_volume n 51 [.inr (9, 0), .inl (.int x1), .inl (.int x2)]) (fX8_isEmpty [.inr (8, (Int32.toNatClampNeg x2))] M)
   else none
  else if am_in x2 8 then
   am_ret [] 78 [] (rX9_volume n 81 [.inr (9, 0), .inl (.int x1), .inl (.int x2)]) (fX5_isEmpty [.inr (5, (Int32.toNatClampNeg x2))] M)
  else none) = some res) : rX9_volume (n + 100) 38 [.inr (9, 0), .inl (.int x1), .inl (.int x2)] [] M = some res := uX9_volume ((gX9_volume_38 (rX9_volume n) x1 x2 M).trans h)
set_option maxRecDepth 20000 in
theorem gX9_volume_27 (k : Nat → List am_V → List am_V → am_M → am_R) (x1 : Int32) (x2 : Int32) (y0 : Int32) (M : am_M) : gX9_volume k 27 [.inr (9, 0), .inl (.int x1), .inl (.int x2)] [.inl (.int y0)] M =
  if y0 = 0 then
   am_ret [] 35 [] (k 38 [.inr (9, 0), .inl (.int x1), .inl (.int x2)]) (fX9_demandArgument [.inl (.int 0)] M)
  else am_ret [] 35 [] (k 38 [.inr (9, 0), .inl (.int x1), .inl (.int x2)]) (fX9_demandArgument [.inl (.int 1)] M) := (rfl)
theorem eX9_volume_27 {n : Nat} {x1 : Int32} {x2 : Int32} {y0 : Int32} {M : am_M} {res : am_O × am_M} (h : (if y0 = 0 then
   am_ret [] 35 [] (rX9_volume n 38 [.inr (9, 0), .inl (.int x1), .inl (.int x2)]) (fX9_demandArgument [.inl (.int 0)] M)
  else am_ret [] 35 [] (rX9_volume n 38 [.inr (9, 0), .inl (.int x1), .inl (.int x2)]) (fX9_demandArgument [.inl (.int 1)] M)) = some res) : rX9_volume (n + 100) 27 [.inr (9, 0), .inl (.int x1), .inl (.int x2)] [.inl (.int y0)] M = some res := uX9_volume ((gX9_volume_27 (rX9_volume n) x1 x2 y0 M).trans h)
set_option maxRecDepth 20000 in
theorem gX9_volume_51 (k : Nat → List am_V → List am_V → am_M → am_R) (x1 : Int32) (x2 : Int32) (y0 : Int32) (M : am_M) : gX9_volume k 51 [.inr (9, 0), .inl (.int x1), .inl (.int x2)] [.inl (.int y0)] M =
  if y0 = 0 then
   am_ret [] 59 [] (k 62 [.inr (9, 0), .inl (.int x1), .inl (.int x2)]) (fX9_demandElement [.inl (.int 1)] M)
  else am_ret [] 59 [] (k 62 [.inr (9, 0), .inl (.int x1), .inl (.int x2)]) (fX9_demandElement [.inl (.int 0)] M) := (rfl)
theorem eX9_volume_51 {n : Nat} {x1 : Int32} {x2 : Int32} {y0 : Int32} {M : am_M} {res : am_O × am_M} (h : (if y0 = 0 then
   am_ret [] 59 [] (rX9_volume n 62 [.inr (9, 0), .inl (.int x1), .inl (.int x2)]) (fX9_demandElement [.inl (.int 1)] M)
  else am_ret [] 59 [] (rX9_volume n 62 [.inr (9, 0), .inl (.int x1), .inl (.int x2)]) (fX9_demandElement [.inl (.int 0)] M)) = some res) : rX9_volume (n + 100) 51 [.inr (9, 0), .inl (.int x1), .inl (.int x2)] [.inl (.int y0)] M = some res := uX9_volume ((gX9_volume_51 (rX9_volume n) x1 x2 y0 M).trans h)
set_option maxRecDepth 20000 in
theorem gX9_volume_81 (k : Nat → List am_V → List am_V → am_M → am_R) (x1 : Int32) (x2 : Int32) (y0 : Int32) (M : am_M) : gX9_volume k 81 [.inr (9, 0), .inl (.int x1), .inl (.int x2)] [.inl (.int y0)] M =
  if y0 = 0 then
   am_ret [] 89 [] (k 92 [.inr (9, 0), .inl (.int x1), .inl (.int x2)]) (fX9_demandElement [.inl (.int 1)] M)
  else am_ret [] 89 [] (k 92 [.inr (9, 0), .inl (.int x1), .inl (.int x2)]) (fX9_demandElement [.inl (.int 0)] M) := (rfl)
theorem eX9_volume_81 {n : Nat} {x1 : Int32} {x2 : Int32} {y0 : Int32} {M : am_M} {res : am_O × am_M} (h : (if y0 = 0 then
   am_ret [] 89 [] (rX9_volume n 92 [.inr (9, 0), .inl (.int x1), .inl (.int x2)]) (fX9_demandElement [.inl (.int 1)] M)
  else am_ret [] 89 [] (rX9_volume n 92 [.inr (9, 0), .inl (.int x1), .inl (.int x2)]) (fX9_demandElement [.inl (.int 0)] M)) = some res) : rX9_volume (n + 100) 81 [.inr (9, 0), .inl (.int x1), .inl (.int x2)] [.inl (.int y0)] M = some res := uX9_volume ((gX9_volume_81 (rX9_volume n) x1 x2 y0 M).trans h)
set_option maxRecDepth 20000 in
theorem gX9_volume_62 (k : Nat → List am_V → List am_V → am_M → am_R) (x1 : Int32) (x2 : Int32) (M : am_M) : gX9_volume k 62 [.inr (9, 0), .inl (.int x1), .inl (.int x2)] [] M =
  if am_in x2 6 then
   some (.inl (some (.inl (.int (M 8 (Int32.toNatClampNeg x2) 2)))), M)
  else none := (rfl)
theorem eX9_volume_62 {n : Nat} {x1 : Int32} {x2 : Int32} {M : am_M} {res : am_O × am_M} (h : (if am_in x2 6 then
   some (.inl (some (.inl (.int (M 8 (Int32.toNatClampNeg x2) 2)))), M)
  else none) = some res) : rX9_volume (n + 100) 62 [.inr (9, 0), .inl (.int x1), .inl (.int x2)] [] M = some res := uX9_volume ((gX9_volume_62 (rX9_volume n) x1 x2 M).trans h)
set_option maxRecDepth 20000 in
theorem gX9_volume_92 (k : Nat → List am_V → List am_V → am_M → am_R) (x1 : Int32) (x2 : Int32) (M : am_M) : gX9_volume k 92 [.inr (9, 0), .inl (.int x1), .inl (.int x2)] [] M =
  if x1 = 1 then
   if am_in x2 8 then
    some (.inl (some (.inl (.int (M 5 (Int32.toNatClampNeg x2) 1)))), M)
   else none
  else if am_in x2 8 then
   some (.inl (some (.inl (.int (M 5 (Int32.toNatClampNeg x2) 2)))), M)
  else none := (rfl)
theorem eX9_volume_92 {n : Nat} {x1 : Int32} {x2 : Int32} {M : am_M} {res : am_O × am_M} (h : (if x1 = 1 then
   if am_in x2 8 then
    some (.inl (some (.inl (.int (M 5 (Int32.toNatClampNeg x2) 1)))), M)
   else none
  else if am_in x2 8 then
   some (.inl (some (.inl (.int (M 5 (Int32.toNatClampNeg x2) 2)))), M)
  else none) = some res) : rX9_volume (n + 100) 92 [.inr (9, 0), .inl (.int x1), .inl (.int x2)] [] M = some res := uX9_volume ((gX9_volume_92 (rX9_volume n) x1 x2 M).trans h)
def rX9_trend (n pc : Nat) (ls st : List am_V) (M : am_M) : am_R := am_run [fX9_isWithin, fX9_demandArgument, fX9_demandIndex, fX2_fromLatest] [] 1 am_X0 pX9_trend n pc ls st M
def gX9_trend (k : Nat → List am_V → List am_V → am_M → am_R) (pc : Nat) (ls st : List am_V) (M : am_M) : am_R := am_go [fX9_isWithin, fX9_demandArgument, fX9_demandIndex, fX2_fromLatest] [] 1 am_X0 pX9_trend [6, 9, 30, 33, 38] k 100 pc ls st M
theorem uX9_trend {n pc : Nat} {ls st : List am_V} {M : am_M} {res : am_O × am_M} (h : gX9_trend (rX9_trend n) pc ls st M = some res) : rX9_trend (n + 100) pc ls st M = some res := am_go_ok h
theorem eX9_trend (x1 : Int32) (x2 : Int32) (M : am_M) : fX9_trend [.inr (9, 0), .inl (.int x1), .inl (.int x2)] M = rX9_trend 100000 0 [.inr (9, 0), .inl (.int x1), .inl (.int x2), am_D] [] M := am_meth_eq rfl rfl
set_option maxRecDepth 20000 in
theorem gX9_trend_0 (k : Nat → List am_V → List am_V → am_M → am_R) (x1 : Int32) (x2 : Int32) (M : am_M) : gX9_trend k 0 [.inr (9, 0), .inl (.int x1), .inl (.int x2), am_D] [] M =
  am_ret [] 3 [] (k 6 [.inr (9, 0), .inl (.int x1), .inl (.int x2), am_D]) (fX9_isWithin [.inl (.int x1), .inl (.int 0), .inl (.int 3)] M) := (rfl)
theorem eX9_trend_0 {n : Nat} {x1 : Int32} {x2 : Int32} {M : am_M} {res : am_O × am_M} (h : (am_ret [] 3 [] (rX9_trend n 6 [.inr (9, 0), .inl (.int x1), .inl (.int x2), am_D]) (fX9_isWithin [.inl (.int x1), .inl (.int 0), .inl (.int 3)] M)) = some res) : rX9_trend (n + 100) 0 [.inr (9, 0), .inl (.int x1), .inl (.int x2), am_D] [] M = some res := uX9_trend ((gX9_trend_0 (rX9_trend n) x1 x2 M).trans h)
set_option maxRecDepth 20000 in
theorem gX9_trend_6 (k : Nat → List am_V → List am_V → am_M → am_R) (x1 : Int32) (x2 : Int32) (y0 : Int32) (M : am_M) : gX9_trend k 6 [.inr (9, 0), .inl (.int x1), .inl (.int x2), am_D] [.inl (.int y0)] M =
  am_ret [] 6 [] (k 9 [.inr (9, 0), .inl (.int x1), .inl (.int x2), am_D]) (fX9_demandArgument [.inl (.int y0)] M) := (rfl)
theorem eX9_trend_6 {n : Nat} {x1 : Int32} {x2 : Int32} {y0 : Int32} {M : am_M} {res : am_O × am_M} (h : (am_ret [] 6 [] (rX9_trend n 9 [.inr (9, 0), .inl (.int x1), .inl (.int x2), am_D]) (fX9_demandArgument [.inl (.int y0)] M)) = some res) : rX9_trend (n + 100) 6 [.inr (9, 0), .inl (.int x1), .inl (.int x2), am_D] [.inl (.int y0)] M = some res := uX9_trend ((gX9_trend_6 (rX9_trend n) x1 x2 y0 M).trans h)
set_option maxRecDepth 20000 in
theorem gX9_trend_9 (k : Nat → List am_V → List am_V → am_M → am_R) (x1 : Int32) (x2 : Int32) (M : am_M) : gX9_trend k 9 [.inr (9, 0), .inl (.int x1), .inl (.int x2), am_D] [] M =
  if am_in x1 4 then
   am_ret [] 27 [] (k 30 [.inr (9, 0), .inl (.int x1), .inl (.int x2), .inr (2, (Int32.toNatClampNeg x1))]) (fX9_isWithin [.inl (.int x2), .inl (.int 0), .inl (.int ((M 2 (Int32.toNatClampNeg x1) 1) - 1))] M)
  else none := (rfl)
theorem eX9_trend_9 {n : Nat} {x1 : Int32} {x2 : Int32} {M : am_M} {res : am_O × am_M} (h : (if am_in x1 4 then
   am_ret [] 27 [] (rX9_trend n 30 [.inr (9, 0), .inl (.int x1), .inl (.int x2), .inr (2, (Int32.toNatClampNeg x1))]) (fX9_isWithin [.inl (.int x2), .inl (.int 0), .inl (.int ((M 2 (Int32.toNatClampNeg x1) 1) - 1))] M)
  else none) = some res) : rX9_trend (n + 100) 9 [.inr (9, 0), .inl (.int x1), .inl (.int x2), am_D] [] M = some res := uX9_trend ((gX9_trend_9 (rX9_trend n) x1 x2 M).trans h)
set_option maxRecDepth 20000 in
theorem gX9_trend_30 (k : Nat → List am_V → List am_V → am_M → am_R) (x1 : Int32) (x2 : Int32) (x3 : Nat) (y0 : Int32) (M : am_M) : gX9_trend k 30 [.inr (9, 0), .inl (.int x1), .inl (.int x2), .inr (2, x3)] [.inl (.int y0)] M =
  am_ret [] 30 [] (k 33 [.inr (9, 0), .inl (.int x1), .inl (.int x2), .inr (2, x3)]) (fX9_demandIndex [.inl (.int y0)] M) := (rfl)
theorem eX9_trend_30 {n : Nat} {x1 : Int32} {x2 : Int32} {x3 : Nat} {y0 : Int32} {M : am_M} {res : am_O × am_M} (h : (am_ret [] 30 [] (rX9_trend n 33 [.inr (9, 0), .inl (.int x1), .inl (.int x2), .inr (2, x3)]) (fX9_demandIndex [.inl (.int y0)] M)) = some res) : rX9_trend (n + 100) 30 [.inr (9, 0), .inl (.int x1), .inl (.int x2), .inr (2, x3)] [.inl (.int y0)] M = some res := uX9_trend ((gX9_trend_30 (rX9_trend n) x1 x2 x3 y0 M).trans h)
set_option maxRecDepth 20000 in
theorem gX9_trend_33 (k : Nat → List am_V → List am_V → am_M → am_R) (x1 : Int32) (x2 : Int32) (x3 : Nat) (M : am_M) : gX9_trend k 33 [.inr (9, 0), .inl (.int x1), .inl (.int x2), .inr (2, x3)] [] M =
  am_ret [] 35 [] (k 38 [.inr (9, 0), .inl (.int x1), .inl (.int x2), .inr (2, x3)]) (fX2_fromLatest [.inr (2, x3), .inl (.int x2)] M) := (rfl)
theorem eX9_trend_33 {n : Nat} {x1 : Int32} {x2 : Int32} {x3 : Nat} {M : am_M} {res : am_O × am_M} (h : (am_ret [] 35 [] (rX9_trend n 38 [.inr (9, 0), .inl (.int x1), .inl (.int x2), .inr (2, x3)]) (fX2_fromLatest [.inr (2, x3), .inl (.int x2)] M)) = some res) : rX9_trend (n + 100) 33 [.inr (9, 0), .inl (.int x1), .inl (.int x2), .inr (2, x3)] [] M = some res := uX9_trend ((gX9_trend_33 (rX9_trend n) x1 x2 x3 M).trans h)
set_option maxRecDepth 20000 in
theorem gX9_trend_38 (k : Nat → List am_V → List am_V → am_M → am_R) (x1 : Int32) (x2 : Int32) (x3 : Nat) (y0 : Int32) (M : am_M) : gX9_trend k 38 [.inr (9, 0), .inl (.int x1), .inl (.int x2), .inr (2, x3)] [.inl (.int y0)] M =
  some (.inl (some (.inl (.int y0))), M) := (rfl)
theorem eX9_trend_38 {n : Nat} {x1 : Int32} {x2 : Int32} {x3 : Nat} {y0 : Int32} {M : am_M} {res : am_O × am_M} (h : (some (.inl (some (.inl (.int y0))), M)) = some res) : rX9_trend (n + 100) 38 [.inr (9, 0), .inl (.int x1), .inl (.int x2), .inr (2, x3)] [.inl (.int y0)] M = some res := uX9_trend ((gX9_trend_38 (rX9_trend n) x1 x2 x3 y0 M).trans h)
def rX9_rules (n pc : Nat) (ls st : List am_V) (M : am_M) : am_R := am_run [fX9_isWithin, fX9_demandArgument, fX6_brokenRules] [] 1 am_X0 pX9_rules n pc ls st M
def gX9_rules (k : Nat → List am_V → List am_V → am_M → am_R) (pc : Nat) (ls st : List am_V) (M : am_M) : am_R := am_go [fX9_isWithin, fX9_demandArgument, fX6_brokenRules] [] 1 am_X0 pX9_rules [6, 9, 18] k 100 pc ls st M
theorem uX9_rules {n pc : Nat} {ls st : List am_V} {M : am_M} {res : am_O × am_M} (h : gX9_rules (rX9_rules n) pc ls st M = some res) : rX9_rules (n + 100) pc ls st M = some res := am_go_ok h
theorem eX9_rules (x1 : Int32) (M : am_M) : fX9_rules [.inr (9, 0), .inl (.int x1)] M = rX9_rules 100000 0 [.inr (9, 0), .inl (.int x1)] [] M := am_meth_eq rfl rfl
set_option maxRecDepth 20000 in
theorem gX9_rules_0 (k : Nat → List am_V → List am_V → am_M → am_R) (x1 : Int32) (M : am_M) : gX9_rules k 0 [.inr (9, 0), .inl (.int x1)] [] M =
  am_ret [] 3 [] (k 6 [.inr (9, 0), .inl (.int x1)]) (fX9_isWithin [.inl (.int x1), .inl (.int 0), .inl (.int 3)] M) := (rfl)
theorem eX9_rules_0 {n : Nat} {x1 : Int32} {M : am_M} {res : am_O × am_M} (h : (am_ret [] 3 [] (rX9_rules n 6 [.inr (9, 0), .inl (.int x1)]) (fX9_isWithin [.inl (.int x1), .inl (.int 0), .inl (.int 3)] M)) = some res) : rX9_rules (n + 100) 0 [.inr (9, 0), .inl (.int x1)] [] M = some res := uX9_rules ((gX9_rules_0 (rX9_rules n) x1 M).trans h)
set_option maxRecDepth 20000 in
theorem gX9_rules_6 (k : Nat → List am_V → List am_V → am_M → am_R) (x1 : Int32) (y0 : Int32) (M : am_M) : gX9_rules k 6 [.inr (9, 0), .inl (.int x1)] [.inl (.int y0)] M =
  am_ret [] 6 [] (k 9 [.inr (9, 0), .inl (.int x1)]) (fX9_demandArgument [.inl (.int y0)] M) := (rfl)
theorem eX9_rules_6 {n : Nat} {x1 : Int32} {y0 : Int32} {M : am_M} {res : am_O × am_M} (h : (am_ret [] 6 [] (rX9_rules n 9 [.inr (9, 0), .inl (.int x1)]) (fX9_demandArgument [.inl (.int y0)] M)) = some res) : rX9_rules (n + 100) 6 [.inr (9, 0), .inl (.int x1)] [.inl (.int y0)] M = some res := uX9_rules ((gX9_rules_6 (rX9_rules n) x1 y0 M).trans h)
set_option maxRecDepth 20000 in
theorem gX9_rules_9 (k : Nat → List am_V → List am_V → am_M → am_R) (x1 : Int32) (M : am_M) : gX9_rules k 9 [.inr (9, 0), .inl (.int x1)] [] M =
  if am_in x1 4 then
   am_ret [] 15 [] (k 18 [.inr (9, 0), .inl (.int x1)]) (fX6_brokenRules [.inr (6, (Int32.toNatClampNeg x1))] M)
  else none := (rfl)
theorem eX9_rules_9 {n : Nat} {x1 : Int32} {M : am_M} {res : am_O × am_M} (h : (if am_in x1 4 then
   am_ret [] 15 [] (rX9_rules n 18 [.inr (9, 0), .inl (.int x1)]) (fX6_brokenRules [.inr (6, (Int32.toNatClampNeg x1))] M)
  else none) = some res) : rX9_rules (n + 100) 9 [.inr (9, 0), .inl (.int x1)] [] M = some res := uX9_rules ((gX9_rules_9 (rX9_rules n) x1 M).trans h)
set_option maxRecDepth 20000 in
theorem gX9_rules_18 (k : Nat → List am_V → List am_V → am_M → am_R) (x1 : Int32) (y0 : Int32) (M : am_M) : gX9_rules k 18 [.inr (9, 0), .inl (.int x1)] [.inl (.int y0)] M =
  some (.inl (some (.inl (.int y0))), M) := (rfl)
theorem eX9_rules_18 {n : Nat} {x1 : Int32} {y0 : Int32} {M : am_M} {res : am_O × am_M} (h : (some (.inl (some (.inl (.int y0))), M)) = some res) : rX9_rules (n + 100) 18 [.inr (9, 0), .inl (.int x1)] [.inl (.int y0)] M = some res := uX9_rules ((gX9_rules_18 (rX9_rules n) x1 y0 M).trans h)
def rX9_host (n pc : Nat) (ls st : List am_V) (M : am_M) : am_R := am_run [fX9_isWithin, fX9_demandIndex] [] 1 am_X0 pX9_host n pc ls st M
def gX9_host (k : Nat → List am_V → List am_V → am_M → am_R) (pc : Nat) (ls st : List am_V) (M : am_M) : am_R := am_go [fX9_isWithin, fX9_demandIndex] [] 1 am_X0 pX9_host [14, 17] k 100 pc ls st M
theorem uX9_host {n pc : Nat} {ls st : List am_V} {M : am_M} {res : am_O × am_M} (h : gX9_host (rX9_host n) pc ls st M = some res) : rX9_host (n + 100) pc ls st M = some res := am_go_ok h
theorem eX9_host (x1 : Int32) (M : am_M) : fX9_host [.inr (9, 0), .inl (.int x1)] M = rX9_host 100000 0 [.inr (9, 0), .inl (.int x1)] [] M := am_meth_eq rfl rfl
set_option maxRecDepth 20000 in
theorem gX9_host_0 (k : Nat → List am_V → List am_V → am_M → am_R) (x1 : Int32) (M : am_M) : gX9_host k 0 [.inr (9, 0), .inl (.int x1)] [] M =
  am_ret [] 11 [] (k 14 [.inr (9, 0), .inl (.int x1)]) (fX9_isWithin [.inl (.int x1), .inl (.int 0), .inl (.int ((M 3 0 1) - 1))] M) := (rfl)
theorem eX9_host_0 {n : Nat} {x1 : Int32} {M : am_M} {res : am_O × am_M} (h : (am_ret [] 11 [] (rX9_host n 14 [.inr (9, 0), .inl (.int x1)]) (fX9_isWithin [.inl (.int x1), .inl (.int 0), .inl (.int ((M 3 0 1) - 1))] M)) = some res) : rX9_host (n + 100) 0 [.inr (9, 0), .inl (.int x1)] [] M = some res := uX9_host ((gX9_host_0 (rX9_host n) x1 M).trans h)
set_option maxRecDepth 20000 in
theorem gX9_host_14 (k : Nat → List am_V → List am_V → am_M → am_R) (x1 : Int32) (y0 : Int32) (M : am_M) : gX9_host k 14 [.inr (9, 0), .inl (.int x1)] [.inl (.int y0)] M =
  am_ret [] 14 [] (k 17 [.inr (9, 0), .inl (.int x1)]) (fX9_demandIndex [.inl (.int y0)] M) := (rfl)
theorem eX9_host_14 {n : Nat} {x1 : Int32} {y0 : Int32} {M : am_M} {res : am_O × am_M} (h : (am_ret [] 14 [] (rX9_host n 17 [.inr (9, 0), .inl (.int x1)]) (fX9_demandIndex [.inl (.int y0)] M)) = some res) : rX9_host (n + 100) 14 [.inr (9, 0), .inl (.int x1)] [.inl (.int y0)] M = some res := uX9_host ((gX9_host_14 (rX9_host n) x1 y0 M).trans h)
set_option maxRecDepth 20000 in
theorem gX9_host_17 (k : Nat → List am_V → List am_V → am_M → am_R) (x1 : Int32) (M : am_M) : gX9_host k 17 [.inr (9, 0), .inl (.int x1)] [] M =
  if am_in x1 40 then
   some (.inl (some (.inl (.int (M 17 0 (Int32.toNatClampNeg x1))))), M)
  else none := (rfl)
theorem eX9_host_17 {n : Nat} {x1 : Int32} {M : am_M} {res : am_O × am_M} (h : (if am_in x1 40 then
   some (.inl (some (.inl (.int (M 17 0 (Int32.toNatClampNeg x1))))), M)
  else none) = some res) : rX9_host (n + 100) 17 [.inr (9, 0), .inl (.int x1)] [] M = some res := uX9_host ((gX9_host_17 (rX9_host n) x1 M).trans h)
def rX9_took (n pc : Nat) (ls st : List am_V) (M : am_M) : am_R := am_run [fX9_isWithin, fX9_demandArgument, fX3_dropFirst] [] 1 am_X0 pX9_took n pc ls st M
def gX9_took (k : Nat → List am_V → List am_V → am_M → am_R) (pc : Nat) (ls st : List am_V) (M : am_M) : am_R := am_go [fX9_isWithin, fX9_demandArgument, fX3_dropFirst] [] 1 am_X0 pX9_took [12, 15, 23] k 100 pc ls st M
theorem uX9_took {n pc : Nat} {ls st : List am_V} {M : am_M} {res : am_O × am_M} (h : gX9_took (rX9_took n) pc ls st M = some res) : rX9_took (n + 100) pc ls st M = some res := am_go_ok h
theorem eX9_took (x1 : Int32) (M : am_M) : fX9_took [.inr (9, 0), .inl (.int x1)] M = rX9_took 100000 0 [.inr (9, 0), .inl (.int x1)] [] M := am_meth_eq rfl rfl
set_option maxRecDepth 20000 in
theorem gX9_took_0 (k : Nat → List am_V → List am_V → am_M → am_R) (x1 : Int32) (M : am_M) : gX9_took k 0 [.inr (9, 0), .inl (.int x1)] [] M =
  am_ret [] 9 [] (k 12 [.inr (9, 0), .inl (.int x1)]) (fX9_isWithin [.inl (.int x1), .inl (.int 0), .inl (.int (M 3 0 1))] M) := (rfl)
theorem eX9_took_0 {n : Nat} {x1 : Int32} {M : am_M} {res : am_O × am_M} (h : (am_ret [] 9 [] (rX9_took n 12 [.inr (9, 0), .inl (.int x1)]) (fX9_isWithin [.inl (.int x1), .inl (.int 0), .inl (.int (M 3 0 1))] M)) = some res) : rX9_took (n + 100) 0 [.inr (9, 0), .inl (.int x1)] [] M = some res := uX9_took ((gX9_took_0 (rX9_took n) x1 M).trans h)
set_option maxRecDepth 20000 in
theorem gX9_took_12 (k : Nat → List am_V → List am_V → am_M → am_R) (x1 : Int32) (y0 : Int32) (M : am_M) : gX9_took k 12 [.inr (9, 0), .inl (.int x1)] [.inl (.int y0)] M =
  am_ret [] 12 [] (k 15 [.inr (9, 0), .inl (.int x1)]) (fX9_demandArgument [.inl (.int y0)] M) := (rfl)
theorem eX9_took_12 {n : Nat} {x1 : Int32} {y0 : Int32} {M : am_M} {res : am_O × am_M} (h : (am_ret [] 12 [] (rX9_took n 15 [.inr (9, 0), .inl (.int x1)]) (fX9_demandArgument [.inl (.int y0)] M)) = some res) : rX9_took (n + 100) 12 [.inr (9, 0), .inl (.int x1)] [.inl (.int y0)] M = some res := uX9_took ((gX9_took_12 (rX9_took n) x1 y0 M).trans h)
set_option maxRecDepth 20000 in
theorem gX9_took_15 (k : Nat → List am_V → List am_V → am_M → am_R) (x1 : Int32) (M : am_M) : gX9_took k 15 [.inr (9, 0), .inl (.int x1)] [] M =
  am_ret [] 20 [] (k 23 [.inr (9, 0), .inl (.int x1)]) (fX3_dropFirst [.inr (3, 0), .inl (.int x1)] M) := (rfl)
theorem eX9_took_15 {n : Nat} {x1 : Int32} {M : am_M} {res : am_O × am_M} (h : (am_ret [] 20 [] (rX9_took n 23 [.inr (9, 0), .inl (.int x1)]) (fX3_dropFirst [.inr (3, 0), .inl (.int x1)] M)) = some res) : rX9_took (n + 100) 15 [.inr (9, 0), .inl (.int x1)] [] M = some res := uX9_took ((gX9_took_15 (rX9_took n) x1 M).trans h)
set_option maxRecDepth 20000 in
theorem gX9_took_23 (k : Nat → List am_V → List am_V → am_M → am_R) (x1 : Int32) (M : am_M) : gX9_took k 23 [.inr (9, 0), .inl (.int x1)] [] M =
  some (.inl (some (.inl (.int (M 3 0 1)))), M) := (rfl)
theorem eX9_took_23 {n : Nat} {x1 : Int32} {M : am_M} {res : am_O × am_M} (h : (some (.inl (some (.inl (.int (M 3 0 1)))), M)) = some res) : rX9_took (n + 100) 23 [.inr (9, 0), .inl (.int x1)] [] M = some res := uX9_took ((gX9_took_23 (rX9_took n) x1 M).trans h)
def rX10_thrown (n pc : Nat) (ls st : List am_V) (M : am_M) : am_R := am_run [] [] 1 am_X0 pX10_thrown n pc ls st M
def gX10_thrown (k : Nat → List am_V → List am_V → am_M → am_R) (pc : Nat) (ls st : List am_V) (M : am_M) : am_R := am_go [] [] 1 am_X0 pX10_thrown [] k 100 pc ls st M
theorem uX10_thrown {n pc : Nat} {ls st : List am_V} {M : am_M} {res : am_O × am_M} (h : gX10_thrown (rX10_thrown n) pc ls st M = some res) : rX10_thrown (n + 100) pc ls st M = some res := am_go_ok h
theorem eX10_thrown (M : am_M) : fX10_thrown [.inr (10, 0)] M = rX10_thrown 100000 0 [.inr (10, 0)] [] M := am_meth_eq rfl rfl
set_option maxRecDepth 20000 in
theorem gX10_thrown_0 (k : Nat → List am_V → List am_V → am_M → am_R) (M : am_M) : gX10_thrown k 0 [.inr (10, 0)] [] M =
  some (.inl (some (.inl (.int (M 10 0 45)))), M) := (rfl)
theorem eX10_thrown_0 {n : Nat} {M : am_M} {res : am_O × am_M} (h : (some (.inl (some (.inl (.int (M 10 0 45)))), M)) = some res) : rX10_thrown (n + 100) 0 [.inr (10, 0)] [] M = some res := uX10_thrown ((gX10_thrown_0 (rX10_thrown n) M).trans h)
def rX10_within (n pc : Nat) (ls st : List am_V) (M : am_M) : am_R := am_run [] [] 2 am_X0 pX10_within n pc ls st M
def gX10_within (k : Nat → List am_V → List am_V → am_M → am_R) (pc : Nat) (ls st : List am_V) (M : am_M) : am_R := am_go [] [] 2 am_X0 pX10_within [] k 100 pc ls st M
theorem uX10_within {n pc : Nat} {ls st : List am_V} {M : am_M} {res : am_O × am_M} (h : gX10_within (rX10_within n) pc ls st M = some res) : rX10_within (n + 100) pc ls st M = some res := am_go_ok h
theorem eX10_within (x0 : Int32) (x1 : Int32) (x2 : Int32) (M : am_M) : fX10_within [.inl (.int x0), .inl (.int x1), .inl (.int x2)] M = rX10_within 100000 0 [.inl (.int x0), .inl (.int x1), .inl (.int x2)] [] M := am_meth_eq rfl rfl
set_option maxRecDepth 20000 in
theorem gX10_within_0 (k : Nat → List am_V → List am_V → am_M → am_R) (x0 : Int32) (x1 : Int32) (x2 : Int32) (M : am_M) : gX10_within k 0 [.inl (.int x0), .inl (.int x1), .inl (.int x2)] [] M =
  if x0 < x1 then
   some (.inl (some (.inl (.int 0))), M)
  else if x2 < x0 then
   some (.inl (some (.inl (.int 0))), M)
  else some (.inl (some (.inl (.int 1))), M) := (rfl)
theorem eX10_within_0 {n : Nat} {x0 : Int32} {x1 : Int32} {x2 : Int32} {M : am_M} {res : am_O × am_M} (h : (if x0 < x1 then
   some (.inl (some (.inl (.int 0))), M)
  else if x2 < x0 then
   some (.inl (some (.inl (.int 0))), M)
  else some (.inl (some (.inl (.int 1))), M)) = some res) : rX10_within (n + 100) 0 [.inl (.int x0), .inl (.int x1), .inl (.int x2)] [] M = some res := uX10_within ((gX10_within_0 (rX10_within n) x0 x1 x2 M).trans h)
