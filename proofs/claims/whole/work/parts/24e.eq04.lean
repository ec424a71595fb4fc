/-! ===== the runs, piece by piece ===== -/
def rX6_kindOf (n pc : Nat) (ls st : List am_V) (M : am_M) : am_R := am_run [] [] 1 am_X0 pX6_kindOf n pc ls st M
def gX6_kindOf (k : Nat → List am_V → List am_V → am_M → am_R) (pc : Nat) (ls st : List am_V) (M : am_M) : am_R := am_go [] [] 1 am_X0 pX6_kindOf [] k 100 pc ls st M
theorem uX6_kindOf {n pc : Nat} {ls st : List am_V} {M : am_M} {res : am_O × am_M} (h : gX6_kindOf (rX6_kindOf n) pc ls st M = some res) : rX6_kindOf (n + 100) pc ls st M = some res := am_go_ok h
theorem eX6_kindOf (x0 : Nat) (x1 : Int32) (M : am_M) : fX6_kindOf [.inr (6, x0), .inl (.int x1)] M = rX6_kindOf 100000 0 [.inr (6, x0), .inl (.int x1)] [] M := am_meth_eq rfl rfl
set_option maxRecDepth 20000 in
theorem gX6_kindOf_0 (k : Nat → List am_V → List am_V → am_M → am_R) (x0 : Nat) (x1 : Int32) (M : am_M) : gX6_kindOf k 0 [.inr (6, x0), .inl (.int x1)] [] M =
  if am_in (1 + (x1 * 3)) 16 then
   some (.inl (some (.inl (.int (M 18 x0 (Int32.toNatClampNeg (1 + (x1 * 3))))))), M)
  else none := (rfl)
theorem eX6_kindOf_0 {n : Nat} {x0 : Nat} {x1 : Int32} {M : am_M} {res : am_O × am_M} (h : (if am_in (1 + (x1 * 3)) 16 then
   some (.inl (some (.inl (.int (M 18 x0 (Int32.toNatClampNeg (1 + (x1 * 3))))))), M)
  else none) = some res) : rX6_kindOf (n + 100) 0 [.inr (6, x0), .inl (.int x1)] [] M = some res := uX6_kindOf ((gX6_kindOf_0 (rX6_kindOf n) x0 x1 M).trans h)
def rX6_doseOf (n pc : Nat) (ls st : List am_V) (M : am_M) : am_R := am_run [] [] 1 am_X0 pX6_doseOf n pc ls st M
def gX6_doseOf (k : Nat → List am_V → List am_V → am_M → am_R) (pc : Nat) (ls st : List am_V) (M : am_M) : am_R := am_go [] [] 1 am_X0 pX6_doseOf [] k 100 pc ls st M
theorem uX6_doseOf {n pc : Nat} {ls st : List am_V} {M : am_M} {res : am_O × am_M} (h : gX6_doseOf (rX6_doseOf n) pc ls st M = some res) : rX6_doseOf (n + 100) pc ls st M = some res := am_go_ok h
theorem eX6_doseOf (x0 : Nat) (x1 : Int32) (M : am_M) : fX6_doseOf [.inr (6, x0), .inl (.int x1)] M = rX6_doseOf 100000 0 [.inr (6, x0), .inl (.int x1)] [] M := am_meth_eq rfl rfl
set_option maxRecDepth 20000 in
theorem gX6_doseOf_0 (k : Nat → List am_V → List am_V → am_M → am_R) (x0 : Nat) (x1 : Int32) (M : am_M) : gX6_doseOf k 0 [.inr (6, x0), .inl (.int x1)] [] M =
  if am_in (2 + (x1 * 3)) 16 then
   some (.inl (some (.inl (.int (M 18 x0 (Int32.toNatClampNeg (2 + (x1 * 3))))))), M)
  else none := (rfl)
theorem eX6_doseOf_0 {n : Nat} {x0 : Nat} {x1 : Int32} {M : am_M} {res : am_O × am_M} (h : (if am_in (2 + (x1 * 3)) 16 then
   some (.inl (some (.inl (.int (M 18 x0 (Int32.toNatClampNeg (2 + (x1 * 3))))))), M)
  else none) = some res) : rX6_doseOf (n + 100) 0 [.inr (6, x0), .inl (.int x1)] [] M = some res := uX6_doseOf ((gX6_doseOf_0 (rX6_doseOf n) x0 x1 M).trans h)
def rX6_ageOf (n pc : Nat) (ls st : List am_V) (M : am_M) : am_R := am_run [] [] 1 am_X0 pX6_ageOf n pc ls st M
def gX6_ageOf (k : Nat → List am_V → List am_V → am_M → am_R) (pc : Nat) (ls st : List am_V) (M : am_M) : am_R := am_go [] [] 1 am_X0 pX6_ageOf [] k 100 pc ls st M
theorem uX6_ageOf {n pc : Nat} {ls st : List am_V} {M : am_M} {res : am_O × am_M} (h : gX6_ageOf (rX6_ageOf n) pc ls st M = some res) : rX6_ageOf (n + 100) pc ls st M = some res := am_go_ok h
theorem eX6_ageOf (x0 : Nat) (x1 : Int32) (M : am_M) : fX6_ageOf [.inr (6, x0), .inl (.int x1)] M = rX6_ageOf 100000 0 [.inr (6, x0), .inl (.int x1)] [] M := am_meth_eq rfl rfl
set_option maxRecDepth 20000 in
theorem gX6_ageOf_0 (k : Nat → List am_V → List am_V → am_M → am_R) (x0 : Nat) (x1 : Int32) (M : am_M) : gX6_ageOf k 0 [.inr (6, x0), .inl (.int x1)] [] M =
  if am_in (3 + (x1 * 3)) 16 then
   some (.inl (some (.inl (.int (M 18 x0 (Int32.toNatClampNeg (3 + (x1 * 3))))))), M)
  else none := (rfl)
theorem eX6_ageOf_0 {n : Nat} {x0 : Nat} {x1 : Int32} {M : am_M} {res : am_O × am_M} (h : (if am_in (3 + (x1 * 3)) 16 then
   some (.inl (some (.inl (.int (M 18 x0 (Int32.toNatClampNeg (3 + (x1 * 3))))))), M)
  else none) = some res) : rX6_ageOf (n + 100) 0 [.inr (6, x0), .inl (.int x1)] [] M = some res := uX6_ageOf ((gX6_ageOf_0 (rX6_ageOf n) x0 x1 M).trans h)
def rX6_lacks (n pc : Nat) (ls st : List am_V) (M : am_M) : am_R := am_run [fX6_kindOf] [] 2 am_X0 pX6_lacks n pc ls st M
def gX6_lacks (k : Nat → List am_V → List am_V → am_M → am_R) (pc : Nat) (ls st : List am_V) (M : am_M) : am_R := am_go [fX6_kindOf] [] 2 am_X0 pX6_lacks [5] k 100 pc ls st M
theorem uX6_lacks {n pc : Nat} {ls st : List am_V} {M : am_M} {res : am_O × am_M} (h : gX6_lacks (rX6_lacks n) pc ls st M = some res) : rX6_lacks (n + 100) pc ls st M = some res := am_go_ok h
theorem eX6_lacks (x0 : Nat) (x1 : Int32) (x2 : Int32) (M : am_M) : fX6_lacks [.inr (6, x0), .inl (.int x1), .inl (.int x2)] M = rX6_lacks 100000 0 [.inr (6, x0), .inl (.int x1), .inl (.int x2)] [] M := am_meth_eq rfl rfl
set_option maxRecDepth 20000 in
theorem gX6_lacks_0 (k : Nat → List am_V → List am_V → am_M → am_R) (x0 : Nat) (x1 : Int32) (x2 : Int32) (M : am_M) : gX6_lacks k 0 [.inr (6, x0), .inl (.int x1), .inl (.int x2)] [] M =
  am_ret [] 2 [] (k 5 [.inr (6, x0), .inl (.int x1), .inl (.int x2)]) (fX6_kindOf [.inr (6, x0), .inl (.int x1)] M) := (rfl)
theorem eX6_lacks_0 {n : Nat} {x0 : Nat} {x1 : Int32} {x2 : Int32} {M : am_M} {res : am_O × am_M} (h : (am_ret [] 2 [] (rX6_lacks n 5 [.inr (6, x0), .inl (.int x1), .inl (.int x2)]) (fX6_kindOf [.inr (6, x0), .inl (.int x1)] M)) = some res) : rX6_lacks (n + 100) 0 [.inr (6, x0), .inl (.int x1), .inl (.int x2)] [] M = some res := uX6_lacks ((gX6_lacks_0 (rX6_lacks n) x0 x1 x2 M).trans h)
set_option maxRecDepth 20000 in
theorem gX6_lacks_5 (k : Nat → List am_V → List am_V → am_M → am_R) (x0 : Nat) (x1 : Int32) (x2 : Int32) (y0 : Int32) (M : am_M) : gX6_lacks k 5 [.inr (6, x0), .inl (.int x1), .inl (.int x2)] [.inl (.int y0)] M =
  if y0 = (-1) then
   some (.inl (some (.inl (.int 0))), M)
  else if x2 = (-1) then
   some (.inl (some (.inl (.int 1))), M)
  else some (.inl (some (.inl (.int 0))), M) := (rfl)
theorem eX6_lacks_5 {n : Nat} {x0 : Nat} {x1 : Int32} {x2 : Int32} {y0 : Int32} {M : am_M} {res : am_O × am_M} (h : (if y0 = (-1) then
   some (.inl (some (.inl (.int 0))), M)
  else if x2 = (-1) then
   some (.inl (some (.inl (.int 1))), M)
  else some (.inl (some (.inl (.int 0))), M)) = some res) : rX6_lacks (n + 100) 5 [.inr (6, x0), .inl (.int x1), .inl (.int x2)] [.inl (.int y0)] M = some res := uX6_lacks ((gX6_lacks_5 (rX6_lacks n) x0 x1 x2 y0 M).trans h)
def rX6_sampleVolume (n pc : Nat) (ls st : List am_V) (M : am_M) : am_R := am_run [] [] 1 am_X0 pX6_sampleVolume n pc ls st M
def gX6_sampleVolume (k : Nat → List am_V → List am_V → am_M → am_R) (pc : Nat) (ls st : List am_V) (M : am_M) : am_R := am_go [] [] 1 am_X0 pX6_sampleVolume [] k 100 pc ls st M
theorem uX6_sampleVolume {n pc : Nat} {ls st : List am_V} {M : am_M} {res : am_O × am_M} (h : gX6_sampleVolume (rX6_sampleVolume n) pc ls st M = some res) : rX6_sampleVolume (n + 100) pc ls st M = some res := am_go_ok h
theorem eX6_sampleVolume (x0 : Nat) (x1 : Int32) (M : am_M) : fX6_sampleVolume [.inr (6, x0), .inl (.int x1)] M = rX6_sampleVolume 100000 0 [.inr (6, x0), .inl (.int x1), am_D] [] M := am_meth_eq rfl rfl
set_option maxRecDepth 20000 in
theorem gX6_sampleVolume_0 (k : Nat → List am_V → List am_V → am_M → am_R) (x0 : Nat) (x1 : Int32) (M : am_M) : gX6_sampleVolume k 0 [.inr (6, x0), .inl (.int x1), am_D] [] M =
  if x1 = 0 then
   some (.inl (some (.inl (.int (M 18 x0 0)))), M)
  else if (M 18 x0 13) ≤ 0 then
   some (.inl (some (.inl (.int (M 18 x0 0)))), M)
  else if (M 18 x0 13) = 0 then
   none
  else some (.inl (some (.inl (.int ((M 18 x0 0) / (M 18 x0 13))))), M) := (rfl)
theorem eX6_sampleVolume_0 {n : Nat} {x0 : Nat} {x1 : Int32} {M : am_M} {res : am_O × am_M} (h : (if x1 = 0 then
   some (.inl (some (.inl (.int (M 18 x0 0)))), M)
  else if (M 18 x0 13) ≤ 0 then
   some (.inl (some (.inl (.int (M 18 x0 0)))), M)
  else if (M 18 x0 13) = 0 then
   none
  else some (.inl (some (.inl (.int ((M 18 x0 0) / (M 18 x0 13))))), M)) = some res) : rX6_sampleVolume (n + 100) 0 [.inr (6, x0), .inl (.int x1), am_D] [] M = some res := uX6_sampleVolume ((gX6_sampleVolume_0 (rX6_sampleVolume n) x0 x1 M).trans h)
def rX6_isReagentRight (n pc : Nat) (ls st : List am_V) (M : am_M) : am_R := am_run [fX6_doseOf, fX6_ageOf] [] 2 am_X0 pX6_isReagentRight n pc ls st M
def gX6_isReagentRight (k : Nat → List am_V → List am_V → am_M → am_R) (pc : Nat) (ls st : List am_V) (M : am_M) : am_R := am_go [fX6_doseOf, fX6_ageOf] [] 2 am_X0 pX6_isReagentRight [5, 14, 23] k 100 pc ls st M
theorem uX6_isReagentRight {n pc : Nat} {ls st : List am_V} {M : am_M} {res : am_O × am_M} (h : gX6_isReagentRight (rX6_isReagentRight n) pc ls st M = some res) : rX6_isReagentRight (n + 100) pc ls st M = some res := am_go_ok h
theorem eX6_isReagentRight (x0 : Nat) (x1 : Int32) (M : am_M) : fX6_isReagentRight [.inr (6, x0), .inl (.int x1)] M = rX6_isReagentRight 100000 0 [.inr (6, x0), .inl (.int x1)] [] M := am_meth_eq rfl rfl
set_option maxRecDepth 20000 in
theorem gX6_isReagentRight_0 (k : Nat → List am_V → List am_V → am_M → am_R) (x0 : Nat) (x1 : Int32) (M : am_M) : gX6_isReagentRight k 0 [.inr (6, x0), .inl (.int x1)] [] M =
  am_ret [] 2 [] (k 5 [.inr (6, x0), .inl (.int x1)]) (fX6_doseOf [.inr (6, x0), .inl (.int x1)] M) := (rfl)
theorem eX6_isReagentRight_0 {n : Nat} {x0 : Nat} {x1 : Int32} {M : am_M} {res : am_O × am_M} (h : (am_ret [] 2 [] (rX6_isReagentRight n 5 [.inr (6, x0), .inl (.int x1)]) (fX6_doseOf [.inr (6, x0), .inl (.int x1)] M)) = some res) : rX6_isReagentRight (n + 100) 0 [.inr (6, x0), .inl (.int x1)] [] M = some res := uX6_isReagentRight ((gX6_isReagentRight_0 (rX6_isReagentRight n) x0 x1 M).trans h)
set_option maxRecDepth 20000 in
theorem gX6_isReagentRight_5 (k : Nat → List am_V → List am_V → am_M → am_R) (x0 : Nat) (x1 : Int32) (y0 : Int32) (M : am_M) : gX6_isReagentRight k 5 [.inr (6, x0), .inl (.int x1)] [.inl (.int y0)] M =
  if y0 < 1 then
   some (.inl (some (.inl (.int 0))), M)
  else am_ret [] 11 [] (k 14 [.inr (6, x0), .inl (.int x1)]) (fX6_ageOf [.inr (6, x0), .inl (.int x1)] M) := (rfl)
theorem eX6_isReagentRight_5 {n : Nat} {x0 : Nat} {x1 : Int32} {y0 : Int32} {M : am_M} {res : am_O × am_M} (h : (if y0 < 1 then
   some (.inl (some (.inl (.int 0))), M)
  else am_ret [] 11 [] (rX6_isReagentRight n 14 [.inr (6, x0), .inl (.int x1)]) (fX6_ageOf [.inr (6, x0), .inl (.int x1)] M)) = some res) : rX6_isReagentRight (n + 100) 5 [.inr (6, x0), .inl (.int x1)] [.inl (.int y0)] M = some res := uX6_isReagentRight ((gX6_isReagentRight_5 (rX6_isReagentRight n) x0 x1 y0 M).trans h)
set_option maxRecDepth 20000 in
theorem gX6_isReagentRight_14 (k : Nat → List am_V → List am_V → am_M → am_R) (x0 : Nat) (x1 : Int32) (y0 : Int32) (M : am_M) : gX6_isReagentRight k 14 [.inr (6, x0), .inl (.int x1)] [.inl (.int y0)] M =
  if y0 < 1 then
   some (.inl (some (.inl (.int 0))), M)
  else am_ret [] 20 [] (k 23 [.inr (6, x0), .inl (.int x1)]) (fX6_ageOf [.inr (6, x0), .inl (.int x1)] M) := (rfl)
theorem eX6_isReagentRight_14 {n : Nat} {x0 : Nat} {x1 : Int32} {y0 : Int32} {M : am_M} {res : am_O × am_M} (h : (if y0 < 1 then
   some (.inl (some (.inl (.int 0))), M)
  else am_ret [] 20 [] (rX6_isReagentRight n 23 [.inr (6, x0), .inl (.int x1)]) (fX6_ageOf [.inr (6, x0), .inl (.int x1)] M)) = some res) : rX6_isReagentRight (n + 100) 14 [.inr (6, x0), .inl (.int x1)] [.inl (.int y0)] M = some res := uX6_isReagentRight ((gX6_isReagentRight_14 (rX6_isReagentRight n) x0 x1 y0 M).trans h)
set_option maxRecDepth 20000 in
theorem gX6_isReagentRight_23 (k : Nat → List am_V → List am_V → am_M → am_R) (x0 : Nat) (x1 : Int32) (y0 : Int32) (M : am_M) : gX6_isReagentRight k 23 [.inr (6, x0), .inl (.int x1)] [.inl (.int y0)] M =
  if (M 18 x0 7) ≤ y0 then
   some (.inl (some (.inl (.int 0))), M)
  else some (.inl (some (.inl (.int 1))), M) := (rfl)
theorem eX6_isReagentRight_23 {n : Nat} {x0 : Nat} {x1 : Int32} {y0 : Int32} {M : am_M} {res : am_O × am_M} (h : (if (M 18 x0 7) ≤ y0 then
   some (.inl (some (.inl (.int 0))), M)
  else some (.inl (some (.inl (.int 1))), M)) = some res) : rX6_isReagentRight (n + 100) 23 [.inr (6, x0), .inl (.int x1)] [.inl (.int y0)] M = some res := uX6_isReagentRight ((gX6_isReagentRight_23 (rX6_isReagentRight n) x0 x1 y0 M).trans h)
def rX6_areReagentsRight (n pc : Nat) (ls st : List am_V) (M : am_M) : am_R := am_run [fX6_kindOf, fX6_isReagentRight, fX6_ageOf] [] 2 am_X0 pX6_areReagentsRight n pc ls st M
def gX6_areReagentsRight (k : Nat → List am_V → List am_V → am_M → am_R) (pc : Nat) (ls st : List am_V) (M : am_M) : am_R := am_go [fX6_kindOf, fX6_isReagentRight, fX6_ageOf] [] 2 am_X0 pX6_areReagentsRight [29, 46] k 100 pc ls st M
theorem uX6_areReagentsRight {n pc : Nat} {ls st : List am_V} {M : am_M} {res : am_O × am_M} (h : gX6_areReagentsRight (rX6_areReagentsRight n) pc ls st M = some res) : rX6_areReagentsRight (n + 100) pc ls st M = some res := am_go_ok h
theorem eX6_areReagentsRight (x0 : Nat) (M : am_M) : fX6_areReagentsRight [.inr (6, x0)] M = rX6_areReagentsRight 100000 0 [.inr (6, x0)] [] M := am_meth_eq rfl rfl
set_option maxRecDepth 20000 in
theorem gX6_areReagentsRight_0 (k : Nat → List am_V → List am_V → am_M → am_R) (x0 : Nat) (M : am_M) : gX6_areReagentsRight k 0 [.inr (6, x0)] [] M =
  if (M 18 x0 1) = (-1) then
   if (M 18 x0 4) = (-1) then
    some (.inl (some (.inl (.int 1))), M)
   else some (.inl (some (.inl (.int 0))), M)
  else am_ret [] 26 [] (k 29 [.inr (6, x0)]) (fX6_isReagentRight [.inr (6, x0), .inl (.int 0)] M) := (rfl)
theorem eX6_areReagentsRight_0 {n : Nat} {x0 : Nat} {M : am_M} {res : am_O × am_M} (h : (if (M 18 x0 1) = (-1) then
   if (M 18 x0 4) = (-1) then
    some (.inl (some (.inl (.int 1))), M)
   else some (.inl (some (.inl (.int 0))), M)
  else am_ret [] 26 [] (rX6_areReagentsRight n 29 [.inr (6, x0)]) (fX6_isReagentRight [.inr (6, x0), .inl (.int 0)] M)) = some res) : rX6_areReagentsRight (n + 100) 0 [.inr (6, x0)] [] M = some res := uX6_areReagentsRight ((gX6_areReagentsRight_0 (rX6_areReagentsRight n) x0 M).trans h)
set_option maxRecDepth 20000 in
theorem gX6_areReagentsRight_29 (k : Nat → List am_V → List am_V → am_M → am_R) (x0 : Nat) (y0 : Int32) (M : am_M) : gX6_areReagentsRight k 29 [.inr (6, x0)] [.inl (.int y0)] M =
  if y0 = 0 then
   some (.inl (some (.inl (.int 0))), M)
  else if (M 18 x0 4) = (-1) then
   some (.inl (some (.inl (.int 1))), M)
  else am_ret [] 43 [] (k 46 [.inr (6, x0)]) (fX6_isReagentRight [.inr (6, x0), .inl (.int 1)] M) := (rfl)
theorem eX6_areReagentsRight_29 {n : Nat} {x0 : Nat} {y0 : Int32} {M : am_M} {res : am_O × am_M} (h : (if y0 = 0 then
   some (.inl (some (.inl (.int 0))), M)
  else if (M 18 x0 4) = (-1) then
   some (.inl (some (.inl (.int 1))), M)
  else am_ret [] 43 [] (rX6_areReagentsRight n 46 [.inr (6, x0)]) (fX6_isReagentRight [.inr (6, x0), .inl (.int 1)] M)) = some res) : rX6_areReagentsRight (n + 100) 29 [.inr (6, x0)] [.inl (.int y0)] M = some res := uX6_areReagentsRight ((gX6_areReagentsRight_29 (rX6_areReagentsRight n) x0 y0 M).trans h)
set_option maxRecDepth 20000 in
theorem gX6_areReagentsRight_46 (k : Nat → List am_V → List am_V → am_M → am_R) (x0 : Nat) (y0 : Int32) (M : am_M) : gX6_areReagentsRight k 46 [.inr (6, x0)] [.inl (.int y0)] M =
  if y0 = 0 then
   some (.inl (some (.inl (.int 0))), M)
  else if (M 18 x0 6) ≤ (M 18 x0 3) then
   some (.inl (some (.inl (.int 0))), M)
  else some (.inl (some (.inl (.int 1))), M) := (rfl)
theorem eX6_areReagentsRight_46 {n : Nat} {x0 : Nat} {y0 : Int32} {M : am_M} {res : am_O × am_M} (h : (if y0 = 0 then
   some (.inl (some (.inl (.int 0))), M)
  else if (M 18 x0 6) ≤ (M 18 x0 3) then
   some (.inl (some (.inl (.int 0))), M)
  else some (.inl (some (.inl (.int 1))), M)) = some res) : rX6_areReagentsRight (n + 100) 46 [.inr (6, x0)] [.inl (.int y0)] M = some res := uX6_areReagentsRight ((gX6_areReagentsRight_46 (rX6_areReagentsRight n) x0 y0 M).trans h)
def rX6_areReadingsRight (n pc : Nat) (ls st : List am_V) (M : am_M) : am_R := am_run [fX9_isWithin] [] 2 am_X0 pX6_areReadingsRight n pc ls st M
def gX6_areReadingsRight (k : Nat → List am_V → List am_V → am_M → am_R) (pc : Nat) (ls st : List am_V) (M : am_M) : am_R := am_go [fX9_isWithin] [] 2 am_X0 pX6_areReadingsRight [52] k 100 pc ls st M
theorem uX6_areReadingsRight {n pc : Nat} {ls st : List am_V} {M : am_M} {res : am_O × am_M} (h : gX6_areReadingsRight (rX6_areReadingsRight n) pc ls st M = some res) : rX6_areReadingsRight (n + 100) pc ls st M = some res := am_go_ok h
theorem eX6_areReadingsRight (x0 : Nat) (M : am_M) : fX6_areReadingsRight [.inr (6, x0)] M = rX6_areReadingsRight 100000 0 [.inr (6, x0), am_D, am_D] [] M := am_meth_eq rfl rfl
set_option maxRecDepth 20000 in
theorem gX6_areReadingsRight_0 (k : Nat → List am_V → List am_V → am_M → am_R) (x0 : Nat) (M : am_M) : gX6_areReadingsRight k 0 [.inr (6, x0), am_D, am_D] [] M =
  if (M 18 x0 9) = 0 then
   if (M 18 x0 7) < 1 then
    some (.inl (some (.inl (.int 0))), M)
   else am_ret [] 49 [] (k 52 [.inr (6, x0), .inl (.int (((M 18 x0 8) - (M 18 x0 7)) + 1)), .inl (.int 1)]) (fX9_isWithin [.inl (.int (((M 18 x0 8) - (M 18 x0 7)) + 1)), .inl (.int 1), .inl (.int 6)] M)
  else if (M 18 x0 7) < 1 then
   some (.inl (some (.inl (.int 0))), M)
  else am_ret [] 49 [] (k 52 [.inr (6, x0), .inl (.int (((M 18 x0 8) - (M 18 x0 7)) + 1)), .inl (.int 2)]) (fX9_isWithin [.inl (.int (((M 18 x0 8) - (M 18 x0 7)) + 1)), .inl (.int 2), .inl (.int 6)] M) := (rfl)
theorem eX6_areReadingsRight_0 {n : Nat} {x0 : Nat} {M : am_M} {res : am_O × am_M} (h : (if (M 18 x0 9) = 0 then
   if (M 18 x0 7) < 1 then
    some (.inl (some (.inl (.int 0))), M)
   else am_ret [] 49 [] (rX6_areReadingsRight n 52 [.inr (6, x0), .inl (.int (((M 18 x0 8) - (M 18 x0 7)) + 1)), .inl (.int 1)]) (fX9_isWithin [.inl (.int (((M 18 x0 8) - (M 18 x0 7)) + 1)), .inl (.int 1), .inl (.int 6)] M)
  else if (M 18 x0 7) < 1 then
   some (.inl (some (.inl (.int 0))), M)
  else am_ret [] 49 [] (rX6_areReadingsRight n 52 [.inr (6, x0), .inl (.int (((M 18 x0 8) - (M 18 x0 7)) + 1)), .inl (.int 2)]) (fX9_isWithin [.inl (.int (((M 18 x0 8) - (M 18 x0 7)) + 1)), .inl (.int 2), .inl (.int 6)] M)) = some res) : rX6_areReadingsRight (n + 100) 0 [.inr (6, x0), am_D, am_D] [] M = some res := uX6_areReadingsRight ((gX6_areReadingsRight_0 (rX6_areReadingsRight n) x0 M).trans h)
set_option maxRecDepth 20000 in
theorem gX6_areReadingsRight_52 (k : Nat → List am_V → List am_V → am_M → am_R) (x0 : Nat) (x1 : Int32) (x2 : Int32) (y0 : Int32) (M : am_M) : gX6_areReadingsRight k 52 [.inr (6, x0), .inl (.int x1), .inl (.int x2)] [.inl (.int y0)] M =
  if y0 = 0 then
   some (.inl (some (.inl (.int 0))), M)
  else some (.inl (some (.inl (.int 1))), M) := (rfl)
theorem eX6_areReadingsRight_52 {n : Nat} {x0 : Nat} {x1 : Int32} {x2 : Int32} {y0 : Int32} {M : am_M} {res : am_O × am_M} (h : (if y0 = 0 then
   some (.inl (some (.inl (.int 0))), M)
  else some (.inl (some (.inl (.int 1))), M)) = some res) : rX6_areReadingsRight (n + 100) 52 [.inr (6, x0), .inl (.int x1), .inl (.int x2)] [.inl (.int y0)] M = some res := uX6_areReadingsRight ((gX6_areReadingsRight_52 (rX6_areReadingsRight n) x0 x1 x2 y0 M).trans h)
