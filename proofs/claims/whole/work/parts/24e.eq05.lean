/-! ===== the runs, piece by piece ===== -/
def rX6_dilutes (n pc : Nat) (ls st : List am_V) (M : am_M) : am_R := am_run [] [] 2 am_X0 pX6_dilutes n pc ls st M
def gX6_dilutes (k : Nat → List am_V → List am_V → am_M → am_R) (pc : Nat) (ls st : List am_V) (M : am_M) : am_R := am_go [] [] 2 am_X0 pX6_dilutes [] k 100 pc ls st M
theorem uX6_dilutes {n pc : Nat} {ls st : List am_V} {M : am_M} {res : am_O × am_M} (h : gX6_dilutes (rX6_dilutes n) pc ls st M = some res) : rX6_dilutes (n + 100) pc ls st M = some res := am_go_ok h
theorem eX6_dilutes (x0 : Nat) (M : am_M) : fX6_dilutes [.inr (6, x0)] M = rX6_dilutes 100000 0 [.inr (6, x0)] [] M := am_meth_eq rfl rfl
set_option maxRecDepth 20000 in
theorem gX6_dilutes_0 (k : Nat → List am_V → List am_V → am_M → am_R) (x0 : Nat) (M : am_M) : gX6_dilutes k 0 [.inr (6, x0)] [] M =
  if (M 18 x0 12) = 2 then
   some (.inl (some (.inl (.int 1))), M)
  else some (.inl (some (.inl (.int 0))), M) := (rfl)
theorem eX6_dilutes_0 {n : Nat} {x0 : Nat} {M : am_M} {res : am_O × am_M} (h : (if (M 18 x0 12) = 2 then
   some (.inl (some (.inl (.int 1))), M)
  else some (.inl (some (.inl (.int 0))), M)) = some res) : rX6_dilutes (n + 100) 0 [.inr (6, x0)] [] M = some res := uX6_dilutes ((gX6_dilutes_0 (rX6_dilutes n) x0 M).trans h)
def rX6_isDilutionRight (n pc : Nat) (ls st : List am_V) (M : am_M) : am_R := am_run [fX6_dilutes] [] 2 am_X0 pX6_isDilutionRight n pc ls st M
def gX6_isDilutionRight (k : Nat → List am_V → List am_V → am_M → am_R) (pc : Nat) (ls st : List am_V) (M : am_M) : am_R := am_go [fX6_dilutes] [] 2 am_X0 pX6_isDilutionRight [12] k 100 pc ls st M
theorem uX6_isDilutionRight {n pc : Nat} {ls st : List am_V} {M : am_M} {res : am_O × am_M} (h : gX6_isDilutionRight (rX6_isDilutionRight n) pc ls st M = some res) : rX6_isDilutionRight (n + 100) pc ls st M = some res := am_go_ok h
theorem eX6_isDilutionRight (x0 : Nat) (M : am_M) : fX6_isDilutionRight [.inr (6, x0)] M = rX6_isDilutionRight 100000 0 [.inr (6, x0), am_D] [] M := am_meth_eq rfl rfl
set_option maxRecDepth 20000 in
theorem gX6_isDilutionRight_0 (k : Nat → List am_V → List am_V → am_M → am_R) (x0 : Nat) (M : am_M) : gX6_isDilutionRight k 0 [.inr (6, x0), am_D] [] M =
  am_ret [] 9 [] (k 12 [.inr (6, x0), .inl (.int (M 18 x0 13))]) (fX6_dilutes [.inr (6, x0)] M) := (rfl)
theorem eX6_isDilutionRight_0 {n : Nat} {x0 : Nat} {M : am_M} {res : am_O × am_M} (h : (am_ret [] 9 [] (rX6_isDilutionRight n 12 [.inr (6, x0), .inl (.int (M 18 x0 13))]) (fX6_dilutes [.inr (6, x0)] M)) = some res) : rX6_isDilutionRight (n + 100) 0 [.inr (6, x0), am_D] [] M = some res := uX6_isDilutionRight ((gX6_isDilutionRight_0 (rX6_isDilutionRight n) x0 M).trans h)
set_option maxRecDepth 20000 in
theorem gX6_isDilutionRight_12 (k : Nat → List am_V → List am_V → am_M → am_R) (x0 : Nat) (x1 : Int32) (y0 : Int32) (M : am_M) : gX6_isDilutionRight k 12 [.inr (6, x0), .inl (.int x1)] [.inl (.int y0)] M =
  if y0 = 0 then
   some (.inl (some (.inl (.int 1))), M)
  else if x1 ≤ 0 then
   some (.inl (some (.inl (.int 0))), M)
  else if x1 = 0 then
   none
  else if ((M 18 x0 0) - (M 18 x0 0) / x1 * x1) = 0 then
   some (.inl (some (.inl (.int 1))), M)
  else some (.inl (some (.inl (.int 0))), M) := (rfl)
theorem eX6_isDilutionRight_12 {n : Nat} {x0 : Nat} {x1 : Int32} {y0 : Int32} {M : am_M} {res : am_O × am_M} (h : (if y0 = 0 then
   some (.inl (some (.inl (.int 1))), M)
  else if x1 ≤ 0 then
   some (.inl (some (.inl (.int 0))), M)
  else if x1 = 0 then
   none
  else if ((M 18 x0 0) - (M 18 x0 0) / x1 * x1) = 0 then
   some (.inl (some (.inl (.int 1))), M)
  else some (.inl (some (.inl (.int 0))), M)) = some res) : rX6_isDilutionRight (n + 100) 12 [.inr (6, x0), .inl (.int x1)] [.inl (.int y0)] M = some res := uX6_isDilutionRight ((gX6_isDilutionRight_12 (rX6_isDilutionRight n) x0 x1 y0 M).trans h)
def rX6_isComplete (n pc : Nat) (ls st : List am_V) (M : am_M) : am_R := am_run [fX6_areReagentsRight, fX6_areReadingsRight, fX6_isDilutionRight, fX0_isComplete] [] 2 am_X0 pX6_isComplete n pc ls st M
def gX6_isComplete (k : Nat → List am_V → List am_V → am_M → am_R) (pc : Nat) (ls st : List am_V) (M : am_M) : am_R := am_go [fX6_areReagentsRight, fX6_areReadingsRight, fX6_isDilutionRight, fX0_isComplete] [] 2 am_X0 pX6_isComplete [14, 21, 45, 55] k 100 pc ls st M
theorem uX6_isComplete {n pc : Nat} {ls st : List am_V} {M : am_M} {res : am_O × am_M} (h : gX6_isComplete (rX6_isComplete n) pc ls st M = some res) : rX6_isComplete (n + 100) pc ls st M = some res := am_go_ok h
theorem eX6_isComplete (x0 : Nat) (M : am_M) : fX6_isComplete [.inr (6, x0)] M = rX6_isComplete 100000 0 [.inr (6, x0)] [] M := am_meth_eq rfl rfl
set_option maxRecDepth 20000 in
theorem gX6_isComplete_0 (k : Nat → List am_V → List am_V → am_M → am_R) (x0 : Nat) (M : am_M) : gX6_isComplete k 0 [.inr (6, x0)] [] M =
  if (M 18 x0 0) < 1 then
   some (.inl (some (.inl (.int 0))), M)
  else am_ret [] 11 [] (k 14 [.inr (6, x0)]) (fX6_areReagentsRight [.inr (6, x0)] M) := (rfl)
theorem eX6_isComplete_0 {n : Nat} {x0 : Nat} {M : am_M} {res : am_O × am_M} (h : (if (M 18 x0 0) < 1 then
   some (.inl (some (.inl (.int 0))), M)
  else am_ret [] 11 [] (rX6_isComplete n 14 [.inr (6, x0)]) (fX6_areReagentsRight [.inr (6, x0)] M)) = some res) : rX6_isComplete (n + 100) 0 [.inr (6, x0)] [] M = some res := uX6_isComplete ((gX6_isComplete_0 (rX6_isComplete n) x0 M).trans h)
set_option maxRecDepth 20000 in
theorem gX6_isComplete_14 (k : Nat → List am_V → List am_V → am_M → am_R) (x0 : Nat) (y0 : Int32) (M : am_M) : gX6_isComplete k 14 [.inr (6, x0)] [.inl (.int y0)] M =
  if y0 = 0 then
   some (.inl (some (.inl (.int 0))), M)
  else am_ret [] 18 [] (k 21 [.inr (6, x0)]) (fX6_areReadingsRight [.inr (6, x0)] M) := (rfl)
theorem eX6_isComplete_14 {n : Nat} {x0 : Nat} {y0 : Int32} {M : am_M} {res : am_O × am_M} (h : (if y0 = 0 then
   some (.inl (some (.inl (.int 0))), M)
  else am_ret [] 18 [] (rX6_isComplete n 21 [.inr (6, x0)]) (fX6_areReadingsRight [.inr (6, x0)] M)) = some res) : rX6_isComplete (n + 100) 14 [.inr (6, x0)] [.inl (.int y0)] M = some res := uX6_isComplete ((gX6_isComplete_14 (rX6_isComplete n) x0 y0 M).trans h)
set_option maxRecDepth 20000 in
theorem gX6_isComplete_21 (k : Nat → List am_V → List am_V → am_M → am_R) (x0 : Nat) (y0 : Int32) (M : am_M) : gX6_isComplete k 21 [.inr (6, x0)] [.inl (.int y0)] M =
  if y0 = 0 then
   some (.inl (some (.inl (.int 0))), M)
  else if (M 18 x0 11) < (M 18 x0 10) then
   some (.inl (some (.inl (.int 0))), M)
  else am_ret [] 42 [] (k 45 [.inr (6, x0)]) (fX6_isDilutionRight [.inr (6, x0)] M) := (rfl)
theorem eX6_isComplete_21 {n : Nat} {x0 : Nat} {y0 : Int32} {M : am_M} {res : am_O × am_M} (h : (if y0 = 0 then
   some (.inl (some (.inl (.int 0))), M)
  else if (M 18 x0 11) < (M 18 x0 10) then
   some (.inl (some (.inl (.int 0))), M)
  else am_ret [] 42 [] (rX6_isComplete n 45 [.inr (6, x0)]) (fX6_isDilutionRight [.inr (6, x0)] M)) = some res) : rX6_isComplete (n + 100) 21 [.inr (6, x0)] [.inl (.int y0)] M = some res := uX6_isComplete ((gX6_isComplete_21 (rX6_isComplete n) x0 y0 M).trans h)
set_option maxRecDepth 20000 in
theorem gX6_isComplete_45 (k : Nat → List am_V → List am_V → am_M → am_R) (x0 : Nat) (y0 : Int32) (M : am_M) : gX6_isComplete k 45 [.inr (6, x0)] [.inl (.int y0)] M =
  if y0 = 0 then
   some (.inl (some (.inl (.int 0))), M)
  else am_ret [] 52 [] (k 55 [.inr (6, x0)]) (fX0_isComplete [.inr (0, x0)] M) := (rfl)
theorem eX6_isComplete_45 {n : Nat} {x0 : Nat} {y0 : Int32} {M : am_M} {res : am_O × am_M} (h : (if y0 = 0 then
   some (.inl (some (.inl (.int 0))), M)
  else am_ret [] 52 [] (rX6_isComplete n 55 [.inr (6, x0)]) (fX0_isComplete [.inr (0, x0)] M)) = some res) : rX6_isComplete (n + 100) 45 [.inr (6, x0)] [.inl (.int y0)] M = some res := uX6_isComplete ((gX6_isComplete_45 (rX6_isComplete n) x0 y0 M).trans h)
set_option maxRecDepth 20000 in
theorem gX6_isComplete_55 (k : Nat → List am_V → List am_V → am_M → am_R) (x0 : Nat) (y0 : Int32) (M : am_M) : gX6_isComplete k 55 [.inr (6, x0)] [.inl (.int y0)] M =
  if y0 = 0 then
   some (.inl (some (.inl (.int 0))), M)
  else some (.inl (some (.inl (.int 1))), M) := (rfl)
theorem eX6_isComplete_55 {n : Nat} {x0 : Nat} {y0 : Int32} {M : am_M} {res : am_O × am_M} (h : (if y0 = 0 then
   some (.inl (some (.inl (.int 0))), M)
  else some (.inl (some (.inl (.int 1))), M)) = some res) : rX6_isComplete (n + 100) 55 [.inr (6, x0)] [.inl (.int y0)] M = some res := uX6_isComplete ((gX6_isComplete_55 (rX6_isComplete n) x0 y0 M).trans h)
def rX6_isReadAt (n pc : Nat) (ls st : List am_V) (M : am_M) : am_R := am_run [fX9_isWithin] [] 2 am_X0 pX6_isReadAt n pc ls st M
def gX6_isReadAt (k : Nat → List am_V → List am_V → am_M → am_R) (pc : Nat) (ls st : List am_V) (M : am_M) : am_R := am_go [fX9_isWithin] [] 2 am_X0 pX6_isReadAt [18] k 100 pc ls st M
theorem uX6_isReadAt {n pc : Nat} {ls st : List am_V} {M : am_M} {res : am_O × am_M} (h : gX6_isReadAt (rX6_isReadAt n) pc ls st M = some res) : rX6_isReadAt (n + 100) pc ls st M = some res := am_go_ok h
theorem eX6_isReadAt (x0 : Nat) (x1 : Int32) (M : am_M) : fX6_isReadAt [.inr (6, x0), .inl (.int x1)] M = rX6_isReadAt 100000 0 [.inr (6, x0), .inl (.int x1)] [] M := am_meth_eq rfl rfl
set_option maxRecDepth 20000 in
theorem gX6_isReadAt_0 (k : Nat → List am_V → List am_V → am_M → am_R) (x0 : Nat) (x1 : Int32) (M : am_M) : gX6_isReadAt k 0 [.inr (6, x0), .inl (.int x1)] [] M =
  am_ret [] 15 [] (k 18 [.inr (6, x0), .inl (.int x1)]) (fX9_isWithin [.inl (.int x1), .inl (.int (M 18 x0 7)), .inl (.int (M 18 x0 8))] M) := (rfl)
theorem eX6_isReadAt_0 {n : Nat} {x0 : Nat} {x1 : Int32} {M : am_M} {res : am_O × am_M} (h : (am_ret [] 15 [] (rX6_isReadAt n 18 [.inr (6, x0), .inl (.int x1)]) (fX9_isWithin [.inl (.int x1), .inl (.int (M 18 x0 7)), .inl (.int (M 18 x0 8))] M)) = some res) : rX6_isReadAt (n + 100) 0 [.inr (6, x0), .inl (.int x1)] [] M = some res := uX6_isReadAt ((gX6_isReadAt_0 (rX6_isReadAt n) x0 x1 M).trans h)
set_option maxRecDepth 20000 in
theorem gX6_isReadAt_18 (k : Nat → List am_V → List am_V → am_M → am_R) (x0 : Nat) (x1 : Int32) (y0 : Int32) (M : am_M) : gX6_isReadAt k 18 [.inr (6, x0), .inl (.int x1)] [.inl (.int y0)] M =
  Option.map (fun o => (o, M)) (am_fin 2 .ireturn [.inr (6, x0), .inl (.int x1)] [.inl (.int y0)]) := (rfl)
theorem eX6_isReadAt_18 {n : Nat} {x0 : Nat} {x1 : Int32} {y0 : Int32} {M : am_M} {res : am_O × am_M} (h : (Option.map (fun o => (o, M)) (am_fin 2 .ireturn [.inr (6, x0), .inl (.int x1)] [.inl (.int y0)])) = some res) : rX6_isReadAt (n + 100) 18 [.inr (6, x0), .inl (.int x1)] [.inl (.int y0)] M = some res := uX6_isReadAt ((gX6_isReadAt_18 (rX6_isReadAt n) x0 x1 y0 M).trans h)
def rX6_isOverAt (n pc : Nat) (ls st : List am_V) (M : am_M) : am_R := am_run [] [] 2 am_X0 pX6_isOverAt n pc ls st M
def gX6_isOverAt (k : Nat → List am_V → List am_V → am_M → am_R) (pc : Nat) (ls st : List am_V) (M : am_M) : am_R := am_go [] [] 2 am_X0 pX6_isOverAt [] k 100 pc ls st M
theorem uX6_isOverAt {n pc : Nat} {ls st : List am_V} {M : am_M} {res : am_O × am_M} (h : gX6_isOverAt (rX6_isOverAt n) pc ls st M = some res) : rX6_isOverAt (n + 100) pc ls st M = some res := am_go_ok h
theorem eX6_isOverAt (x0 : Nat) (x1 : Int32) (M : am_M) : fX6_isOverAt [.inr (6, x0), .inl (.int x1)] M = rX6_isOverAt 100000 0 [.inr (6, x0), .inl (.int x1)] [] M := am_meth_eq rfl rfl
set_option maxRecDepth 20000 in
theorem gX6_isOverAt_0 (k : Nat → List am_V → List am_V → am_M → am_R) (x0 : Nat) (x1 : Int32) (M : am_M) : gX6_isOverAt k 0 [.inr (6, x0), .inl (.int x1)] [] M =
  if x1 ≤ (M 18 x0 8) then
   some (.inl (some (.inl (.int 0))), M)
  else some (.inl (some (.inl (.int 1))), M) := (rfl)
theorem eX6_isOverAt_0 {n : Nat} {x0 : Nat} {x1 : Int32} {M : am_M} {res : am_O × am_M} (h : (if x1 ≤ (M 18 x0 8) then
   some (.inl (some (.inl (.int 0))), M)
  else some (.inl (some (.inl (.int 1))), M)) = some res) : rX6_isOverAt (n + 100) 0 [.inr (6, x0), .inl (.int x1)] [] M = some res := uX6_isOverAt ((gX6_isOverAt_0 (rX6_isOverAt n) x0 x1 M).trans h)
def rX6_asksAgain (n pc : Nat) (ls st : List am_V) (M : am_M) : am_R := am_run [] [] 2 am_X0 pX6_asksAgain n pc ls st M
def gX6_asksAgain (k : Nat → List am_V → List am_V → am_M → am_R) (pc : Nat) (ls st : List am_V) (M : am_M) : am_R := am_go [] [] 2 am_X0 pX6_asksAgain [] k 100 pc ls st M
theorem uX6_asksAgain {n pc : Nat} {ls st : List am_V} {M : am_M} {res : am_O × am_M} (h : gX6_asksAgain (rX6_asksAgain n) pc ls st M = some res) : rX6_asksAgain (n + 100) pc ls st M = some res := am_go_ok h
theorem eX6_asksAgain (x0 : Nat) (x1 : Int32) (M : am_M) : fX6_asksAgain [.inr (6, x0), .inl (.int x1)] M = rX6_asksAgain 100000 0 [.inr (6, x0), .inl (.int x1)] [] M := am_meth_eq rfl rfl
set_option maxRecDepth 20000 in
theorem gX6_asksAgain_0 (k : Nat → List am_V → List am_V → am_M → am_R) (x0 : Nat) (x1 : Int32) (M : am_M) : gX6_asksAgain k 0 [.inr (6, x0), .inl (.int x1)] [] M =
  if (M 18 x0 12) = 2 then
   if (x1 &&& 2) = 0 then
    if (M 18 x0 12) = 1 then
     if (x1 &&& 3) = 0 then
      some (.inl (some (.inl (.int 0))), M)
     else some (.inl (some (.inl (.int 1))), M)
    else some (.inl (some (.inl (.int 0))), M)
   else some (.inl (some (.inl (.int 1))), M)
  else if (M 18 x0 12) = 1 then
   if (x1 &&& 3) = 0 then
    some (.inl (some (.inl (.int 0))), M)
   else some (.inl (some (.inl (.int 1))), M)
  else some (.inl (some (.inl (.int 0))), M) := (rfl)
theorem eX6_asksAgain_0 {n : Nat} {x0 : Nat} {x1 : Int32} {M : am_M} {res : am_O × am_M} (h : (if (M 18 x0 12) = 2 then
   if (x1 &&& 2) = 0 then
    if (M 18 x0 12) = 1 then
     if (x1 &&& 3) = 0 then
      some (.inl (some (.inl (.int 0))), M)
     else some (.inl (some (.inl (.int 1))), M)
    else some (.inl (some (.inl (.int 0))), M)
   else some (.inl (some (.inl (.int 1))), M)
  else if (M 18 x0 12) = 1 then
   if (x1 &&& 3) = 0 then
    some (.inl (some (.inl (.int 0))), M)
   else some (.inl (some (.inl (.int 1))), M)
  else some (.inl (some (.inl (.int 0))), M)) = some res) : rX6_asksAgain (n + 100) 0 [.inr (6, x0), .inl (.int x1)] [] M = some res := uX6_asksAgain ((gX6_asksAgain_0 (rX6_asksAgain n) x0 x1 M).trans h)
def rX6_limitFlags (n pc : Nat) (ls st : List am_V) (M : am_M) : am_R := am_run [] [] 1 am_X0 pX6_limitFlags n pc ls st M
def gX6_limitFlags (k : Nat → List am_V → List am_V → am_M → am_R) (pc : Nat) (ls st : List am_V) (M : am_M) : am_R := am_go [] [] 1 am_X0 pX6_limitFlags [] k 100 pc ls st M
theorem uX6_limitFlags {n pc : Nat} {ls st : List am_V} {M : am_M} {res : am_O × am_M} (h : gX6_limitFlags (rX6_limitFlags n) pc ls st M = some res) : rX6_limitFlags (n + 100) pc ls st M = some res := am_go_ok h
theorem eX6_limitFlags (x0 : Nat) (x1 : Int32) (M : am_M) : fX6_limitFlags [.inr (6, x0), .inl (.int x1)] M = rX6_limitFlags 100000 0 [.inr (6, x0), .inl (.int x1)] [] M := am_meth_eq rfl rfl
set_option maxRecDepth 20000 in
theorem gX6_limitFlags_0 (k : Nat → List am_V → List am_V → am_M → am_R) (x0 : Nat) (x1 : Int32) (M : am_M) : gX6_limitFlags k 0 [.inr (6, x0), .inl (.int x1)] [] M =
  if (M 18 x0 10) ≤ x1 then
   if x1 ≤ (M 18 x0 11) then
    some (.inl (some (.inl (.int 0))), M)
   else some (.inl (some (.inl (.int 2))), M)
  else if x1 ≤ (M 18 x0 11) then
   some (.inl (some (.inl (.int 1))), M)
  else some (.inl (some (.inl (.int 3))), M) := (rfl)
theorem eX6_limitFlags_0 {n : Nat} {x0 : Nat} {x1 : Int32} {M : am_M} {res : am_O × am_M} (h : (if (M 18 x0 10) ≤ x1 then
   if x1 ≤ (M 18 x0 11) then
    some (.inl (some (.inl (.int 0))), M)
   else some (.inl (some (.inl (.int 2))), M)
  else if x1 ≤ (M 18 x0 11) then
   some (.inl (some (.inl (.int 1))), M)
  else some (.inl (some (.inl (.int 3))), M)) = some res) : rX6_limitFlags (n + 100) 0 [.inr (6, x0), .inl (.int x1)] [] M = some res := uX6_limitFlags ((gX6_limitFlags_0 (rX6_limitFlags n) x0 x1 M).trans h)
def rX6_valueAt (n pc : Nat) (ls st : List am_V) (M : am_M) : am_R := am_run [fX0_valueAt] [] 3 am_X0 pX6_valueAt n pc ls st M
def gX6_valueAt (k : Nat → List am_V → List am_V → am_M → am_R) (pc : Nat) (ls st : List am_V) (M : am_M) : am_R := am_go [fX0_valueAt] [] 3 am_X0 pX6_valueAt [8] k 100 pc ls st M
theorem uX6_valueAt {n pc : Nat} {ls st : List am_V} {M : am_M} {res : am_O × am_M} (h : gX6_valueAt (rX6_valueAt n) pc ls st M = some res) : rX6_valueAt (n + 100) pc ls st M = some res := am_go_ok h
theorem eX6_valueAt (x0 : Nat) (x1 : Int64) (x2 : Int32) (M : am_M) : fX6_valueAt [.inr (6, x0), .inl (.long x1), .inl (.int x2)] M = rX6_valueAt 100000 0 [.inr (6, x0), .inl (.long x1), am_D, .inl (.int x2), am_D, am_D] [] M := am_meth_eq rfl rfl
set_option maxRecDepth 20000 in
theorem gX6_valueAt_0 (k : Nat → List am_V → List am_V → am_M → am_R) (x0 : Nat) (x1 : Int64) (x3 : Int32) (M : am_M) : gX6_valueAt k 0 [.inr (6, x0), .inl (.long x1), am_D, .inl (.int x3), am_D, am_D] [] M =
  am_ret [] 5 [] (k 8 [.inr (6, x0), .inl (.long x1), am_D, .inl (.int x3), am_D, am_D]) (fX0_valueAt [.inr (0, x0), .inl (.long x1)] M) := (rfl)
theorem eX6_valueAt_0 {n : Nat} {x0 : Nat} {x1 : Int64} {x3 : Int32} {M : am_M} {res : am_O × am_M} (h : (am_ret [] 5 [] (rX6_valueAt n 8 [.inr (6, x0), .inl (.long x1), am_D, .inl (.int x3), am_D, am_D]) (fX0_valueAt [.inr (0, x0), .inl (.long x1)] M)) = some res) : rX6_valueAt (n + 100) 0 [.inr (6, x0), .inl (.long x1), am_D, .inl (.int x3), am_D, am_D] [] M = some res := uX6_valueAt ((gX6_valueAt_0 (rX6_valueAt n) x0 x1 x3 M).trans h)
set_option maxRecDepth 20000 in
theorem gX6_valueAt_8 (k : Nat → List am_V → List am_V → am_M → am_R) (x0 : Nat) (x1 : Int64) (x3 : Int32) (y0 : Int64) (M : am_M) : gX6_valueAt k 8 [.inr (6, x0), .inl (.long x1), am_D, .inl (.int x3), am_D, am_D] [.inl (.long y0)] M =
  if x3 = 0 then
   some (.inl (some (.inl (.long y0))), M)
  else some (.inl (some (.inl (.long (y0 * (Int32.toInt64 (M 18 x0 13)))))), M) := (rfl)
theorem eX6_valueAt_8 {n : Nat} {x0 : Nat} {x1 : Int64} {x3 : Int32} {y0 : Int64} {M : am_M} {res : am_O × am_M} (h : (if x3 = 0 then
   some (.inl (some (.inl (.long y0))), M)
  else some (.inl (some (.inl (.long (y0 * (Int32.toInt64 (M 18 x0 13)))))), M)) = some res) : rX6_valueAt (n + 100) 8 [.inr (6, x0), .inl (.long x1), am_D, .inl (.int x3), am_D, am_D] [.inl (.long y0)] M = some res := uX6_valueAt ((gX6_valueAt_8 (rX6_valueAt n) x0 x1 x3 y0 M).trans h)
