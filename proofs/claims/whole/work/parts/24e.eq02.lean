/-! ===== the runs, piece by piece ===== -/
def rX6_dilutes (n pc : Nat) (ls st : List am_V) (M : am_M) : am_R := am_run [] [] 2 am_X0 pX6_dilutes n pc ls st M
def gX6_dilutes (k : Nat → List am_V → List am_V → am_M → am_R) (pc : Nat) (ls st : List am_V) (M : am_M) : am_R := am_go [] [] 2 am_X0 pX6_dilutes [] k 100 pc ls st M
theorem uX6_dilutes {n pc : Nat} {ls st : List am_V} {M : am_M} {res : am_O × am_M} (h : gX6_dilutes (rX6_dilutes n) pc ls st M = some res) : rX6_dilutes (n + 100) pc ls st M = some res := am_go_ok h
theorem eX6_dilutes (x0 : Nat) (M : am_M) : fX6_dilutes [.inr (6, x0)] M = rX6_dilutes 100000 0 [.inr (6, x0)] [] M := am_meth_eq rfl rfl
set_option maxRecDepth 20000 in
theorem gX6_dilutes_0 (k : Nat → List am_V → List am_V → am_M → am_R) (x0 : Nat) (M : am_M) : gX6_dilutes k 0 [.inr (6, x0)] [] M =
  if (M 18 x0 12) = 2 then
   some (.inl (some (.inl (.int 1))), M)
  else some (.inl (some (.inl (.int 0))), M) := (rfl)
theorem eX6_dilutes_0 {n : Nat} {x0 : Nat} {M : am_M} {res : am_O × am_M} (h : (if (M 18 x0 12) = 2 then
   some (.inl (some (.inl (.int 1))), M)
  else some (.inl (some (.inl (.int 0))), M)) = some res) : rX6_dilutes (n + 100) 0 [.inr (6, x0)] [] M = some res := uX6_dilutes ((gX6_dilutes_0 (rX6_dilutes n) x0 M).trans h)
def rX6_isDilutionRight (n pc : Nat) (ls st : List am_V) (M : am_M) : am_R := am_run [fX6_dilutes] [] 2 am_X0 pX6_isDilutionRight n pc ls st M
def gX6_isDilutionRight (F0 : am_F) (k : Nat → List am_V → List am_V → am_M → am_R) (pc : Nat) (ls st : List am_V) (M : am_M) : am_R := am_go [F0] [] 2 am_X0 pX6_isDilutionRight [12] k 100 pc ls st M
theorem uX6_isDilutionRight {n pc : Nat} {ls st : List am_V} {M : am_M} {res : am_O × am_M} (h : gX6_isDilutionRight fX6_dilutes (rX6_isDilutionRight n) pc ls st M = some res) : rX6_isDilutionRight (n + 100) pc ls st M = some res := am_go_ok h
theorem eX6_isDilutionRight (x0 : Nat) (M : am_M) : fX6_isDilutionRight [.inr (6, x0)] M = rX6_isDilutionRight 100000 0 [.inr (6, x0), am_D] [] M := am_meth_eq rfl rfl
set_option maxRecDepth 20000 in
theorem gX6_isDilutionRight_0 (F0 : am_F) (k : Nat → List am_V → List am_V → am_M → am_R) (x0 : Nat) (M : am_M) : gX6_isDilutionRight F0 k 0 [.inr (6, x0), am_D] [] M =
  am_ret [] 9 [] (k 12 [.inr (6, x0), .inl (.int (M 18 x0 13))]) (F0 [.inr (6, x0)] M) := (rfl)
theorem eX6_isDilutionRight_0 {n : Nat} {x0 : Nat} {M : am_M} {res : am_O × am_M} (h : (am_ret [] 9 [] (rX6_isDilutionRight n 12 [.inr (6, x0), .inl (.int (M 18 x0 13))]) (fX6_dilutes [.inr (6, x0)] M)) = some res) : rX6_isDilutionRight (n + 100) 0 [.inr (6, x0), am_D] [] M = some res := uX6_isDilutionRight ((gX6_isDilutionRight_0 fX6_dilutes (rX6_isDilutionRight n) x0 M).trans h)
set_option maxRecDepth 20000 in
theorem gX6_isDilutionRight_12 (F0 : am_F) (k : Nat → List am_V → List am_V → am_M → am_R) (x0 : Nat) (x1 : Int32) (y0 : Int32) (M : am_M) : gX6_isDilutionRight F0 k 12 [.inr (6, x0), .inl (.int x1)] [.inl (.int y0)] M =
  if y0 = 0 then
   some (.inl (some (.inl (.int 1))), M)
  else if x1 ≤ 0 then
   some (.inl (some (.inl (.int 0))), M)
  else if x1 = 0 then
   none
  else if ((M 18 x0 0) - (M 18 x0 0) / x1 * x1) = 0 then
   some (.inl (some (.inl (.int 1))), M)
  else some (.inl (some (.inl (.int 0))), M) := (rfl)
theorem eX6_isDilutionRight_12 {n : Nat} {x0 : Nat} {x1 : Int32} {y0 : Int32} {M : am_M} {res : am_O × am_M} (h : (if y0 = 0 then
   some (.inl (some (.inl (.int 1))), M)
  else if x1 ≤ 0 then
   some (.inl (some (.inl (.int 0))), M)
  else if x1 = 0 then
   none
  else if ((M 18 x0 0) - (M 18 x0 0) / x1 * x1) = 0 then
   some (.inl (some (.inl (.int 1))), M)
  else some (.inl (some (.inl (.int 0))), M)) = some res) : rX6_isDilutionRight (n + 100) 12 [.inr (6, x0), .inl (.int x1)] [.inl (.int y0)] M = some res := uX6_isDilutionRight ((gX6_isDilutionRight_12 fX6_dilutes (rX6_isDilutionRight n) x0 x1 y0 M).trans h)
def rX6_isComplete (n pc : Nat) (ls st : List am_V) (M : am_M) : am_R := am_run [fX6_areReagentsRight, fX6_areReadingsRight, fX6_isDilutionRight, fX0_isComplete] [] 2 am_X0 pX6_isComplete n pc ls st M
def gX6_isComplete (F0 F1 F2 F3 : am_F) (k : Nat → List am_V → List am_V → am_M → am_R) (pc : Nat) (ls st : List am_V) (M : am_M) : am_R := am_go [F0, F1, F2, F3] [] 2 am_X0 pX6_isComplete [14, 21, 45, 55] k 100 pc ls st M
theorem uX6_isComplete {n pc : Nat} {ls st : List am_V} {M : am_M} {res : am_O × am_M} (h : gX6_isComplete fX6_areReagentsRight fX6_areReadingsRight fX6_isDilutionRight fX0_isComplete (rX6_isComplete n) pc ls st M = some res) : rX6_isComplete (n + 100) pc ls st M = some res := am_go_ok h
theorem eX6_isComplete (x0 : Nat) (M : am_M) : fX6_isComplete [.inr (6, x0)] M = rX6_isComplete 100000 0 [.inr (6, x0)] [] M := am_meth_eq rfl rfl
set_option maxRecDepth 20000 in
theorem gX6_isComplete_0 (F0 F1 F2 F3 : am_F) (k : Nat → List am_V → List am_V → am_M → am_R) (x0 : Nat) (M : am_M) : gX6_isComplete F0 F1 F2 F3 k 0 [.inr (6, x0)] [] M =
  if (M 18 x0 0) < 1 then
   some (.inl (some (.inl (.int 0))), M)
  else am_ret [] 11 [] (k 14 [.inr (6, x0)]) (F0 [.inr (6, x0)] M) := (rfl)
theorem eX6_isComplete_0 {n : Nat} {x0 : Nat} {M : am_M} {res : am_O × am_M} (h : (if (M 18 x0 0) < 1 then
   some (.inl (some (.inl (.int 0))), M)
  else am_ret [] 11 [] (rX6_isComplete n 14 [.inr (6, x0)]) (fX6_areReagentsRight [.inr (6, x0)] M)) = some res) : rX6_isComplete (n + 100) 0 [.inr (6, x0)] [] M = some res := uX6_isComplete ((gX6_isComplete_0 fX6_areReagentsRight fX6_areReadingsRight fX6_isDilutionRight fX0_isComplete (rX6_isComplete n) x0 M).trans h)
set_option maxRecDepth 20000 in
theorem gX6_isComplete_14 (F0 F1 F2 F3 : am_F) (k : Nat → List am_V → List am_V → am_M → am_R) (x0 : Nat) (y0 : Int32) (M : am_M) : gX6_isComplete F0 F1 F2 F3 k 14 [.inr (6, x0)] [.inl (.int y0)] M =
  if y0 = 0 then
   some (.inl (some (.inl (.int 0))), M)
  else am_ret [] 18 [] (k 21 [.inr (6, x0)]) (F1 [.inr (6, x0)] M) := (rfl)
theorem eX6_isComplete_14 {n : Nat} {x0 : Nat} {y0 : Int32} {M : am_M} {res : am_O × am_M} (h : (if y0 = 0 then
   some (.inl (some (.inl (.int 0))), M)
  else am_ret [] 18 [] (rX6_isComplete n 21 [.inr (6, x0)]) (fX6_areReadingsRight [.inr (6, x0)] M)) = some res) : rX6_isComplete (n + 100) 14 [.inr (6, x0)] [.inl (.int y0)] M = some res := uX6_isComplete ((gX6_isComplete_14 fX6_areReagentsRight fX6_areReadingsRight fX6_isDilutionRight fX0_isComplete (rX6_isComplete n) x0 y0 M).trans h)
set_option maxRecDepth 20000 in
theorem gX6_isComplete_21 (F0 F1 F2 F3 : am_F) (k : Nat → List am_V → List am_V → am_M → am_R) (x0 : Nat) (y0 : Int32) (M : am_M) : gX6_isComplete F0 F1 F2 F3 k 21 [.inr (6, x0)] [.inl (.int y0)] M =
  if y0 = 0 then
   some (.inl (some (.inl (.int 0))), M)
  else if (M 18 x0 11) < (M 18 x0 10) then
   some (.inl (some (.inl (.int 0))), M)
  else am_ret [] 42 [] (k 45 [.inr (6, x0)]) (F2 [.inr (6, x0)] M) := (rfl)
theorem eX6_isComplete_21 {n : Nat} {x0 : Nat} {y0 : Int32} {M : am_M} {res : am_O × am_M} (h : (if y0 = 0 then
   some (.inl (some (.inl (.int 0))), M)
  else if (M 18 x0 11) < (M 18 x0 10) then
   some (.inl (some (.inl (.int 0))), M)
  else am_ret [] 42 [] (rX6_isComplete n 45 [.inr (6, x0)]) (fX6_isDilutionRight [.inr (6, x0)] M)) = some res) : rX6_isComplete (n + 100) 21 [.inr (6, x0)] [.inl (.int y0)] M = some res := uX6_isComplete ((gX6_isComplete_21 fX6_areReagentsRight fX6_areReadingsRight fX6_isDilutionRight fX0_isComplete (rX6_isComplete n) x0 y0 M).trans h)
set_option maxRecDepth 20000 in
theorem gX6_isComplete_45 (F0 F1 F2 F3 : am_F) (k : Nat → List am_V → List am_V → am_M → am_R) (x0 : Nat) (y0 : Int32) (M : am_M) : gX6_isComplete F0 F1 F2 F3 k 45 [.inr (6, x0)] [.inl (.int y0)] M =
  if y0 = 0 then
   some (.inl (some (.inl (.int 0))), M)
  else am_ret [] 52 [] (k 55 [.inr (6, x0)]) (F3 [.inr (0, x0)] M) := (rfl)
theorem eX6_isComplete_45 {n : Nat} {x0 : Nat} {y0 : Int32} {M : am_M} {res : am_O × am_M} (h : (if y0 = 0 then
   some (.inl (some (.inl (.int 0))), M)
  else am_ret [] 52 [] (rX6_isComplete n 55 [.inr (6, x0)]) (fX0_isComplete [.inr (0, x0)] M)) = some res) : rX6_isComplete (n + 100) 45 [.inr (6, x0)] [.inl (.int y0)] M = some res := uX6_isComplete ((gX6_isComplete_45 fX6_areReagentsRight fX6_areReadingsRight fX6_isDilutionRight fX0_isComplete (rX6_isComplete n) x0 y0 M).trans h)
set_option maxRecDepth 20000 in
theorem gX6_isComplete_55 (F0 F1 F2 F3 : am_F) (k : Nat → List am_V → List am_V → am_M → am_R) (x0 : Nat) (y0 : Int32) (M : am_M) : gX6_isComplete F0 F1 F2 F3 k 55 [.inr (6, x0)] [.inl (.int y0)] M =
  if y0 = 0 then
   some (.inl (some (.inl (.int 0))), M)
  else some (.inl (some (.inl (.int 1))), M) := (rfl)
theorem eX6_isComplete_55 {n : Nat} {x0 : Nat} {y0 : Int32} {M : am_M} {res : am_O × am_M} (h : (if y0 = 0 then
   some (.inl (some (.inl (.int 0))), M)
  else some (.inl (some (.inl (.int 1))), M)) = some res) : rX6_isComplete (n + 100) 55 [.inr (6, x0)] [.inl (.int y0)] M = some res := uX6_isComplete ((gX6_isComplete_55 fX6_areReagentsRight fX6_areReadingsRight fX6_isDilutionRight fX0_isComplete (rX6_isComplete n) x0 y0 M).trans h)
def rX6_isReadAt (n pc : Nat) (ls st : List am_V) (M : am_M) : am_R := am_run [fX9_isWithin] [] 2 am_X0 pX6_isReadAt n pc ls st M
def gX6_isReadAt (F0 : am_F) (k : Nat → List am_V → List am_V → am_M → am_R) (pc : Nat) (ls st : List am_V) (M : am_M) : am_R := am_go [F0] [] 2 am_X0 pX6_isReadAt [18] k 100 pc ls st M
theorem uX6_isReadAt {n pc : Nat} {ls st : List am_V} {M : am_M} {res : am_O × am_M} (h : gX6_isReadAt fX9_isWithin (rX6_isReadAt n) pc ls st M = some res) : rX6_isReadAt (n + 100) pc ls st M = some res := am_go_ok h
theorem eX6_isReadAt (x0 : Nat) (x1 : Int32) (M : am_M) : fX6_isReadAt [.inr (6, x0), .inl (.int x1)] M = rX6_isReadAt 100000 0 [.inr (6, x0), .inl (.int x1)] [] M := am_meth_eq rfl rfl
set_option maxRecDepth 20000 in
theorem gX6_isReadAt_0 (F0 : am_F) (k : Nat → List am_V → List am_V → am_M → am_R) (x0 : Nat) (x1 : Int32) (M : am_M) : gX6_isReadAt F0 k 0 [.inr (6, x0), .inl (.int x1)] [] M =
  am_ret [] 15 [] (k 18 [.inr (6, x0), .inl (.int x1)]) (F0 [.inl (.int x1), .inl (.int (M 18 x0 7)), .inl (.int (M 18 x0 8))] M) := (rfl)
theorem eX6_isReadAt_0 {n : Nat} {x0 : Nat} {x1 : Int32} {M : am_M} {res : am_O × am_M} (h : (am_ret [] 15 [] (rX6_isReadAt n 18 [.inr (6, x0), .inl (.int x1)]) (fX9_isWithin [.inl (.int x1), .inl (.int (M 18 x0 7)), .inl (.int (M 18 x0 8))] M)) = some res) : rX6_isReadAt (n + 100) 0 [.inr (6, x0), .inl (.int x1)] [] M = some res := uX6_isReadAt ((gX6_isReadAt_0 fX9_isWithin (rX6_isReadAt n) x0 x1 M).trans h)
set_option maxRecDepth 20000 in
theorem gX6_isReadAt_18 (F0 : am_F) (k : Nat → List am_V → List am_V → am_M → am_R) (x0 : Nat) (x1 : Int32) (y0 : Int32) (M : am_M) : gX6_isReadAt F0 k 18 [.inr (6, x0), .inl (.int x1)] [.inl (.int y0)] M =
  Option.map (fun o => (o, M)) (am_fin 2 .ireturn [.inr (6, x0), .inl (.int x1)] [.inl (.int y0)]) := (rfl)
theorem eX6_isReadAt_18 {n : Nat} {x0 : Nat} {x1 : Int32} {y0 : Int32} {M : am_M} {res : am_O × am_M} (h : (Option.map (fun o => (o, M)) (am_fin 2 .ireturn [.inr (6, x0), .inl (.int x1)] [.inl (.int y0)])) = some res) : rX6_isReadAt (n + 100) 18 [.inr (6, x0), .inl (.int x1)] [.inl (.int y0)] M = some res := uX6_isReadAt ((gX6_isReadAt_18 fX9_isWithin (rX6_isReadAt n) x0 x1 y0 M).trans h)
def rX6_isOverAt (n pc : Nat) (ls st : List am_V) (M : am_M) : am_R := am_run [] [] 2 am_X0 pX6_isOverAt n pc ls st M
def gX6_isOverAt (k : Nat → List am_V → List am_V → am_M → am_R) (pc : Nat) (ls st : List am_V) (M : am_M) : am_R := am_go [] [] 2 am_X0 pX6_isOverAt [] k 100 pc ls st M
theorem uX6_isOverAt {n pc : Nat} {ls st : List am_V} {M : am_M} {res : am_O × am_M} (h : gX6_isOverAt (rX6_isOverAt n) pc ls st M = some res) : rX6_isOverAt (n + 100) pc ls st M = some res := am_go_ok h
theorem eX6_isOverAt (x0 : Nat) (x1 : Int32) (M : am_M) : fX6_isOverAt [.inr (6, x0), .inl (.int x1)] M = rX6_isOverAt 100000 0 [.inr (6, x0), .inl (.int x1)] [] M := am_meth_eq rfl rfl
set_option maxRecDepth 20000 in
theorem gX6_isOverAt_0 (k : Nat → List am_V → List am_V → am_M → am_R) (x0 : Nat) (x1 : Int32) (M : am_M) : gX6_isOverAt k 0 [.inr (6, x0), .inl (.int x1)] [] M =
  if x1 ≤ (M 18 x0 8) then
   some (.inl (some (.inl (.int 0))), M)
  else some (.inl (some (.inl (.int 1))), M) := (rfl)
theorem eX6_isOverAt_0 {n : Nat} {x0 : Nat} {x1 : Int32} {M : am_M} {res : am_O × am_M} (h : (if x1 ≤ (M 18 x0 8) then
   some (.inl (some (.inl (.int 0))), M)
  else some (.inl (some (.inl (.int 1))), M)) = some res) : rX6_isOverAt (n + 100) 0 [.inr (6, x0), .inl (.int x1)] [] M = some res := uX6_isOverAt ((gX6_isOverAt_0 (rX6_isOverAt n) x0 x1 M).trans h)
def rX6_asksAgain (n pc : Nat) (ls st : List am_V) (M : am_M) : am_R := am_run [] [] 2 am_X0 pX6_asksAgain n pc ls st M
def gX6_asksAgain (k : Nat → List am_V → List am_V → am_M → am_R) (pc : Nat) (ls st : List am_V) (M : am_M) : am_R := am_go [] [] 2 am_X0 pX6_asksAgain [] k 100 pc ls st M
theorem uX6_asksAgain {n pc : Nat} {ls st : List am_V} {M : am_M} {res : am_O × am_M} (h : gX6_asksAgain (rX6_asksAgain n) pc ls st M = some res) : rX6_asksAgain (n + 100) pc ls st M = some res := am_go_ok h
theorem eX6_asksAgain (x0 : Nat) (x1 : Int32) (M : am_M) : fX6_asksAgain [.inr (6, x0), .inl (.int x1)] M = rX6_asksAgain 100000 0 [.inr (6, x0), .inl (.int x1)] [] M := am_meth_eq rfl rfl
set_option maxRecDepth 20000 in
theorem gX6_asksAgain_0 (k : Nat → List am_V → List am_V → am_M → am_R) (x0 : Nat) (x1 : Int32) (M : am_M) : gX6_asksAgain k 0 [.inr (6, x0), .inl (.int x1)] [] M =
  if (M 18 x0 12) = 2 then
   if (x1 &&& 2) = 0 then
    if (M 18 x0 12) = 1 then
     if (x1 &&& 3) = 0 then
      some (.inl (some (.inl (.int 0))), M)
     else some (.inl (some (.inl (.int 1))), M)
    else some (.inl (some (.inl (.int 0))), M)
   else some (.inl (some (.inl (.int 1))), M)
  else if (M 18 x0 12) = 1 then
   if (x1 &&& 3) = 0 then
    some (.inl (some (.inl (.int 0))), M)
   else some (.inl (some (.inl (.int 1))), M)
  else some (.inl (some (.inl (.int 0))), M) := (rfl)
theorem eX6_asksAgain_0 {n : Nat} {x0 : Nat} {x1 : Int32} {M : am_M} {res : am_O × am_M} (h : (if (M 18 x0 12) = 2 then
   if (x1 &&& 2) = 0 then
    if (M 18 x0 12) = 1 then
     if (x1 &&& 3) = 0 then
      some (.inl (some (.inl (.int 0))), M)
     else some (.inl (some (.inl (.int 1))), M)
    else some (.inl (some (.inl (.int 0))), M)
   else some (.inl (some (.inl (.int 1))), M)
  else if (M 18 x0 12) = 1 then
   if (x1 &&& 3) = 0 then
    some (.inl (some (.inl (.int 0))), M)
   else some (.inl (some (.inl (.int 1))), M)
  else some (.inl (some (.inl (.int 0))), M)) = some res) : rX6_asksAgain (n + 100) 0 [.inr (6, x0), .inl (.int x1)] [] M = some res := uX6_asksAgain ((gX6_asksAgain_0 (rX6_asksAgain n) x0 x1 M).trans h)
def rX6_limitFlags (n pc : Nat) (ls st : List am_V) (M : am_M) : am_R := am_run [] [] 1 am_X0 pX6_limitFlags n pc ls st M
def gX6_limitFlags (k : Nat → List am_V → List am_V → am_M → am_R) (pc : Nat) (ls st : List am_V) (M : am_M) : am_R := am_go [] [] 1 am_X0 pX6_limitFlags [] k 100 pc ls st M
theorem uX6_limitFlags {n pc : Nat} {ls st : List am_V} {M : am_M} {res : am_O × am_M} (h : gX6_limitFlags (rX6_limitFlags n) pc ls st M = some res) : rX6_limitFlags (n + 100) pc ls st M = some res := am_go_ok h
theorem eX6_limitFlags (x0 : Nat) (x1 : Int32) (M : am_M) : fX6_limitFlags [.inr (6, x0), .inl (.int x1)] M = rX6_limitFlags 100000 0 [.inr (6, x0), .inl (.int x1)] [] M := am_meth_eq rfl rfl
set_option maxRecDepth 20000 in
theorem gX6_limitFlags_0 (k : Nat → List am_V → List am_V → am_M → am_R) (x0 : Nat) (x1 : Int32) (M : am_M) : gX6_limitFlags k 0 [.inr (6, x0), .inl (.int x1)] [] M =
  if (M 18 x0 10) ≤ x1 then
   if x1 ≤ (M 18 x0 11) then
    some (.inl (some (.inl (.int 0))), M)
   else some (.inl (some (.inl (.int 2))), M)
  else if x1 ≤ (M 18 x0 11) then
   some (.inl (some (.inl (.int 1))), M)
  else some (.inl (some (.inl (.int 3))), M) := (rfl)
theorem eX6_limitFlags_0 {n : Nat} {x0 : Nat} {x1 : Int32} {M : am_M} {res : am_O × am_M} (h : (if (M 18 x0 10) ≤ x1 then
   if x1 ≤ (M 18 x0 11) then
    some (.inl (some (.inl (.int 0))), M)
   else some (.inl (some (.inl (.int 2))), M)
  else if x1 ≤ (M 18 x0 11) then
   some (.inl (some (.inl (.int 1))), M)
  else some (.inl (some (.inl (.int 3))), M)) = some res) : rX6_limitFlags (n + 100) 0 [.inr (6, x0), .inl (.int x1)] [] M = some res := uX6_limitFlags ((gX6_limitFlags_0 (rX6_limitFlags n) x0 x1 M).trans h)
def rX6_valueAt (n pc : Nat) (ls st : List am_V) (M : am_M) : am_R := am_run [fX0_valueAt] [] 3 am_X0 pX6_valueAt n pc ls st M
def gX6_valueAt (F0 : am_F) (k : Nat → List am_V → List am_V → am_M → am_R) (pc : Nat) (ls st : List am_V) (M : am_M) : am_R := am_go [F0] [] 3 am_X0 pX6_valueAt [8] k 100 pc ls st M
theorem uX6_valueAt {n pc : Nat} {ls st : List am_V} {M : am_M} {res : am_O × am_M} (h : gX6_valueAt fX0_valueAt (rX6_valueAt n) pc ls st M = some res) : rX6_valueAt (n + 100) pc ls st M = some res := am_go_ok h
theorem eX6_valueAt (x0 : Nat) (x1 : Int64) (x2 : Int32) (M : am_M) : fX6_valueAt [.inr (6, x0), .inl (.long x1), .inl (.int x2)] M = rX6_valueAt 100000 0 [.inr (6, x0), .inl (.long x1), am_D, .inl (.int x2), am_D, am_D] [] M := am_meth_eq rfl rfl
set_option maxRecDepth 20000 in
theorem gX6_valueAt_0 (F0 : am_F) (k : Nat → List am_V → List am_V → am_M → am_R) (x0 : Nat) (x1 : Int64) (x3 : Int32) (M : am_M) : gX6_valueAt F0 k 0 [.inr (6, x0), .inl (.long x1), am_D, .inl (.int x3), am_D, am_D] [] M =
  am_ret [] 5 [] (k 8 [.inr (6, x0), .inl (.long x1), am_D, .inl (.int x3), am_D, am_D]) (F0 [.inr (0, x0), .inl (.long x1)] M) := (rfl)
theorem eX6_valueAt_0 {n : Nat} {x0 : Nat} {x1 : Int64} {x3 : Int32} {M : am_M} {res : am_O × am_M} (h : (am_ret [] 5 [] (rX6_valueAt n 8 [.inr (6, x0), .inl (.long x1), am_D, .inl (.int x3), am_D, am_D]) (fX0_valueAt [.inr (0, x0), .inl (.long x1)] M)) = some res) : rX6_valueAt (n + 100) 0 [.inr (6, x0), .inl (.long x1), am_D, .inl (.int x3), am_D, am_D] [] M = some res := uX6_valueAt ((gX6_valueAt_0 fX0_valueAt (rX6_valueAt n) x0 x1 x3 M).trans h)
set_option maxRecDepth 20000 in
theorem gX6_valueAt_8 (F0 : am_F) (k : Nat → List am_V → List am_V → am_M → am_R) (x0 : Nat) (x1 : Int64) (x3 : Int32) (y0 : Int64) (M : am_M) : gX6_valueAt F0 k 8 [.inr (6, x0), .inl (.long x1), am_D, .inl (.int x3), am_D, am_D] [.inl (.long y0)] M =
  if x3 = 0 then
   some (.inl (some (.inl (.long y0))), M)
  else some (.inl (some (.inl (.long (y0 * (Int32.toInt64 (M 18 x0 13)))))), M) := (rfl)
theorem eX6_valueAt_8 {n : Nat} {x0 : Nat} {x1 : Int64} {x3 : Int32} {y0 : Int64} {M : am_M} {res : am_O × am_M} (h : (if x3 = 0 then
   some (.inl (some (.inl (.long y0))), M)
  else some (.inl (some (.inl (.long (y0 * (Int32.toInt64 (M 18 x0 13)))))), M)) = some res) : rX6_valueAt (n + 100) 8 [.inr (6, x0), .inl (.long x1), am_D, .inl (.int x3), am_D, am_D] [.inl (.long y0)] M = some res := uX6_valueAt ((gX6_valueAt_8 fX0_valueAt (rX6_valueAt n) x0 x1 x3 y0 M).trans h)
def rX6_rateOf (n pc : Nat) (ls st : List am_V) (M : am_M) : am_R := am_run [fX9_rounded] [] 3 am_X0 pX6_rateOf n pc ls st M
def gX6_rateOf (F0 : am_F) (k : Nat → List am_V → List am_V → am_M → am_R) (pc : Nat) (ls st : List am_V) (M : am_M) : am_R := am_go [F0] [] 3 am_X0 pX6_rateOf [2, 5, 8, 11, 14, 33, 45, 55, 69, 101] k 100 pc ls st M
theorem uX6_rateOf {n pc : Nat} {ls st : List am_V} {M : am_M} {res : am_O × am_M} (h : gX6_rateOf fX9_rounded (rX6_rateOf n) pc ls st M = some res) : rX6_rateOf (n + 100) pc ls st M = some res := am_go_ok h
theorem eX6_rateOf (x0 : Nat) (x1 : Int32) (M : am_M) : fX6_rateOf [.inr (13, x0), .inl (.int x1)] M = rX6_rateOf 100000 0 [.inr (13, x0), .inl (.int x1), am_D, am_D, am_D, am_D, am_D, am_D, am_D, am_D, am_D] [] M := am_meth_eq rfl rfl
set_option maxRecDepth 20000 in
theorem gX6_rateOf_0 (F0 : am_F) (k : Nat → List am_V → List am_V → am_M → am_R) (x0 : Nat) (x1 : Int32) (M : am_M) : gX6_rateOf F0 k 0 [.inr (13, x0), .inl (.int x1), am_D, am_D, am_D, am_D, am_D, am_D, am_D, am_D, am_D] [] M =
  k 2 [.inr (13, x0), .inl (.int x1), .inl (.long 0), am_D, am_D, am_D, am_D, am_D, am_D, am_D, am_D] [] M := (rfl)
theorem eX6_rateOf_0 {n : Nat} {x0 : Nat} {x1 : Int32} {M : am_M} {res : am_O × am_M} (h : (rX6_rateOf n 2 [.inr (13, x0), .inl (.int x1), .inl (.long 0), am_D, am_D, am_D, am_D, am_D, am_D, am_D, am_D] [] M) = some res) : rX6_rateOf (n + 100) 0 [.inr (13, x0), .inl (.int x1), am_D, am_D, am_D, am_D, am_D, am_D, am_D, am_D, am_D] [] M = some res := uX6_rateOf ((gX6_rateOf_0 fX9_rounded (rX6_rateOf n) x0 x1 M).trans h)
set_option maxRecDepth 20000 in
theorem gX6_rateOf_2 (F0 : am_F) (k : Nat → List am_V → List am_V → am_M → am_R) (x0 : Nat) (x1 : Int32) (x2 : Int64) (M : am_M) : gX6_rateOf F0 k 2 [.inr (13, x0), .inl (.int x1), .inl (.long x2), am_D, am_D, am_D, am_D, am_D, am_D, am_D, am_D] [] M =
  k 5 [.inr (13, x0), .inl (.int x1), .inl (.long x2), am_D, .inl (.long 0), am_D, am_D, am_D, am_D, am_D, am_D] [] M := (rfl)
theorem eX6_rateOf_2 {n : Nat} {x0 : Nat} {x1 : Int32} {x2 : Int64} {M : am_M} {res : am_O × am_M} (h : (rX6_rateOf n 5 [.inr (13, x0), .inl (.int x1), .inl (.long x2), am_D, .inl (.long 0), am_D, am_D, am_D, am_D, am_D, am_D] [] M) = some res) : rX6_rateOf (n + 100) 2 [.inr (13, x0), .inl (.int x1), .inl (.long x2), am_D, am_D, am_D, am_D, am_D, am_D, am_D, am_D] [] M = some res := uX6_rateOf ((gX6_rateOf_2 fX9_rounded (rX6_rateOf n) x0 x1 x2 M).trans h)
set_option maxRecDepth 20000 in
theorem gX6_rateOf_5 (F0 : am_F) (k : Nat → List am_V → List am_V → am_M → am_R) (x0 : Nat) (x1 : Int32) (x2 : Int64) (x4 : Int64) (M : am_M) : gX6_rateOf F0 k 5 [.inr (13, x0), .inl (.int x1), .inl (.long x2), am_D, .inl (.long x4), am_D, am_D, am_D, am_D, am_D, am_D] [] M =
  k 8 [.inr (13, x0), .inl (.int x1), .inl (.long x2), am_D, .inl (.long x4), am_D, .inl (.long 0), am_D, am_D, am_D, am_D] [] M := (rfl)
theorem eX6_rateOf_5 {n : Nat} {x0 : Nat} {x1 : Int32} {x2 : Int64} {x4 : Int64} {M : am_M} {res : am_O × am_M} (h : (rX6_rateOf n 8 [.inr (13, x0), .inl (.int x1), .inl (.long x2), am_D, .inl (.long x4), am_D, .inl (.long 0), am_D, am_D, am_D, am_D] [] M) = some res) : rX6_rateOf (n + 100) 5 [.inr (13, x0), .inl (.int x1), .inl (.long x2), am_D, .inl (.long x4), am_D, am_D, am_D, am_D, am_D, am_D] [] M = some res := uX6_rateOf ((gX6_rateOf_5 fX9_rounded (rX6_rateOf n) x0 x1 x2 x4 M).trans h)
set_option maxRecDepth 20000 in
theorem gX6_rateOf_8 (F0 : am_F) (k : Nat → List am_V → List am_V → am_M → am_R) (x0 : Nat) (x1 : Int32) (x2 : Int64) (x4 : Int64) (x6 : Int64) (M : am_M) : gX6_rateOf F0 k 8 [.inr (13, x0), .inl (.int x1), .inl (.long x2), am_D, .inl (.long x4), am_D, .inl (.long x6), am_D, am_D, am_D, am_D] [] M =
  k 11 [.inr (13, x0), .inl (.int x1), .inl (.long x2), am_D, .inl (.long x4), am_D, .inl (.long x6), am_D, .inl (.long 0), am_D, am_D] [] M := (rfl)
theorem eX6_rateOf_8 {n : Nat} {x0 : Nat} {x1 : Int32} {x2 : Int64} {x4 : Int64} {x6 : Int64} {M : am_M} {res : am_O × am_M} (h : (rX6_rateOf n 11 [.inr (13, x0), .inl (.int x1), .inl (.long x2), am_D, .inl (.long x4), am_D, .inl (.long x6), am_D, .inl (.long 0), am_D, am_D] [] M) = some res) : rX6_rateOf (n + 100) 8 [.inr (13, x0), .inl (.int x1), .inl (.long x2), am_D, .inl (.long x4), am_D, .inl (.long x6), am_D, am_D, am_D, am_D] [] M = some res := uX6_rateOf ((gX6_rateOf_8 fX9_rounded (rX6_rateOf n) x0 x1 x2 x4 x6 M).trans h)
set_option maxRecDepth 20000 in
theorem gX6_rateOf_11 (F0 : am_F) (k : Nat → List am_V → List am_V → am_M → am_R) (x0 : Nat) (x1 : Int32) (x2 : Int64) (x4 : Int64) (x6 : Int64) (x8 : Int64) (M : am_M) : gX6_rateOf F0 k 11 [.inr (13, x0), .inl (.int x1), .inl (.long x2), am_D, .inl (.long x4), am_D, .inl (.long x6), am_D, .inl (.long x8), am_D, am_D] [] M =
  k 14 [.inr (13, x0), .inl (.int x1), .inl (.long x2), am_D, .inl (.long x4), am_D, .inl (.long x6), am_D, .inl (.long x8), am_D, .inl (.int 0)] [] M := (rfl)
theorem eX6_rateOf_11 {n : Nat} {x0 : Nat} {x1 : Int32} {x2 : Int64} {x4 : Int64} {x6 : Int64} {x8 : Int64} {M : am_M} {res : am_O × am_M} (h : (rX6_rateOf n 14 [.inr (13, x0), .inl (.int x1), .inl (.long x2), am_D, .inl (.long x4), am_D, .inl (.long x6), am_D, .inl (.long x8), am_D, .inl (.int 0)] [] M) = some res) : rX6_rateOf (n + 100) 11 [.inr (13, x0), .inl (.int x1), .inl (.long x2), am_D, .inl (.long x4), am_D, .inl (.long x6), am_D, .inl (.long x8), am_D, am_D] [] M = some res := uX6_rateOf ((gX6_rateOf_11 fX9_rounded (rX6_rateOf n) x0 x1 x2 x4 x6 x8 M).trans h)
set_option maxRecDepth 20000 in
theorem gX6_rateOf_14 (F0 : am_F) (k : Nat → List am_V → List am_V → am_M → am_R) (x0 : Nat) (x1 : Int32) (x2 : Int64) (x4 : Int64) (x6 : Int64) (x8 : Int64) (x10 : Int32) (M : am_M) : gX6_rateOf F0 k 14 [.inr (13, x0), .inl (.int x1), .inl (.long x2), am_D, .inl (.long x4), am_D, .inl (.long x6), am_D, .inl (.long x8), am_D, .inl (.int x10)] [] M =
  if x1 ≤ x10 then
   am_ret [] 98 [] (k 101 [.inr (13, x0), .inl (.int x1), .inl (.long x2), am_D, .inl (.long x4), am_D, .inl (.long x6), am_D, .inl (.long x8), am_D, .inl (.int x10)]) (F0 [.inl (.long (1000 * (((Int32.toInt64 x1) * x8) - (x2 * x6)))), .inl (.long (((Int32.toInt64 x1) * x4) - (x2 * x2)))] M)
  else if (Int32.ofNat 6) ≤ x10 then
   am_ret [] 98 [] (k 101 [.inr (13, x0), .inl (.int x1), .inl (.long x2), am_D, .inl (.long x4), am_D, .inl (.long x6), am_D, .inl (.long x8), am_D, .inl (.int x10)]) (F0 [.inl (.long (1000 * (((Int32.toInt64 x1) * x8) - (x2 * x6)))), .inl (.long (((Int32.toInt64 x1) * x4) - (x2 * x2)))] M)
  else k 33 [.inr (13, x0), .inl (.int x1), .inl (.long (x2 + (Int32.toInt64 x10))), am_D, .inl (.long x4), am_D, .inl (.long x6), am_D, .inl (.long x8), am_D, .inl (.int x10)] [] M := (rfl)
theorem eX6_rateOf_14 {n : Nat} {x0 : Nat} {x1 : Int32} {x2 : Int64} {x4 : Int64} {x6 : Int64} {x8 : Int64} {x10 : Int32} {M : am_M} {res : am_O × am_M} (h : (if x1 ≤ x10 then
   am_ret [] 98 [] (rX6_rateOf n 101 [.inr (13, x0), .inl (.int x1), .inl (.long x2), am_D, .inl (.long x4), am_D, .inl (.long x6), am_D, .inl (.long x8), am_D, .inl (.int x10)]) (fX9_rounded [.inl (.long (1000 * (((Int32.toInt64 x1) * x8) - (x2 * x6)))), .inl (.long (((Int32.toInt64 x1) * x4) - (x2 * x2)))] M)
  else if (Int32.ofNat 6) ≤ x10 then
   am_ret [] 98 [] (rX6_rateOf n 101 [.inr (13, x0), .inl (.int x1), .inl (.long x2), am_D, .inl (.long x4), am_D, .inl (.long x6), am_D, .inl (.long x8), am_D, .inl (.int x10)]) (fX9_rounded [.inl (.long (1000 * (((Int32.toInt64 x1) * x8) - (x2 * x6)))), .inl (.long (((Int32.toInt64 x1) * x4) - (x2 * x2)))] M)
  else rX6_rateOf n 33 [.inr (13, x0), .inl (.int x1), .inl (.long (x2 + (Int32.toInt64 x10))), am_D, .inl (.long x4), am_D, .inl (.long x6), am_D, .inl (.long x8), am_D, .inl (.int x10)] [] M) = some res) : rX6_rateOf (n + 100) 14 [.inr (13, x0), .inl (.int x1), .inl (.long x2), am_D, .inl (.long x4), am_D, .inl (.long x6), am_D, .inl (.long x8), am_D, .inl (.int x10)] [] M = some res := uX6_rateOf ((gX6_rateOf_14 fX9_rounded (rX6_rateOf n) x0 x1 x2 x4 x6 x8 x10 M).trans h)
set_option maxRecDepth 20000 in
theorem gX6_rateOf_101 (F0 : am_F) (k : Nat → List am_V → List am_V → am_M → am_R) (x0 : Nat) (x1 : Int32) (x2 : Int64) (x4 : Int64) (x6 : Int64) (x8 : Int64) (x10 : Int32) (y0 : Int64) (M : am_M) : gX6_rateOf F0 k 101 [.inr (13, x0), .inl (.int x1), .inl (.long x2), am_D, .inl (.long x4), am_D, .inl (.long x6), am_D, .inl (.long x8), am_D, .inl (.int x10)] [.inl (.long y0)] M =
  some (.inl (some (.inl (.long y0))), M) := (rfl)
theorem eX6_rateOf_101 {n : Nat} {x0 : Nat} {x1 : Int32} {x2 : Int64} {x4 : Int64} {x6 : Int64} {x8 : Int64} {x10 : Int32} {y0 : Int64} {M : am_M} {res : am_O × am_M} (h : (some (.inl (some (.inl (.long y0))), M)) = some res) : rX6_rateOf (n + 100) 101 [.inr (13, x0), .inl (.int x1), .inl (.long x2), am_D, .inl (.long x4), am_D, .inl (.long x6), am_D, .inl (.long x8), am_D, .inl (.int x10)] [.inl (.long y0)] M = some res := uX6_rateOf ((gX6_rateOf_101 fX9_rounded (rX6_rateOf n) x0 x1 x2 x4 x6 x8 x10 y0 M).trans h)
set_option maxRecDepth 20000 in
theorem gX6_rateOf_33 (F0 : am_F) (k : Nat → List am_V → List am_V → am_M → am_R) (x0 : Nat) (x1 : Int32) (x2 : Int64) (x4 : Int64) (x6 : Int64) (x8 : Int64) (x10 : Int32) (M : am_M) : gX6_rateOf F0 k 33 [.inr (13, x0), .inl (.int x1), .inl (.long x2), am_D, .inl (.long x4), am_D, .inl (.long x6), am_D, .inl (.long x8), am_D, .inl (.int x10)] [] M =
  k 45 [.inr (13, x0), .inl (.int x1), .inl (.long x2), am_D, .inl (.long (x4 + ((Int32.toInt64 x10) * (Int32.toInt64 x10)))), am_D, .inl (.long x6), am_D, .inl (.long x8), am_D, .inl (.int x10)] [] M := (rfl)
theorem eX6_rateOf_33 {n : Nat} {x0 : Nat} {x1 : Int32} {x2 : Int64} {x4 : Int64} {x6 : Int64} {x8 : Int64} {x10 : Int32} {M : am_M} {res : am_O × am_M} (h : (rX6_rateOf n 45 [.inr (13, x0), .inl (.int x1), .inl (.long x2), am_D, .inl (.long (x4 + ((Int32.toInt64 x10) * (Int32.toInt64 x10)))), am_D, .inl (.long x6), am_D, .inl (.long x8), am_D, .inl (.int x10)] [] M) = some res) : rX6_rateOf (n + 100) 33 [.inr (13, x0), .inl (.int x1), .inl (.long x2), am_D, .inl (.long x4), am_D, .inl (.long x6), am_D, .inl (.long x8), am_D, .inl (.int x10)] [] M = some res := uX6_rateOf ((gX6_rateOf_33 fX9_rounded (rX6_rateOf n) x0 x1 x2 x4 x6 x8 x10 M).trans h)
set_option maxRecDepth 20000 in
theorem gX6_rateOf_45 (F0 : am_F) (k : Nat → List am_V → List am_V → am_M → am_R) (x0 : Nat) (x1 : Int32) (x2 : Int64) (x4 : Int64) (x6 : Int64) (x8 : Int64) (x10 : Int32) (M : am_M) : gX6_rateOf F0 k 45 [.inr (13, x0), .inl (.int x1), .inl (.long x2), am_D, .inl (.long x4), am_D, .inl (.long x6), am_D, .inl (.long x8), am_D, .inl (.int x10)] [] M =
  if am_in x10 6 then
   k 55 [.inr (13, x0), .inl (.int x1), .inl (.long x2), am_D, .inl (.long x4), am_D, .inl (.long (x6 + (Int32.toInt64 (M 13 x0 (Int32.toNatClampNeg x10))))), am_D, .inl (.long x8), am_D, .inl (.int x10)] [] M
  else none := (rfl)
theorem eX6_rateOf_45 {n : Nat} {x0 : Nat} {x1 : Int32} {x2 : Int64} {x4 : Int64} {x6 : Int64} {x8 : Int64} {x10 : Int32} {M : am_M} {res : am_O × am_M} (h : (if am_in x10 6 then
   rX6_rateOf n 55 [.inr (13, x0), .inl (.int x1), .inl (.long x2), am_D, .inl (.long x4), am_D, .inl (.long (x6 + (Int32.toInt64 (M 13 x0 (Int32.toNatClampNeg x10))))), am_D, .inl (.long x8), am_D, .inl (.int x10)] [] M
  else none) = some res) : rX6_rateOf (n + 100) 45 [.inr (13, x0), .inl (.int x1), .inl (.long x2), am_D, .inl (.long x4), am_D, .inl (.long x6), am_D, .inl (.long x8), am_D, .inl (.int x10)] [] M = some res := uX6_rateOf ((gX6_rateOf_45 fX9_rounded (rX6_rateOf n) x0 x1 x2 x4 x6 x8 x10 M).trans h)
set_option maxRecDepth 20000 in
theorem gX6_rateOf_55 (F0 : am_F) (k : Nat → List am_V → List am_V → am_M → am_R) (x0 : Nat) (x1 : Int32) (x2 : Int64) (x4 : Int64) (x6 : Int64) (x8 : Int64) (x10 : Int32) (M : am_M) : gX6_rateOf F0 k 55 [.inr (13, x0), .inl (.int x1), .inl (.long x2), am_D, .inl (.long x4), am_D, .inl (.long x6), am_D, .inl (.long x8), am_D, .inl (.int x10)] [] M =
  if am_in x10 6 then
   k 69 [.inr (13, x0), .inl (.int x1), .inl (.long x2), am_D, .inl (.long x4), am_D, .inl (.long x6), am_D, .inl (.long (x8 + ((Int32.toInt64 x10) * (Int32.toInt64 (M 13 x0 (Int32.toNatClampNeg x10)))))), am_D, .inl (.int x10)] [] M
  else none := (rfl)
theorem eX6_rateOf_55 {n : Nat} {x0 : Nat} {x1 : Int32} {x2 : Int64} {x4 : Int64} {x6 : Int64} {x8 : Int64} {x10 : Int32} {M : am_M} {res : am_O × am_M} (h : (if am_in x10 6 then
   rX6_rateOf n 69 [.inr (13, x0), .inl (.int x1), .inl (.long x2), am_D, .inl (.long x4), am_D, .inl (.long x6), am_D, .inl (.long (x8 + ((Int32.toInt64 x10) * (Int32.toInt64 (M 13 x0 (Int32.toNatClampNeg x10)))))), am_D, .inl (.int x10)] [] M
  else none) = some res) : rX6_rateOf (n + 100) 55 [.inr (13, x0), .inl (.int x1), .inl (.long x2), am_D, .inl (.long x4), am_D, .inl (.long x6), am_D, .inl (.long x8), am_D, .inl (.int x10)] [] M = some res := uX6_rateOf ((gX6_rateOf_55 fX9_rounded (rX6_rateOf n) x0 x1 x2 x4 x6 x8 x10 M).trans h)
set_option maxRecDepth 20000 in
theorem gX6_rateOf_69 (F0 : am_F) (k : Nat → List am_V → List am_V → am_M → am_R) (x0 : Nat) (x1 : Int32) (x2 : Int64) (x4 : Int64) (x6 : Int64) (x8 : Int64) (x10 : Int32) (M : am_M) : gX6_rateOf F0 k 69 [.inr (13, x0), .inl (.int x1), .inl (.long x2), am_D, .inl (.long x4), am_D, .inl (.long x6), am_D, .inl (.long x8), am_D, .inl (.int x10)] [] M =
  k 14 [.inr (13, x0), .inl (.int x1), .inl (.long x2), am_D, .inl (.long x4), am_D, .inl (.long x6), am_D, .inl (.long x8), am_D, .inl (.int (x10 + 1))] [] M := (rfl)
theorem eX6_rateOf_69 {n : Nat} {x0 : Nat} {x1 : Int32} {x2 : Int64} {x4 : Int64} {x6 : Int64} {x8 : Int64} {x10 : Int32} {M : am_M} {res : am_O × am_M} (h : (rX6_rateOf n 14 [.inr (13, x0), .inl (.int x1), .inl (.long x2), am_D, .inl (.long x4), am_D, .inl (.long x6), am_D, .inl (.long x8), am_D, .inl (.int (x10 + 1))] [] M) = some res) : rX6_rateOf (n + 100) 69 [.inr (13, x0), .inl (.int x1), .inl (.long x2), am_D, .inl (.long x4), am_D, .inl (.long x6), am_D, .inl (.long x8), am_D, .inl (.int x10)] [] M = some res := uX6_rateOf ((gX6_rateOf_69 fX9_rounded (rX6_rateOf n) x0 x1 x2 x4 x6 x8 x10 M).trans h)
def rX6_formulaOf (n pc : Nat) (ls st : List am_V) (M : am_M) : am_R := am_run [fX9_isWithin, fX6_rateOf] [] 3 am_X0 pX6_formulaOf n pc ls st M
def gX6_formulaOf (F0 F1 : am_F) (k : Nat → List am_V → List am_V → am_M → am_R) (pc : Nat) (ls st : List am_V) (M : am_M) : am_R := am_go [F0, F1] [] 3 am_X0 pX6_formulaOf [7, 28] k 100 pc ls st M
theorem uX6_formulaOf {n pc : Nat} {ls st : List am_V} {M : am_M} {res : am_O × am_M} (h : gX6_formulaOf fX9_isWithin fX6_rateOf (rX6_formulaOf n) pc ls st M = some res) : rX6_formulaOf (n + 100) pc ls st M = some res := am_go_ok h
theorem eX6_formulaOf (x0 : Nat) (x1 : Nat) (x2 : Int32) (M : am_M) : fX6_formulaOf [.inr (6, x0), .inr (13, x1), .inl (.int x2)] M = rX6_formulaOf 100000 0 [.inr (6, x0), .inr (13, x1), .inl (.int x2), am_D] [] M := am_meth_eq rfl rfl
set_option maxRecDepth 20000 in
theorem gX6_formulaOf_0 (F0 F1 : am_F) (k : Nat → List am_V → List am_V → am_M → am_R) (x0 : Nat) (x1 : Nat) (x2 : Int32) (M : am_M) : gX6_formulaOf F0 F1 k 0 [.inr (6, x0), .inr (13, x1), .inl (.int x2), am_D] [] M =
  am_ret [] 4 [] (k 7 [.inr (6, x0), .inr (13, x1), .inl (.int x2), am_D]) (F0 [.inl (.int x2), .inl (.int 1), .inl (.int (Int32.ofNat 6))] M) := (rfl)
theorem eX6_formulaOf_0 {n : Nat} {x0 : Nat} {x1 : Nat} {x2 : Int32} {M : am_M} {res : am_O × am_M} (h : (am_ret [] 4 [] (rX6_formulaOf n 7 [.inr (6, x0), .inr (13, x1), .inl (.int x2), am_D]) (fX9_isWithin [.inl (.int x2), .inl (.int 1), .inl (.int (Int32.ofNat 6))] M)) = some res) : rX6_formulaOf (n + 100) 0 [.inr (6, x0), .inr (13, x1), .inl (.int x2), am_D] [] M = some res := uX6_formulaOf ((gX6_formulaOf_0 fX9_isWithin fX6_rateOf (rX6_formulaOf n) x0 x1 x2 M).trans h)
set_option maxRecDepth 20000 in
theorem gX6_formulaOf_7 (F0 F1 : am_F) (k : Nat → List am_V → List am_V → am_M → am_R) (x0 : Nat) (x1 : Nat) (x2 : Int32) (y0 : Int32) (M : am_M) : gX6_formulaOf F0 F1 k 7 [.inr (6, x0), .inr (13, x1), .inl (.int x2), am_D] [.inl (.int y0)] M =
  if y0 = 0 then
   some (.inl (some (.inl (.long 0))), M)
  else if (M 18 x0 9) = 1 then
   am_ret [] 25 [] (k 28 [.inr (6, x0), .inr (13, x1), .inl (.int x2), am_D]) (F1 [.inr (13, x1), .inl (.int x2)] M)
  else if am_in (x2 - 1) 6 then
   if (M 18 x0 9) = 0 then
    some (.inl (some (.inl (.long (Int32.toInt64 (M 13 x1 (Int32.toNatClampNeg (x2 - 1))))))), M)
   else some (.inl (some (.inl (.long (Int32.toInt64 ((M 13 x1 (Int32.toNatClampNeg (x2 - 1))) - (M 13 x1 0)))))), M)
  else none := (rfl)
theorem eX6_formulaOf_7 {n : Nat} {x0 : Nat} {x1 : Nat} {x2 : Int32} {y0 : Int32} {M : am_M} {res : am_O × am_M} (h : (if y0 = 0 then
   some (.inl (some (.inl (.long 0))), M)
  else if (M 18 x0 9) = 1 then
   am_ret [] 25 [] (rX6_formulaOf n 28 [.inr (6, x0), .inr (13, x1), .inl (.int x2), am_D]) (fX6_rateOf [.inr (13, x1), .inl (.int x2)] M)
  else if am_in (x2 - 1) 6 then
   if (M 18 x0 9) = 0 then
    some (.inl (some (.inl (.long (Int32.toInt64 (M 13 x1 (Int32.toNatClampNeg (x2 - 1))))))), M)
   else some (.inl (some (.inl (.long (Int32.toInt64 ((M 13 x1 (Int32.toNatClampNeg (x2 - 1))) - (M 13 x1 0)))))), M)
  else none) = some res) : rX6_formulaOf (n + 100) 7 [.inr (6, x0), .inr (13, x1), .inl (.int x2), am_D] [.inl (.int y0)] M = some res := uX6_formulaOf ((gX6_formulaOf_7 fX9_isWithin fX6_rateOf (rX6_formulaOf n) x0 x1 x2 y0 M).trans h)
set_option maxRecDepth 20000 in
theorem gX6_formulaOf_28 (F0 F1 : am_F) (k : Nat → List am_V → List am_V → am_M → am_R) (x0 : Nat) (x1 : Nat) (x2 : Int32) (y0 : Int64) (M : am_M) : gX6_formulaOf F0 F1 k 28 [.inr (6, x0), .inr (13, x1), .inl (.int x2), am_D] [.inl (.long y0)] M =
  some (.inl (some (.inl (.long y0))), M) := (rfl)
theorem eX6_formulaOf_28 {n : Nat} {x0 : Nat} {x1 : Nat} {x2 : Int32} {y0 : Int64} {M : am_M} {res : am_O × am_M} (h : (some (.inl (some (.inl (.long y0))), M)) = some res) : rX6_formulaOf (n + 100) 28 [.inr (6, x0), .inr (13, x1), .inl (.int x2), am_D] [.inl (.long y0)] M = some res := uX6_formulaOf ((gX6_formulaOf_28 fX9_isWithin fX6_rateOf (rX6_formulaOf n) x0 x1 x2 y0 M).trans h)
def rX6_brokenRules (n pc : Nat) (ls st : List am_V) (M : am_M) : am_R := am_run [fX2_above, fX2_below] [] 1 am_X0 pX6_brokenRules n pc ls st M
def gX6_brokenRules (F0 F1 : am_F) (k : Nat → List am_V → List am_V → am_M → am_R) (pc : Nat) (ls st : List am_V) (M : am_M) : am_R := am_go [F0, F1] [] 1 am_X0 pX6_brokenRules [33, 52, 78, 97, 118, 133] k 100 pc ls st M
theorem uX6_brokenRules {n pc : Nat} {ls st : List am_V} {M : am_M} {res : am_O × am_M} (h : gX6_brokenRules fX2_above fX2_below (rX6_brokenRules n) pc ls st M = some res) : rX6_brokenRules (n + 100) pc ls st M = some res := am_go_ok h
theorem eX6_brokenRules (x0 : Nat) (M : am_M) : fX6_brokenRules [.inr (6, x0)] M = rX6_brokenRules 100000 0 [.inr (6, x0), am_D, am_D, am_D, am_D, am_D, am_D, am_D] [] M := am_meth_eq rfl rfl
set_option maxRecDepth 20000 in
theorem gX6_brokenRules_0 (F0 F1 : am_F) (k : Nat → List am_V → List am_V → am_M → am_R) (x0 : Nat) (M : am_M) : gX6_brokenRules F0 F1 k 0 [.inr (6, x0), am_D, am_D, am_D, am_D, am_D, am_D, am_D] [] M =
  am_ret [] 30 [] (k 33 [.inr (6, x0), .inl (.long (Int32.toInt64 (M 18 x0 14))), am_D, .inl (.long (Int32.toInt64 (M 18 x0 15))), am_D, am_D, am_D, am_D]) (F0 [.inr (2, x0), .inl (.long ((Int32.toInt64 (M 18 x0 14)) + (3 * (Int32.toInt64 (M 18 x0 15))))), .inl (.int 1)] M) := (rfl)
theorem eX6_brokenRules_0 {n : Nat} {x0 : Nat} {M : am_M} {res : am_O × am_M} (h : (am_ret [] 30 [] (rX6_brokenRules n 33 [.inr (6, x0), .inl (.long (Int32.toInt64 (M 18 x0 14))), am_D, .inl (.long (Int32.toInt64 (M 18 x0 15))), am_D, am_D, am_D, am_D]) (fX2_above [.inr (2, x0), .inl (.long ((Int32.toInt64 (M 18 x0 14)) + (3 * (Int32.toInt64 (M 18 x0 15))))), .inl (.int 1)] M)) = some res) : rX6_brokenRules (n + 100) 0 [.inr (6, x0), am_D, am_D, am_D, am_D, am_D, am_D, am_D] [] M = some res := uX6_brokenRules ((gX6_brokenRules_0 fX2_above fX2_below (rX6_brokenRules n) x0 M).trans h)
set_option maxRecDepth 20000 in
theorem gX6_brokenRules_33 (F0 F1 : am_F) (k : Nat → List am_V → List am_V → am_M → am_R) (x0 : Nat) (x1 : Int64) (x3 : Int64) (y0 : Int32) (M : am_M) : gX6_brokenRules F0 F1 k 33 [.inr (6, x0), .inl (.long x1), am_D, .inl (.long x3), am_D, am_D, am_D, am_D] [.inl (.int y0)] M =
  if y0 = 1 then
   am_ret [] 75 [] (k 78 [.inr (6, x0), .inl (.long x1), am_D, .inl (.long x3), am_D, .inl (.int 1), am_D, am_D]) (F0 [.inr (2, x0), .inl (.long (x1 + (2 * x3))), .inl (.int 3)] M)
  else am_ret [] 49 [] (k 52 [.inr (6, x0), .inl (.long x1), am_D, .inl (.long x3), am_D, am_D, am_D, am_D]) (F1 [.inr (2, x0), .inl (.long (x1 - (3 * x3))), .inl (.int 1)] M) := (rfl)
theorem eX6_brokenRules_33 {n : Nat} {x0 : Nat} {x1 : Int64} {x3 : Int64} {y0 : Int32} {M : am_M} {res : am_O × am_M} (h : (if y0 = 1 then
   am_ret [] 75 [] (rX6_brokenRules n 78 [.inr (6, x0), .inl (.long x1), am_D, .inl (.long x3), am_D, .inl (.int 1), am_D, am_D]) (fX2_above [.inr (2, x0), .inl (.long (x1 + (2 * x3))), .inl (.int 3)] M)
  else am_ret [] 49 [] (rX6_brokenRules n 52 [.inr (6, x0), .inl (.long x1), am_D, .inl (.long x3), am_D, am_D, am_D, am_D]) (fX2_below [.inr (2, x0), .inl (.long (x1 - (3 * x3))), .inl (.int 1)] M)) = some res) : rX6_brokenRules (n + 100) 33 [.inr (6, x0), .inl (.long x1), am_D, .inl (.long x3), am_D, am_D, am_D, am_D] [.inl (.int y0)] M = some res := uX6_brokenRules ((gX6_brokenRules_33 fX2_above fX2_below (rX6_brokenRules n) x0 x1 x3 y0 M).trans h)
set_option maxRecDepth 20000 in
theorem gX6_brokenRules_78 (F0 F1 : am_F) (k : Nat → List am_V → List am_V → am_M → am_R) (x0 : Nat) (x1 : Int64) (x3 : Int64) (x5 : Int32) (y0 : Int32) (M : am_M) : gX6_brokenRules F0 F1 k 78 [.inr (6, x0), .inl (.long x1), am_D, .inl (.long x3), am_D, .inl (.int x5), am_D, am_D] [.inl (.int y0)] M =
  if 2 ≤ y0 then
   am_ret [] 115 [] (k 118 [.inr (6, x0), .inl (.long x1), am_D, .inl (.long x3), am_D, .inl (.int x5), .inl (.int 1), am_D]) (F0 [.inr (2, x0), .inl (.long x1), .inl (.int 10)] M)
  else am_ret [] 94 [] (k 97 [.inr (6, x0), .inl (.long x1), am_D, .inl (.long x3), am_D, .inl (.int x5), am_D, am_D]) (F1 [.inr (2, x0), .inl (.long (x1 - (2 * x3))), .inl (.int 3)] M) := (rfl)
theorem eX6_brokenRules_78 {n : Nat} {x0 : Nat} {x1 : Int64} {x3 : Int64} {x5 : Int32} {y0 : Int32} {M : am_M} {res : am_O × am_M} (h : (if 2 ≤ y0 then
   am_ret [] 115 [] (rX6_brokenRules n 118 [.inr (6, x0), .inl (.long x1), am_D, .inl (.long x3), am_D, .inl (.int x5), .inl (.int 1), am_D]) (fX2_above [.inr (2, x0), .inl (.long x1), .inl (.int 10)] M)
  else am_ret [] 94 [] (rX6_brokenRules n 97 [.inr (6, x0), .inl (.long x1), am_D, .inl (.long x3), am_D, .inl (.int x5), am_D, am_D]) (fX2_below [.inr (2, x0), .inl (.long (x1 - (2 * x3))), .inl (.int 3)] M)) = some res) : rX6_brokenRules (n + 100) 78 [.inr (6, x0), .inl (.long x1), am_D, .inl (.long x3), am_D, .inl (.int x5), am_D, am_D] [.inl (.int y0)] M = some res := uX6_brokenRules ((gX6_brokenRules_78 fX2_above fX2_below (rX6_brokenRules n) x0 x1 x3 x5 y0 M).trans h)
set_option maxRecDepth 20000 in
theorem gX6_brokenRules_52 (F0 F1 : am_F) (k : Nat → List am_V → List am_V → am_M → am_R) (x0 : Nat) (x1 : Int64) (x3 : Int64) (y0 : Int32) (M : am_M) : gX6_brokenRules F0 F1 k 52 [.inr (6, x0), .inl (.long x1), am_D, .inl (.long x3), am_D, am_D, am_D, am_D] [.inl (.int y0)] M =
  if y0 = 1 then
   am_ret [] 75 [] (k 78 [.inr (6, x0), .inl (.long x1), am_D, .inl (.long x3), am_D, .inl (.int 1), am_D, am_D]) (F0 [.inr (2, x0), .inl (.long (x1 + (2 * x3))), .inl (.int 3)] M)
  else am_ret [] 75 [] (k 78 [.inr (6, x0), .inl (.long x1), am_D, .inl (.long x3), am_D, .inl (.int 0), am_D, am_D]) (F0 [.inr (2, x0), .inl (.long (x1 + (2 * x3))), .inl (.int 3)] M) := (rfl)
theorem eX6_brokenRules_52 {n : Nat} {x0 : Nat} {x1 : Int64} {x3 : Int64} {y0 : Int32} {M : am_M} {res : am_O × am_M} (h : (if y0 = 1 then
   am_ret [] 75 [] (rX6_brokenRules n 78 [.inr (6, x0), .inl (.long x1), am_D, .inl (.long x3), am_D, .inl (.int 1), am_D, am_D]) (fX2_above [.inr (2, x0), .inl (.long (x1 + (2 * x3))), .inl (.int 3)] M)
  else am_ret [] 75 [] (rX6_brokenRules n 78 [.inr (6, x0), .inl (.long x1), am_D, .inl (.long x3), am_D, .inl (.int 0), am_D, am_D]) (fX2_above [.inr (2, x0), .inl (.long (x1 + (2 * x3))), .inl (.int 3)] M)) = some res) : rX6_brokenRules (n + 100) 52 [.inr (6, x0), .inl (.long x1), am_D, .inl (.long x3), am_D, am_D, am_D, am_D] [.inl (.int y0)] M = some res := uX6_brokenRules ((gX6_brokenRules_52 fX2_above fX2_below (rX6_brokenRules n) x0 x1 x3 y0 M).trans h)
set_option maxRecDepth 20000 in
theorem gX6_brokenRules_118 (F0 F1 : am_F) (k : Nat → List am_V → List am_V → am_M → am_R) (x0 : Nat) (x1 : Int64) (x3 : Int64) (x5 : Int32) (x6 : Int32) (y0 : Int32) (M : am_M) : gX6_brokenRules F0 F1 k 118 [.inr (6, x0), .inl (.long x1), am_D, .inl (.long x3), am_D, .inl (.int x5), .inl (.int x6), am_D] [.inl (.int y0)] M =
  if y0 = 10 then
   if x5 = 0 then
    if x6 = 0 then
     some (.inl (some (.inl (.int 4))), M)
    else some (.inl (some (.inl (.int 6))), M)
   else if x6 = 0 then
    some (.inl (some (.inl (.int 5))), M)
   else some (.inl (some (.inl (.int 7))), M)
  else am_ret [] 130 [] (k 133 [.inr (6, x0), .inl (.long x1), am_D, .inl (.long x3), am_D, .inl (.int x5), .inl (.int x6), am_D]) (F1 [.inr (2, x0), .inl (.long x1), .inl (.int 10)] M) := (rfl)
theorem eX6_brokenRules_118 {n : Nat} {x0 : Nat} {x1 : Int64} {x3 : Int64} {x5 : Int32} {x6 : Int32} {y0 : Int32} {M : am_M} {res : am_O × am_M} (h : (if y0 = 10 then
   if x5 = 0 then
    if x6 = 0 then
     some (.inl (some (.inl (.int 4))), M)
    else some (.inl (some (.inl (.int 6))), M)
   else if x6 = 0 then
    some (.inl (some (.inl (.int 5))), M)
   else some (.inl (some (.inl (.int 7))), M)
  else am_ret [] 130 [] (rX6_brokenRules n 133 [.inr (6, x0), .inl (.long x1), am_D, .inl (.long x3), am_D, .inl (.int x5), .inl (.int x6), am_D]) (fX2_below [.inr (2, x0), .inl (.long x1), .inl (.int 10)] M)) = some res) : rX6_brokenRules (n + 100) 118 [.inr (6, x0), .inl (.long x1), am_D, .inl (.long x3), am_D, .inl (.int x5), .inl (.int x6), am_D] [.inl (.int y0)] M = some res := uX6_brokenRules ((gX6_brokenRules_118 fX2_above fX2_below (rX6_brokenRules n) x0 x1 x3 x5 x6 y0 M).trans h)
set_option maxRecDepth 20000 in
theorem gX6_brokenRules_97 (F0 F1 : am_F) (k : Nat → List am_V → List am_V → am_M → am_R) (x0 : Nat) (x1 : Int64) (x3 : Int64) (x5 : Int32) (y0 : Int32) (M : am_M) : gX6_brokenRules F0 F1 k 97 [.inr (6, x0), .inl (.long x1), am_D, .inl (.long x3), am_D, .inl (.int x5), am_D, am_D] [.inl (.int y0)] M =
  if y0 < 2 then
   am_ret [] 115 [] (k 118 [.inr (6, x0), .inl (.long x1), am_D, .inl (.long x3), am_D, .inl (.int x5), .inl (.int 0), am_D]) (F0 [.inr (2, x0), .inl (.long x1), .inl (.int 10)] M)
  else am_ret [] 115 [] (k 118 [.inr (6, x0), .inl (.long x1), am_D, .inl (.long x3), am_D, .inl (.int x5), .inl (.int 1), am_D]) (F0 [.inr (2, x0), .inl (.long x1), .inl (.int 10)] M) := (rfl)
theorem eX6_brokenRules_97 {n : Nat} {x0 : Nat} {x1 : Int64} {x3 : Int64} {x5 : Int32} {y0 : Int32} {M : am_M} {res : am_O × am_M} (h : (if y0 < 2 then
   am_ret [] 115 [] (rX6_brokenRules n 118 [.inr (6, x0), .inl (.long x1), am_D, .inl (.long x3), am_D, .inl (.int x5), .inl (.int 0), am_D]) (fX2_above [.inr (2, x0), .inl (.long x1), .inl (.int 10)] M)
  else am_ret [] 115 [] (rX6_brokenRules n 118 [.inr (6, x0), .inl (.long x1), am_D, .inl (.long x3), am_D, .inl (.int x5), .inl (.int 1), am_D]) (fX2_above [.inr (2, x0), .inl (.long x1), .inl (.int 10)] M)) = some res) : rX6_brokenRules (n + 100) 97 [.inr (6, x0), .inl (.long x1), am_D, .inl (.long x3), am_D, .inl (.int x5), am_D, am_D] [.inl (.int y0)] M = some res := uX6_brokenRules ((gX6_brokenRules_97 fX2_above fX2_below (rX6_brokenRules n) x0 x1 x3 x5 y0 M).trans h)
set_option maxRecDepth 20000 in
theorem gX6_brokenRules_133 (F0 F1 : am_F) (k : Nat → List am_V → List am_V → am_M → am_R) (x0 : Nat) (x1 : Int64) (x3 : Int64) (x5 : Int32) (x6 : Int32) (y0 : Int32) (M : am_M) : gX6_brokenRules F0 F1 k 133 [.inr (6, x0), .inl (.long x1), am_D, .inl (.long x3), am_D, .inl (.int x5), .inl (.int x6), am_D] [.inl (.int y0)] M =
  if y0 = 10 then
   if x5 = 0 then
    if x6 = 0 then
     some (.inl (some (.inl (.int 4))), M)
    else some (.inl (some (.inl (.int 6))), M)
   else if x6 = 0 then
    some (.inl (some (.inl (.int 5))), M)
   else some (.inl (some (.inl (.int 7))), M)
  else if x5 = 0 then
   if x6 = 0 then
    some (.inl (some (.inl (.int 0))), M)
   else some (.inl (some (.inl (.int 2))), M)
  else if x6 = 0 then
   some (.inl (some (.inl (.int 1))), M)
  else some (.inl (some (.inl (.int 3))), M) := (rfl)
theorem eX6_brokenRules_133 {n : Nat} {x0 : Nat} {x1 : Int64} {x3 : Int64} {x5 : Int32} {x6 : Int32} {y0 : Int32} {M : am_M} {res : am_O × am_M} (h : (if y0 = 10 then
   if x5 = 0 then
    if x6 = 0 then
     some (.inl (some (.inl (.int 4))), M)
    else some (.inl (some (.inl (.int 6))), M)
   else if x6 = 0 then
    some (.inl (some (.inl (.int 5))), M)
   else some (.inl (some (.inl (.int 7))), M)
  else if x5 = 0 then
   if x6 = 0 then
    some (.inl (some (.inl (.int 0))), M)
   else some (.inl (some (.inl (.int 2))), M)
  else if x6 = 0 then
   some (.inl (some (.inl (.int 1))), M)
  else some (.inl (some (.inl (.int 3))), M)) = some res) : rX6_brokenRules (n + 100) 133 [.inr (6, x0), .inl (.long x1), am_D, .inl (.long x3), am_D, .inl (.int x5), .inl (.int x6), am_D] [.inl (.int y0)] M = some res := uX6_brokenRules ((gX6_brokenRules_133 fX2_above fX2_below (rX6_brokenRules n) x0 x1 x3 x5 x6 y0 M).trans h)
def rX7_turnSuccession (n pc : Nat) (ls st : List am_V) (M : am_M) : am_R := am_run [] [] 2 am_X0 pX7_turnSuccession n pc ls st M
def gX7_turnSuccession (k : Nat → List am_V → List am_V → am_M → am_R) (pc : Nat) (ls st : List am_V) (M : am_M) : am_R := am_go [] [] 2 am_X0 pX7_turnSuccession [7] k 100 pc ls st M
theorem uX7_turnSuccession {n pc : Nat} {ls st : List am_V} {M : am_M} {res : am_O × am_M} (h : gX7_turnSuccession (rX7_turnSuccession n) pc ls st M = some res) : rX7_turnSuccession (n + 100) pc ls st M = some res := am_go_ok h
theorem eX7_turnSuccession (x1 : Int32) (x2 : Int32) (M : am_M) : fX7_turnSuccession [.inr (7, 0), .inl (.int x1), .inl (.int x2)] M = rX7_turnSuccession 100000 0 [.inr (7, 0), .inl (.int x1), .inl (.int x2), am_D] [] M := am_meth_eq rfl rfl
set_option maxRecDepth 20000 in
theorem gX7_turnSuccession_0 (k : Nat → List am_V → List am_V → am_M → am_R) (x1 : Int32) (x2 : Int32) (M : am_M) : gX7_turnSuccession k 0 [.inr (7, 0), .inl (.int x1), .inl (.int x2), am_D] [] M =
  k 7 [.inr (7, 0), .inl (.int x1), .inl (.int x2), .inl (.int ((x1 * 6) + x2))] [] M := (rfl)
theorem eX7_turnSuccession_0 {n : Nat} {x1 : Int32} {x2 : Int32} {M : am_M} {res : am_O × am_M} (h : (rX7_turnSuccession n 7 [.inr (7, 0), .inl (.int x1), .inl (.int x2), .inl (.int ((x1 * 6) + x2))] [] M) = some res) : rX7_turnSuccession (n + 100) 0 [.inr (7, 0), .inl (.int x1), .inl (.int x2), am_D] [] M = some res := uX7_turnSuccession ((gX7_turnSuccession_0 (rX7_turnSuccession n) x1 x2 M).trans h)
set_option maxRecDepth 20000 in
theorem gX7_turnSuccession_7 (k : Nat → List am_V → List am_V → am_M → am_R) (x1 : Int32) (x2 : Int32) (x3 : Int32) (M : am_M) : gX7_turnSuccession k 7 [.inr (7, 0), .inl (.int x1), .inl (.int x2), .inl (.int x3)] [] M =
  if am_in x3 36 then
   if (am_b (M 21 0 (Int32.toNatClampNeg x3))) = 0 then
    if am_in x3 36 ∧ am_b 1 = 1 then
     if am_in x3 36 then
      Option.map (fun o => (o, (am_put M 21 0 (Int32.toNatClampNeg x3) 1))) (am_fin 2 .ireturn [.inr (7, 0), .inl (.int x1), .inl (.int x2), .inl (.int x3)] [.inl (.int (am_b ((am_put M 21 0 (Int32.toNatClampNeg x3) 1) 21 0 (Int32.toNatClampNeg x3))))])
     else none
    else none
   else if am_in x3 36 ∧ am_b 0 = 0 then
    if am_in x3 36 then
     Option.map (fun o => (o, (am_put M 21 0 (Int32.toNatClampNeg x3) 0))) (am_fin 2 .ireturn [.inr (7, 0), .inl (.int x1), .inl (.int x2), .inl (.int x3)] [.inl (.int (am_b ((am_put M 21 0 (Int32.toNatClampNeg x3) 0) 21 0 (Int32.toNatClampNeg x3))))])
    else none
   else none
  else none := (rfl)
theorem eX7_turnSuccession_7 {n : Nat} {x1 : Int32} {x2 : Int32} {x3 : Int32} {M : am_M} {res : am_O × am_M} (h : (if am_in x3 36 then
   if (am_b (M 21 0 (Int32.toNatClampNeg x3))) = 0 then
    if am_in x3 36 ∧ am_b 1 = 1 then
     if am_in x3 36 then
      Option.map (fun o => (o, (am_put M 21 0 (Int32.toNatClampNeg x3) 1))) (am_fin 2 .ireturn [.inr (7, 0), .inl (.int x1), .inl (.int x2), .inl (.int x3)] [.inl (.int (am_b ((am_put M 21 0 (Int32.toNatClampNeg x3) 1) 21 0 (Int32.toNatClampNeg x3))))])
     else none
    else none
   else if am_in x3 36 ∧ am_b 0 = 0 then
    if am_in x3 36 then
     Option.map (fun o => (o, (am_put M 21 0 (Int32.toNatClampNeg x3) 0))) (am_fin 2 .ireturn [.inr (7, 0), .inl (.int x1), .inl (.int x2), .inl (.int x3)] [.inl (.int (am_b ((am_put M 21 0 (Int32.toNatClampNeg x3) 0) 21 0 (Int32.toNatClampNeg x3))))])
    else none
   else none
  else none) = some res) : rX7_turnSuccession (n + 100) 7 [.inr (7, 0), .inl (.int x1), .inl (.int x2), .inl (.int x3)] [] M = some res := uX7_turnSuccession ((gX7_turnSuccession_7 (rX7_turnSuccession n) x1 x2 x3 M).trans h)
def rX7_clear (n pc : Nat) (ls st : List am_V) (M : am_M) : am_R := am_run [] [] 0 am_X0 pX7_clear n pc ls st M
def gX7_clear (k : Nat → List am_V → List am_V → am_M → am_R) (pc : Nat) (ls st : List am_V) (M : am_M) : am_R := am_go [] [] 0 am_X0 pX7_clear [] k 100 pc ls st M
theorem uX7_clear {n pc : Nat} {ls st : List am_V} {M : am_M} {res : am_O × am_M} (h : gX7_clear (rX7_clear n) pc ls st M = some res) : rX7_clear (n + 100) pc ls st M = some res := am_go_ok h
theorem eX7_clear (x1 : Int32) (M : am_M) : fX7_clear [.inr (7, 0), .inl (.int x1)] M = rX7_clear 100000 0 [.inr (7, 0), .inl (.int x1)] [] M := am_meth_eq rfl rfl
set_option maxRecDepth 20000 in
theorem gX7_clear_0 (k : Nat → List am_V → List am_V → am_M → am_R) (x1 : Int32) (M : am_M) : gX7_clear k 0 [.inr (7, 0), .inl (.int x1)] [] M =
  if am_in x1 13 then
   if am_in x1 13 then
    some (.inl none, (am_put (am_put M 19 0 (Int32.toNatClampNeg x1) (-1)) 20 0 (Int32.toNatClampNeg x1) (-1)))
   else none
  else none := (rfl)
theorem eX7_clear_0 {n : Nat} {x1 : Int32} {M : am_M} {res : am_O × am_M} (h : (if am_in x1 13 then
   if am_in x1 13 then
    some (.inl none, (am_put (am_put M 19 0 (Int32.toNatClampNeg x1) (-1)) 20 0 (Int32.toNatClampNeg x1) (-1)))
   else none
  else none) = some res) : rX7_clear (n + 100) 0 [.inr (7, 0), .inl (.int x1)] [] M = some res := uX7_clear ((gX7_clear_0 (rX7_clear n) x1 M).trans h)
def rX7_turn (n pc : Nat) (ls st : List am_V) (M : am_M) : am_R := am_run [fX7_clear] [] 0 am_X0 pX7_turn n pc ls st M
def gX7_turn (k : Nat → List am_V → List am_V → am_M → am_R) (pc : Nat) (ls st : List am_V) (M : am_M) : am_R := am_go [fX7_clear] [] 0 am_X0 pX7_turn [2] k 100 pc ls st M
theorem uX7_turn {n pc : Nat} {ls st : List am_V} {M : am_M} {res : am_O × am_M} (h : gX7_turn (rX7_turn n) pc ls st M = some res) : rX7_turn (n + 100) pc ls st M = some res := am_go_ok h
theorem eX7_turn (M : am_M) : fX7_turn [.inr (7, 0)] M = rX7_turn 100000 0 [.inr (7, 0), am_D] [] M := am_meth_eq rfl rfl
set_option maxRecDepth 20000 in
theorem gX7_turn_0 (k : Nat → List am_V → List am_V → am_M → am_R) (M : am_M) : gX7_turn k 0 [.inr (7, 0), am_D] [] M =
  k 2 [.inr (7, 0), .inl (.int 0)] [] M := (rfl)
theorem eX7_turn_0 {n : Nat} {M : am_M} {res : am_O × am_M} (h : (rX7_turn n 2 [.inr (7, 0), .inl (.int 0)] [] M) = some res) : rX7_turn (n + 100) 0 [.inr (7, 0), am_D] [] M = some res := uX7_turn ((gX7_turn_0 (rX7_turn n) M).trans h)
set_option maxRecDepth 20000 in
theorem gX7_turn_2 (k : Nat → List am_V → List am_V → am_M → am_R) (x1 : Int32) (M : am_M) : gX7_turn k 2 [.inr (7, 0), .inl (.int x1)] [] M =
  if 12 ≤ x1 then
   some (.inl none, (am_put (am_put M 19 0 12 (-1)) 20 0 12 (-1)))
  else if am_in (x1 + 1) 13 then
   if am_in x1 13 then
    if am_in (x1 + 1) 13 then
     if am_in x1 13 then
      k 2 [.inr (7, 0), .inl (.int (x1 + 1))] [] (am_put (am_put M 19 0 (Int32.toNatClampNeg x1) (M 19 0 (Int32.toNatClampNeg (x1 + 1)))) 20 0 (Int32.toNatClampNeg x1) (M 20 0 (Int32.toNatClampNeg (x1 + 1))))
     else none
    else none
   else none
  else none := (rfl)
theorem eX7_turn_2 {n : Nat} {x1 : Int32} {M : am_M} {res : am_O × am_M} (h : (if 12 ≤ x1 then
   some (.inl none, (am_put (am_put M 19 0 12 (-1)) 20 0 12 (-1)))
  else if am_in (x1 + 1) 13 then
   if am_in x1 13 then
    if am_in (x1 + 1) 13 then
     if am_in x1 13 then
      rX7_turn n 2 [.inr (7, 0), .inl (.int (x1 + 1))] [] (am_put (am_put M 19 0 (Int32.toNatClampNeg x1) (M 19 0 (Int32.toNatClampNeg (x1 + 1)))) 20 0 (Int32.toNatClampNeg x1) (M 20 0 (Int32.toNatClampNeg (x1 + 1))))
     else none
    else none
   else none
  else none) = some res) : rX7_turn (n + 100) 2 [.inr (7, 0), .inl (.int x1)] [] M = some res := uX7_turn ((gX7_turn_2 (rX7_turn n) x1 M).trans h)
def rX7_userNow (n pc : Nat) (ls st : List am_V) (M : am_M) : am_R := am_run [] [] 1 am_X0 pX7_userNow n pc ls st M
def gX7_userNow (k : Nat → List am_V → List am_V → am_M → am_R) (pc : Nat) (ls st : List am_V) (M : am_M) : am_R := am_go [] [] 1 am_X0 pX7_userNow [] k 100 pc ls st M
theorem uX7_userNow {n pc : Nat} {ls st : List am_V} {M : am_M} {res : am_O × am_M} (h : gX7_userNow (rX7_userNow n) pc ls st M = some res) : rX7_userNow (n + 100) pc ls st M = some res := am_go_ok h
theorem eX7_userNow (M : am_M) : fX7_userNow [.inr (7, 0)] M = rX7_userNow 100000 0 [.inr (7, 0)] [] M := am_meth_eq rfl rfl
set_option maxRecDepth 20000 in
theorem gX7_userNow_0 (k : Nat → List am_V → List am_V → am_M → am_R) (M : am_M) : gX7_userNow k 0 [.inr (7, 0)] [] M =
  some (.inl (some (.inl (.int (M 20 0 0)))), M) := (rfl)
theorem eX7_userNow_0 {n : Nat} {M : am_M} {res : am_O × am_M} (h : (some (.inl (some (.inl (.int (M 20 0 0)))), M)) = some res) : rX7_userNow (n + 100) 0 [.inr (7, 0)] [] M = some res := uX7_userNow ((gX7_userNow_0 (rX7_userNow n) M).trans h)
def rX7_isFree (n pc : Nat) (ls st : List am_V) (M : am_M) : am_R := am_run [fX9_isWithin] [] 2 am_X0 pX7_isFree n pc ls st M
def gX7_isFree (F0 : am_F) (k : Nat → List am_V → List am_V → am_M → am_R) (pc : Nat) (ls st : List am_V) (M : am_M) : am_R := am_go [F0] [] 2 am_X0 pX7_isFree [7] k 100 pc ls st M
theorem uX7_isFree {n pc : Nat} {ls st : List am_V} {M : am_M} {res : am_O × am_M} (h : gX7_isFree fX9_isWithin (rX7_isFree n) pc ls st M = some res) : rX7_isFree (n + 100) pc ls st M = some res := am_go_ok h
theorem eX7_isFree (x1 : Int32) (M : am_M) : fX7_isFree [.inr (7, 0), .inl (.int x1)] M = rX7_isFree 100000 0 [.inr (7, 0), .inl (.int x1)] [] M := am_meth_eq rfl rfl
set_option maxRecDepth 20000 in
theorem gX7_isFree_0 (F0 : am_F) (k : Nat → List am_V → List am_V → am_M → am_R) (x1 : Int32) (M : am_M) : gX7_isFree F0 k 0 [.inr (7, 0), .inl (.int x1)] [] M =
  am_ret [] 4 [] (k 7 [.inr (7, 0), .inl (.int x1)]) (F0 [.inl (.int x1), .inl (.int 1), .inl (.int 12)] M) := (rfl)
theorem eX7_isFree_0 {n : Nat} {x1 : Int32} {M : am_M} {res : am_O × am_M} (h : (am_ret [] 4 [] (rX7_isFree n 7 [.inr (7, 0), .inl (.int x1)]) (fX9_isWithin [.inl (.int x1), .inl (.int 1), .inl (.int 12)] M)) = some res) : rX7_isFree (n + 100) 0 [.inr (7, 0), .inl (.int x1)] [] M = some res := uX7_isFree ((gX7_isFree_0 fX9_isWithin (rX7_isFree n) x1 M).trans h)
set_option maxRecDepth 20000 in
theorem gX7_isFree_7 (F0 : am_F) (k : Nat → List am_V → List am_V → am_M → am_R) (x1 : Int32) (y0 : Int32) (M : am_M) : gX7_isFree F0 k 7 [.inr (7, 0), .inl (.int x1)] [.inl (.int y0)] M =
  if y0 = 0 then
   some (.inl (some (.inl (.int 0))), M)
  else if am_in x1 13 then
   if (M 19 0 (Int32.toNatClampNeg x1)) = (-1) then
    some (.inl (some (.inl (.int 1))), M)
   else some (.inl (some (.inl (.int 0))), M)
  else none := (rfl)
theorem eX7_isFree_7 {n : Nat} {x1 : Int32} {y0 : Int32} {M : am_M} {res : am_O × am_M} (h : (if y0 = 0 then
   some (.inl (some (.inl (.int 0))), M)
  else if am_in x1 13 then
   if (M 19 0 (Int32.toNatClampNeg x1)) = (-1) then
    some (.inl (some (.inl (.int 1))), M)
   else some (.inl (some (.inl (.int 0))), M)
  else none) = some res) : rX7_isFree (n + 100) 7 [.inr (7, 0), .inl (.int x1)] [.inl (.int y0)] M = some res := uX7_isFree ((gX7_isFree_7 fX9_isWithin (rX7_isFree n) x1 y0 M).trans h)
def rX7_hasForbiddenSuccession (n pc : Nat) (ls st : List am_V) (M : am_M) : am_R := am_run [] [] 2 am_X0 pX7_hasForbiddenSuccession n pc ls st M
def gX7_hasForbiddenSuccession (k : Nat → List am_V → List am_V → am_M → am_R) (pc : Nat) (ls st : List am_V) (M : am_M) : am_R := am_go [] [] 2 am_X0 pX7_hasForbiddenSuccession [2] k 100 pc ls st M
theorem uX7_hasForbiddenSuccession {n pc : Nat} {ls st : List am_V} {M : am_M} {res : am_O × am_M} (h : gX7_hasForbiddenSuccession (rX7_hasForbiddenSuccession n) pc ls st M = some res) : rX7_hasForbiddenSuccession (n + 100) pc ls st M = some res := am_go_ok h
theorem eX7_hasForbiddenSuccession (M : am_M) : fX7_hasForbiddenSuccession [.inr (7, 0)] M = rX7_hasForbiddenSuccession 100000 0 [.inr (7, 0), am_D] [] M := am_meth_eq rfl rfl
set_option maxRecDepth 20000 in
theorem gX7_hasForbiddenSuccession_0 (k : Nat → List am_V → List am_V → am_M → am_R) (M : am_M) : gX7_hasForbiddenSuccession k 0 [.inr (7, 0), am_D] [] M =
  k 2 [.inr (7, 0), .inl (.int 1)] [] M := (rfl)
theorem eX7_hasForbiddenSuccession_0 {n : Nat} {M : am_M} {res : am_O × am_M} (h : (rX7_hasForbiddenSuccession n 2 [.inr (7, 0), .inl (.int 1)] [] M) = some res) : rX7_hasForbiddenSuccession (n + 100) 0 [.inr (7, 0), am_D] [] M = some res := uX7_hasForbiddenSuccession ((gX7_hasForbiddenSuccession_0 (rX7_hasForbiddenSuccession n) M).trans h)
set_option maxRecDepth 20000 in
theorem gX7_hasForbiddenSuccession_2 (k : Nat → List am_V → List am_V → am_M → am_R) (x1 : Int32) (M : am_M) : gX7_hasForbiddenSuccession k 2 [.inr (7, 0), .inl (.int x1)] [] M =
  if 12 < x1 then
   some (.inl (some (.inl (.int 0))), M)
  else if am_in (x1 - 1) 13 then
   if (M 19 0 (Int32.toNatClampNeg (x1 - 1))) = (-1) then
    k 2 [.inr (7, 0), .inl (.int (x1 + 1))] [] M
   else if am_in x1 13 then
    if (M 19 0 (Int32.toNatClampNeg x1)) = (-1) then
     k 2 [.inr (7, 0), .inl (.int (x1 + 1))] [] M
    else if am_in (x1 - 1) 13 then
     if am_in x1 13 then
      if am_in (((M 19 0 (Int32.toNatClampNeg (x1 - 1))) * 6) + (M 19 0 (Int32.toNatClampNeg x1))) 36 then
       if (am_b (M 21 0 (Int32.toNatClampNeg (((M 19 0 (Int32.toNatClampNeg (x1 - 1))) * 6) + (M 19 0 (Int32.toNatClampNeg x1)))))) = 0 then
        k 2 [.inr (7, 0), .inl (.int (x1 + 1))] [] M
       else some (.inl (some (.inl (.int 1))), M)
      else none
     else none
    else none
   else none
  else none := (rfl)
theorem eX7_hasForbiddenSuccession_2 {n : Nat} {x1 : Int32} {M : am_M} {res : am_O × am_M} (h : (if 12 < x1 then
   some (.inl (some (.inl (.int 0))), M)
  else if am_in (x1 - 1) 13 then
   if (M 19 0 (Int32.toNatClampNeg (x1 - 1))) = (-1) then
    rX7_hasForbiddenSuccession n 2 [.inr (7, 0), .inl (.int (x1 + 1))] [] M
   else if am_in x1 13 then
    if (M 19 0 (Int32.toNatClampNeg x1)) = (-1) then
     rX7_hasForbiddenSuccession n 2 [.inr (7, 0), .inl (.int (x1 + 1))] [] M
    else if am_in (x1 - 1) 13 then
     if am_in x1 13 then
      if am_in (((M 19 0 (Int32.toNatClampNeg (x1 - 1))) * 6) + (M 19 0 (Int32.toNatClampNeg x1))) 36 then
       if (am_b (M 21 0 (Int32.toNatClampNeg (((M 19 0 (Int32.toNatClampNeg (x1 - 1))) * 6) + (M 19 0 (Int32.toNatClampNeg x1)))))) = 0 then
        rX7_hasForbiddenSuccession n 2 [.inr (7, 0), .inl (.int (x1 + 1))] [] M
       else some (.inl (some (.inl (.int 1))), M)
      else none
     else none
    else none
   else none
  else none) = some res) : rX7_hasForbiddenSuccession (n + 100) 2 [.inr (7, 0), .inl (.int x1)] [] M = some res := uX7_hasForbiddenSuccession ((gX7_hasForbiddenSuccession_2 (rX7_hasForbiddenSuccession n) x1 M).trans h)
def rX7_cancel (n pc : Nat) (ls st : List am_V) (M : am_M) : am_R := am_run [fX7_clear] [] 0 am_X0 pX7_cancel n pc ls st M
def gX7_cancel (F0 : am_F) (k : Nat → List am_V → List am_V → am_M → am_R) (pc : Nat) (ls st : List am_V) (M : am_M) : am_R := am_go [F0] [] 0 am_X0 pX7_cancel [2, 23] k 100 pc ls st M
theorem uX7_cancel {n pc : Nat} {ls st : List am_V} {M : am_M} {res : am_O × am_M} (h : gX7_cancel fX7_clear (rX7_cancel n) pc ls st M = some res) : rX7_cancel (n + 100) pc ls st M = some res := am_go_ok h
theorem eX7_cancel (x1 : Int32) (M : am_M) : fX7_cancel [.inr (7, 0), .inl (.int x1)] M = rX7_cancel 100000 0 [.inr (7, 0), .inl (.int x1), am_D] [] M := am_meth_eq rfl rfl
set_option maxRecDepth 20000 in
theorem gX7_cancel_0 (F0 : am_F) (k : Nat → List am_V → List am_V → am_M → am_R) (x1 : Int32) (M : am_M) : gX7_cancel F0 k 0 [.inr (7, 0), .inl (.int x1), am_D] [] M =
  k 2 [.inr (7, 0), .inl (.int x1), .inl (.int 1)] [] M := (rfl)
theorem eX7_cancel_0 {n : Nat} {x1 : Int32} {M : am_M} {res : am_O × am_M} (h : (rX7_cancel n 2 [.inr (7, 0), .inl (.int x1), .inl (.int 1)] [] M) = some res) : rX7_cancel (n + 100) 0 [.inr (7, 0), .inl (.int x1), am_D] [] M = some res := uX7_cancel ((gX7_cancel_0 fX7_clear (rX7_cancel n) x1 M).trans h)
set_option maxRecDepth 20000 in
theorem gX7_cancel_2 (F0 : am_F) (k : Nat → List am_V → List am_V → am_M → am_R) (x1 : Int32) (x2 : Int32) (M : am_M) : gX7_cancel F0 k 2 [.inr (7, 0), .inl (.int x1), .inl (.int x2)] [] M =
  if 12 < x2 then
   some (.inl none, M)
  else if am_in x2 13 then
   if (M 20 0 (Int32.toNatClampNeg x2)) = x1 then
    am_ret [] 20 [] (k 23 [.inr (7, 0), .inl (.int x1), .inl (.int x2)]) (F0 [.inr (7, 0), .inl (.int x2)] M)
   else k 23 [.inr (7, 0), .inl (.int x1), .inl (.int x2)] [] M
  else none := (rfl)
theorem eX7_cancel_2 {n : Nat} {x1 : Int32} {x2 : Int32} {M : am_M} {res : am_O × am_M} (h : (if 12 < x2 then
   some (.inl none, M)
  else if am_in x2 13 then
   if (M 20 0 (Int32.toNatClampNeg x2)) = x1 then
    am_ret [] 20 [] (rX7_cancel n 23 [.inr (7, 0), .inl (.int x1), .inl (.int x2)]) (fX7_clear [.inr (7, 0), .inl (.int x2)] M)
   else rX7_cancel n 23 [.inr (7, 0), .inl (.int x1), .inl (.int x2)] [] M
  else none) = some res) : rX7_cancel (n + 100) 2 [.inr (7, 0), .inl (.int x1), .inl (.int x2)] [] M = some res := uX7_cancel ((gX7_cancel_2 fX7_clear (rX7_cancel n) x1 x2 M).trans h)
set_option maxRecDepth 20000 in
theorem gX7_cancel_23 (F0 : am_F) (k : Nat → List am_V → List am_V → am_M → am_R) (x1 : Int32) (x2 : Int32) (M : am_M) : gX7_cancel F0 k 23 [.inr (7, 0), .inl (.int x1), .inl (.int x2)] [] M =
  k 2 [.inr (7, 0), .inl (.int x1), .inl (.int (x2 + 1))] [] M := (rfl)
theorem eX7_cancel_23 {n : Nat} {x1 : Int32} {x2 : Int32} {M : am_M} {res : am_O × am_M} (h : (rX7_cancel n 2 [.inr (7, 0), .inl (.int x1), .inl (.int (x2 + 1))] [] M) = some res) : rX7_cancel (n + 100) 23 [.inr (7, 0), .inl (.int x1), .inl (.int x2)] [] M = some res := uX7_cancel ((gX7_cancel_23 fX7_clear (rX7_cancel n) x1 x2 M).trans h)
def rX7_book (n pc : Nat) (ls st : List am_V) (M : am_M) : am_R := am_run [fX6_kindOf, fX6_ageOf, fX7_isFree, fX7_hasForbiddenSuccession, fX7_cancel] [] 2 am_X0 pX7_book n pc ls st M
def gX7_book (F0 F1 F2 : am_F) (k : Nat → List am_V → List am_V → am_M → am_R) (pc : Nat) (ls st : List am_V) (M : am_M) : am_R := am_go [fX6_kindOf, fX6_ageOf, F0, F1, F2] [] 2 am_X0 pX7_book [12, 22, 25, 88, 96] k 100 pc ls st M
theorem uX7_book {n pc : Nat} {ls st : List am_V} {M : am_M} {res : am_O × am_M} (h : gX7_book fX7_isFree fX7_hasForbiddenSuccession fX7_cancel (rX7_book n) pc ls st M = some res) : rX7_book (n + 100) pc ls st M = some res := am_go_ok h
theorem eX7_book (x1 : Nat) (x2 : Int32) (M : am_M) : fX7_book [.inr (7, 0), .inr (6, x1), .inl (.int x2)] M = rX7_book 100000 0 [.inr (7, 0), .inr (6, x1), .inl (.int x2), am_D] [] M := am_meth_eq rfl rfl
set_option maxRecDepth 20000 in
theorem gX7_book_0 (F0 F1 F2 : am_F) (k : Nat → List am_V → List am_V → am_M → am_R) (x1 : Nat) (x2 : Int32) (M : am_M) : gX7_book F0 F1 F2 k 0 [.inr (7, 0), .inr (6, x1), .inl (.int x2), am_D] [] M =
  k 12 [.inr (7, 0), .inr (6, x1), .inl (.int x2), .inl (.int 0)] [.inl (.int (M 18 x1 1))] M := (rfl)
theorem eX7_book_0 {n : Nat} {x1 : Nat} {x2 : Int32} {M : am_M} {res : am_O × am_M} (h : (rX7_book n 12 [.inr (7, 0), .inr (6, x1), .inl (.int x2), .inl (.int 0)] [.inl (.int (M 18 x1 1))] M) = some res) : rX7_book (n + 100) 0 [.inr (7, 0), .inr (6, x1), .inl (.int x2), am_D] [] M = some res := uX7_book ((gX7_book_0 fX7_isFree fX7_hasForbiddenSuccession fX7_cancel (rX7_book n) x1 x2 M).trans h)
set_option maxRecDepth 20000 in
theorem gX7_book_12 (F0 F1 F2 : am_F) (k : Nat → List am_V → List am_V → am_M → am_R) (x1 : Nat) (x2 : Int32) (x3 : Int32) (y0 : Int32) (M : am_M) : gX7_book F0 F1 F2 k 12 [.inr (7, 0), .inr (6, x1), .inl (.int x2), .inl (.int x3)] [.inl (.int y0)] M =
  if y0 = (-1) then
   if 2 ≤ (x3 + 1) then
    if (M 18 x1 1) = (-1) then
     if (M 18 x1 4) = (-1) then
      am_ret [] 85 [] (k 88 [.inr (7, 0), .inr (6, x1), .inl (.int x2), .inl (.int 2)]) (F1 [.inr (7, 0)] M)
     else if am_in (M 18 x1 6) 13 then
      if am_in (M 18 x1 6) 13 then
       am_ret [] 85 [] (k 88 [.inr (7, 0), .inr (6, x1), .inl (.int x2), .inl (.int 2)]) (F1 [.inr (7, 0)] (am_put (am_put M 19 0 (Int32.toNatClampNeg (M 18 x1 6)) (M 18 x1 4)) 20 0 (Int32.toNatClampNeg (M 18 x1 6)) x2))
      else none
     else none
    else if am_in (M 18 x1 3) 13 then
     if am_in (M 18 x1 3) 13 then
      if (M 18 x1 4) = (-1) then
       am_ret [] 85 [] (k 88 [.inr (7, 0), .inr (6, x1), .inl (.int x2), .inl (.int 2)]) (F1 [.inr (7, 0)] (am_put (am_put M 19 0 (Int32.toNatClampNeg (M 18 x1 3)) (M 18 x1 1)) 20 0 (Int32.toNatClampNeg (M 18 x1 3)) x2))
      else if am_in (M 18 x1 6) 13 then
       if am_in (M 18 x1 6) 13 then
        am_ret [] 85 [] (k 88 [.inr (7, 0), .inr (6, x1), .inl (.int x2), .inl (.int 2)]) (F1 [.inr (7, 0)] (am_put (am_put (am_put (am_put M 19 0 (Int32.toNatClampNeg (M 18 x1 3)) (M 18 x1 1)) 20 0 (Int32.toNatClampNeg (M 18 x1 3)) x2) 19 0 (Int32.toNatClampNeg (M 18 x1 6)) (M 18 x1 4)) 20 0 (Int32.toNatClampNeg (M 18 x1 6)) x2))
       else none
      else none
     else none
    else none
   else am_ret [] 9 [] (k 12 [.inr (7, 0), .inr (6, x1), .inl (.int x2), .inl (.int (x3 + 1))]) (fX6_kindOf [.inr (6, x1), .inl (.int (x3 + 1))] M)
  else am_ret [] 19 [.inr (7, 0)] (k 22 [.inr (7, 0), .inr (6, x1), .inl (.int x2), .inl (.int x3)]) (fX6_ageOf [.inr (6, x1), .inl (.int x3)] M) := (rfl)
theorem eX7_book_12 {n : Nat} {x1 : Nat} {x2 : Int32} {x3 : Int32} {y0 : Int32} {M : am_M} {res : am_O × am_M} (h : (if y0 = (-1) then
   if 2 ≤ (x3 + 1) then
    if (M 18 x1 1) = (-1) then
     if (M 18 x1 4) = (-1) then
      am_ret [] 85 [] (rX7_book n 88 [.inr (7, 0), .inr (6, x1), .inl (.int x2), .inl (.int 2)]) (fX7_hasForbiddenSuccession [.inr (7, 0)] M)
     else if am_in (M 18 x1 6) 13 then
      if am_in (M 18 x1 6) 13 then
       am_ret [] 85 [] (rX7_book n 88 [.inr (7, 0), .inr (6, x1), .inl (.int x2), .inl (.int 2)]) (fX7_hasForbiddenSuccession [.inr (7, 0)] (am_put (am_put M 19 0 (Int32.toNatClampNeg (M 18 x1 6)) (M 18 x1 4)) 20 0 (Int32.toNatClampNeg (M 18 x1 6)) x2))
      else none
     else none
    else if am_in (M 18 x1 3) 13 then
     if am_in (M 18 x1 3) 13 then
      if (M 18 x1 4) = (-1) then
       am_ret [] 85 [] (rX7_book n 88 [.inr (7, 0), .inr (6, x1), .inl (.int x2), .inl (.int 2)]) (fX7_hasForbiddenSuccession [.inr (7, 0)] (am_put (am_put M 19 0 (Int32.toNatClampNeg (M 18 x1 3)) (M 18 x1 1)) 20 0 (Int32.toNatClampNeg (M 18 x1 3)) x2))
      else if am_in (M 18 x1 6) 13 then
       if am_in (M 18 x1 6) 13 then
        am_ret [] 85 [] (rX7_book n 88 [.inr (7, 0), .inr (6, x1), .inl (.int x2), .inl (.int 2)]) (fX7_hasForbiddenSuccession [.inr (7, 0)] (am_put (am_put (am_put (am_put M 19 0 (Int32.toNatClampNeg (M 18 x1 3)) (M 18 x1 1)) 20 0 (Int32.toNatClampNeg (M 18 x1 3)) x2) 19 0 (Int32.toNatClampNeg (M 18 x1 6)) (M 18 x1 4)) 20 0 (Int32.toNatClampNeg (M 18 x1 6)) x2))
       else none
      else none
     else none
    else none
   else am_ret [] 9 [] (rX7_book n 12 [.inr (7, 0), .inr (6, x1), .inl (.int x2), .inl (.int (x3 + 1))]) (fX6_kindOf [.inr (6, x1), .inl (.int (x3 + 1))] M)
  else am_ret [] 19 [.inr (7, 0)] (rX7_book n 22 [.inr (7, 0), .inr (6, x1), .inl (.int x2), .inl (.int x3)]) (fX6_ageOf [.inr (6, x1), .inl (.int x3)] M)) = some res) : rX7_book (n + 100) 12 [.inr (7, 0), .inr (6, x1), .inl (.int x2), .inl (.int x3)] [.inl (.int y0)] M = some res := uX7_book ((gX7_book_12 fX7_isFree fX7_hasForbiddenSuccession fX7_cancel (rX7_book n) x1 x2 x3 y0 M).trans h)
set_option maxRecDepth 20000 in
theorem gX7_book_88 (F0 F1 F2 : am_F) (k : Nat → List am_V → List am_V → am_M → am_R) (x1 : Nat) (x2 : Int32) (x3 : Int32) (y0 : Int32) (M : am_M) : gX7_book F0 F1 F2 k 88 [.inr (7, 0), .inr (6, x1), .inl (.int x2), .inl (.int x3)] [.inl (.int y0)] M =
  if y0 = 0 then
   some (.inl (some (.inl (.int 1))), M)
  else am_ret [] 93 [] (k 96 [.inr (7, 0), .inr (6, x1), .inl (.int x2), .inl (.int x3)]) (F2 [.inr (7, 0), .inl (.int x2)] M) := (rfl)
theorem eX7_book_88 {n : Nat} {x1 : Nat} {x2 : Int32} {x3 : Int32} {y0 : Int32} {M : am_M} {res : am_O × am_M} (h : (if y0 = 0 then
   some (.inl (some (.inl (.int 1))), M)
  else am_ret [] 93 [] (rX7_book n 96 [.inr (7, 0), .inr (6, x1), .inl (.int x2), .inl (.int x3)]) (fX7_cancel [.inr (7, 0), .inl (.int x2)] M)) = some res) : rX7_book (n + 100) 88 [.inr (7, 0), .inr (6, x1), .inl (.int x2), .inl (.int x3)] [.inl (.int y0)] M = some res := uX7_book ((gX7_book_88 fX7_isFree fX7_hasForbiddenSuccession fX7_cancel (rX7_book n) x1 x2 x3 y0 M).trans h)
set_option maxRecDepth 20000 in
theorem gX7_book_22 (F0 F1 F2 : am_F) (k : Nat → List am_V → List am_V → am_M → am_R) (x1 : Nat) (x2 : Int32) (x3 : Int32) (y0 : Int32) (M : am_M) : gX7_book F0 F1 F2 k 22 [.inr (7, 0), .inr (6, x1), .inl (.int x2), .inl (.int x3)] [.inl (.int y0), .inr (7, 0)] M =
  am_ret [] 22 [] (k 25 [.inr (7, 0), .inr (6, x1), .inl (.int x2), .inl (.int x3)]) (F0 [.inr (7, 0), .inl (.int y0)] M) := (rfl)
theorem eX7_book_22 {n : Nat} {x1 : Nat} {x2 : Int32} {x3 : Int32} {y0 : Int32} {M : am_M} {res : am_O × am_M} (h : (am_ret [] 22 [] (rX7_book n 25 [.inr (7, 0), .inr (6, x1), .inl (.int x2), .inl (.int x3)]) (fX7_isFree [.inr (7, 0), .inl (.int y0)] M)) = some res) : rX7_book (n + 100) 22 [.inr (7, 0), .inr (6, x1), .inl (.int x2), .inl (.int x3)] [.inl (.int y0), .inr (7, 0)] M = some res := uX7_book ((gX7_book_22 fX7_isFree fX7_hasForbiddenSuccession fX7_cancel (rX7_book n) x1 x2 x3 y0 M).trans h)
set_option maxRecDepth 20000 in
theorem gX7_book_96 (F0 F1 F2 : am_F) (k : Nat → List am_V → List am_V → am_M → am_R) (x1 : Nat) (x2 : Int32) (x3 : Int32) (M : am_M) : gX7_book F0 F1 F2 k 96 [.inr (7, 0), .inr (6, x1), .inl (.int x2), .inl (.int x3)] [] M =
  some (.inl (some (.inl (.int 0))), M) := (rfl)
theorem eX7_book_96 {n : Nat} {x1 : Nat} {x2 : Int32} {x3 : Int32} {M : am_M} {res : am_O × am_M} (h : (some (.inl (some (.inl (.int 0))), M)) = some res) : rX7_book (n + 100) 96 [.inr (7, 0), .inr (6, x1), .inl (.int x2), .inl (.int x3)] [] M = some res := uX7_book ((gX7_book_96 fX7_isFree fX7_hasForbiddenSuccession fX7_cancel (rX7_book n) x1 x2 x3 M).trans h)
set_option maxRecDepth 20000 in
theorem gX7_book_25 (F0 F1 F2 : am_F) (k : Nat → List am_V → List am_V → am_M → am_R) (x1 : Nat) (x2 : Int32) (x3 : Int32) (y0 : Int32) (M : am_M) : gX7_book F0 F1 F2 k 25 [.inr (7, 0), .inr (6, x1), .inl (.int x2), .inl (.int x3)] [.inl (.int y0)] M =
  if y0 = 0 then
   some (.inl (some (.inl (.int 0))), M)
  else if 2 ≤ (x3 + 1) then
   if (M 18 x1 1) = (-1) then
    if (M 18 x1 4) = (-1) then
     am_ret [] 85 [] (k 88 [.inr (7, 0), .inr (6, x1), .inl (.int x2), .inl (.int 2)]) (F1 [.inr (7, 0)] M)
    else if am_in (M 18 x1 6) 13 then
     if am_in (M 18 x1 6) 13 then
      am_ret [] 85 [] (k 88 [.inr (7, 0), .inr (6, x1), .inl (.int x2), .inl (.int 2)]) (F1 [.inr (7, 0)] (am_put (am_put M 19 0 (Int32.toNatClampNeg (M 18 x1 6)) (M 18 x1 4)) 20 0 (Int32.toNatClampNeg (M 18 x1 6)) x2))
     else none
    else none
   else if am_in (M 18 x1 3) 13 then
    if am_in (M 18 x1 3) 13 then
     if (M 18 x1 4) = (-1) then
      am_ret [] 85 [] (k 88 [.inr (7, 0), .inr (6, x1), .inl (.int x2), .inl (.int 2)]) (F1 [.inr (7, 0)] (am_put (am_put M 19 0 (Int32.toNatClampNeg (M 18 x1 3)) (M 18 x1 1)) 20 0 (Int32.toNatClampNeg (M 18 x1 3)) x2))
     else if am_in (M 18 x1 6) 13 then
      if am_in (M 18 x1 6) 13 then
       am_ret [] 85 [] (k 88 [.inr (7, 0), .inr (6, x1), .inl (.int x2), .inl (.int 2)]) (F1 [.inr (7, 0)] (am_put (am_put (am_put (am_put M 19 0 (Int32.toNatClampNeg (M 18 x1 3)) (M 18 x1 1)) 20 0 (Int32.toNatClampNeg (M 18 x1 3)) x2) 19 0 (Int32.toNatClampNeg (M 18 x1 6)) (M 18 x1 4)) 20 0 (Int32.toNatClampNeg (M 18 x1 6)) x2))
      else none
     else none
    else none
   else none
  else am_ret [] 9 [] (k 12 [.inr (7, 0), .inr (6, x1), .inl (.int x2), .inl (.int (x3 + 1))]) (fX6_kindOf [.inr (6, x1), .inl (.int (x3 + 1))] M) := (rfl)
theorem eX7_book_25 {n : Nat} {x1 : Nat} {x2 : Int32} {x3 : Int32} {y0 : Int32} {M : am_M} {res : am_O × am_M} (h : (if y0 = 0 then
   some (.inl (some (.inl (.int 0))), M)
  else if 2 ≤ (x3 + 1) then
   if (M 18 x1 1) = (-1) then
    if (M 18 x1 4) = (-1) then
     am_ret [] 85 [] (rX7_book n 88 [.inr (7, 0), .inr (6, x1), .inl (.int x2), .inl (.int 2)]) (fX7_hasForbiddenSuccession [.inr (7, 0)] M)
    else if am_in (M 18 x1 6) 13 then
     if am_in (M 18 x1 6) 13 then
      am_ret [] 85 [] (rX7_book n 88 [.inr (7, 0), .inr (6, x1), .inl (.int x2), .inl (.int 2)]) (fX7_hasForbiddenSuccession [.inr (7, 0)] (am_put (am_put M 19 0 (Int32.toNatClampNeg (M 18 x1 6)) (M 18 x1 4)) 20 0 (Int32.toNatClampNeg (M 18 x1 6)) x2))
     else none
    else none
   else if am_in (M 18 x1 3) 13 then
    if am_in (M 18 x1 3) 13 then
     if (M 18 x1 4) = (-1) then
      am_ret [] 85 [] (rX7_book n 88 [.inr (7, 0), .inr (6, x1), .inl (.int x2), .inl (.int 2)]) (fX7_hasForbiddenSuccession [.inr (7, 0)] (am_put (am_put M 19 0 (Int32.toNatClampNeg (M 18 x1 3)) (M 18 x1 1)) 20 0 (Int32.toNatClampNeg (M 18 x1 3)) x2))
     else if am_in (M 18 x1 6) 13 then
      if am_in (M 18 x1 6) 13 then
       am_ret [] 85 [] (rX7_book n 88 [.inr (7, 0), .inr (6, x1), .inl (.int x2), .inl (.int 2)]) (fX7_hasForbiddenSuccession [.inr (7, 0)] (am_put (am_put (am_put (am_put M 19 0 (Int32.toNatClampNeg (M 18 x1 3)) (M 18 x1 1)) 20 0 (Int32.toNatClampNeg (M 18 x1 3)) x2) 19 0 (Int32.toNatClampNeg (M 18 x1 6)) (M 18 x1 4)) 20 0 (Int32.toNatClampNeg (M 18 x1 6)) x2))
      else none
     else none
    else none
   else none
  else am_ret [] 9 [] (rX7_book n 12 [.inr (7, 0), .inr (6, x1), .inl (.int x2), .inl (.int (x3 + 1))]) (fX6_kindOf [.inr (6, x1), .inl (.int (x3 + 1))] M)) = some res) : rX7_book (n + 100) 25 [.inr (7, 0), .inr (6, x1), .inl (.int x2), .inl (.int x3)] [.inl (.int y0)] M = some res := uX7_book ((gX7_book_25 fX7_isFree fX7_hasForbiddenSuccession fX7_cancel (rX7_book n) x1 x2 x3 y0 M).trans h)
def rX8_isEmpty (n pc : Nat) (ls st : List am_V) (M : am_M) : am_R := am_run [] [] 2 am_X0 pX8_isEmpty n pc ls st M
def gX8_isEmpty (k : Nat → List am_V → List am_V → am_M → am_R) (pc : Nat) (ls st : List am_V) (M : am_M) : am_R := am_go [] [] 2 am_X0 pX8_isEmpty [] k 100 pc ls st M
theorem uX8_isEmpty {n pc : Nat} {ls st : List am_V} {M : am_M} {res : am_O × am_M} (h : gX8_isEmpty (rX8_isEmpty n) pc ls st M = some res) : rX8_isEmpty (n + 100) pc ls st M = some res := am_go_ok h
theorem eX8_isEmpty (x0 : Nat) (M : am_M) : fX8_isEmpty [.inr (8, x0)] M = rX8_isEmpty 100000 0 [.inr (8, x0)] [] M := am_meth_eq rfl rfl
set_option maxRecDepth 20000 in
theorem gX8_isEmpty_0 (k : Nat → List am_V → List am_V → am_M → am_R) (x0 : Nat) (M : am_M) : gX8_isEmpty k 0 [.inr (8, x0)] [] M =
  if (M 8 x0 0) = (-1) then
   some (.inl (some (.inl (.int 1))), M)
  else some (.inl (some (.inl (.int 0))), M) := (rfl)
theorem eX8_isEmpty_0 {n : Nat} {x0 : Nat} {M : am_M} {res : am_O × am_M} (h : (if (M 8 x0 0) = (-1) then
   some (.inl (some (.inl (.int 1))), M)
  else some (.inl (some (.inl (.int 0))), M)) = some res) : rX8_isEmpty (n + 100) 0 [.inr (8, x0)] [] M = some res := uX8_isEmpty ((gX8_isEmpty_0 (rX8_isEmpty n) x0 M).trans h)
