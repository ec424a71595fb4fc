/-! ===== the runs, piece by piece ===== -/
def rX9_host (n pc : Nat) (ls st : List am_V) (M : am_M) : am_R := am_run [fX9_isWithin, fX9_demandIndex] [] 1 am_X0 pX9_host n pc ls st M
def gX9_host (F0 F1 : am_F) (k : Nat → List am_V → List am_V → am_M → am_R) (pc : Nat) (ls st : List am_V) (M : am_M) : am_R := am_go [F0, F1] [] 1 am_X0 pX9_host [14, 17] k 100 pc ls st M
theorem uX9_host {n pc : Nat} {ls st : List am_V} {M : am_M} {res : am_O × am_M} (h : gX9_host fX9_isWithin fX9_demandIndex (rX9_host n) pc ls st M = some res) : rX9_host (n + 100) pc ls st M = some res := am_go_ok h
theorem eX9_host (x1 : Int32) (M : am_M) : fX9_host [.inr (9, 0), .inl (.int x1)] M = rX9_host 100000 0 [.inr (9, 0), .inl (.int x1)] [] M := am_meth_eq rfl rfl
set_option maxRecDepth 20000 in
theorem gX9_host_0 (F0 F1 : am_F) (k : Nat → List am_V → List am_V → am_M → am_R) (x1 : Int32) (M : am_M) : gX9_host F0 F1 k 0 [.inr (9, 0), .inl (.int x1)] [] M =
  am_ret [] 11 [] (k 14 [.inr (9, 0), .inl (.int x1)]) (F0 [.inl (.int x1), .inl (.int 0), .inl (.int ((M 3 0 1) - 1))] M) := (rfl)
theorem eX9_host_0 {n : Nat} {x1 : Int32} {M : am_M} {res : am_O × am_M} (h : (am_ret [] 11 [] (rX9_host n 14 [.inr (9, 0), .inl (.int x1)]) (fX9_isWithin [.inl (.int x1), .inl (.int 0), .inl (.int ((M 3 0 1) - 1))] M)) = some res) : rX9_host (n + 100) 0 [.inr (9, 0), .inl (.int x1)] [] M = some res := uX9_host ((gX9_host_0 fX9_isWithin fX9_demandIndex (rX9_host n) x1 M).trans h)
set_option maxRecDepth 20000 in
theorem gX9_host_14 (F0 F1 : am_F) (k : Nat → List am_V → List am_V → am_M → am_R) (x1 : Int32) (y0 : Int32) (M : am_M) : gX9_host F0 F1 k 14 [.inr (9, 0), .inl (.int x1)] [.inl (.int y0)] M =
  am_ret [] 14 [] (k 17 [.inr (9, 0), .inl (.int x1)]) (F1 [.inl (.int y0)] M) := (rfl)
theorem eX9_host_14 {n : Nat} {x1 : Int32} {y0 : Int32} {M : am_M} {res : am_O × am_M} (h : (am_ret [] 14 [] (rX9_host n 17 [.inr (9, 0), .inl (.int x1)]) (fX9_demandIndex [.inl (.int y0)] M)) = some res) : rX9_host (n + 100) 14 [.inr (9, 0), .inl (.int x1)] [.inl (.int y0)] M = some res := uX9_host ((gX9_host_14 fX9_isWithin fX9_demandIndex (rX9_host n) x1 y0 M).trans h)
set_option maxRecDepth 20000 in
theorem gX9_host_17 (F0 F1 : am_F) (k : Nat → List am_V → List am_V → am_M → am_R) (x1 : Int32) (M : am_M) : gX9_host F0 F1 k 17 [.inr (9, 0), .inl (.int x1)] [] M =
  if am_in x1 40 then
   some (.inl (some (.inl (.int (M 17 0 (Int32.toNatClampNeg x1))))), M)
  else none := (rfl)
theorem eX9_host_17 {n : Nat} {x1 : Int32} {M : am_M} {res : am_O × am_M} (h : (if am_in x1 40 then
   some (.inl (some (.inl (.int (M 17 0 (Int32.toNatClampNeg x1))))), M)
  else none) = some res) : rX9_host (n + 100) 17 [.inr (9, 0), .inl (.int x1)] [] M = some res := uX9_host ((gX9_host_17 fX9_isWithin fX9_demandIndex (rX9_host n) x1 M).trans h)
def rX9_took (n pc : Nat) (ls st : List am_V) (M : am_M) : am_R := am_run [fX9_isWithin, fX9_demandArgument, fX3_dropFirst] [] 1 am_X0 pX9_took n pc ls st M
def gX9_took (F0 F1 F2 : am_F) (k : Nat → List am_V → List am_V → am_M → am_R) (pc : Nat) (ls st : List am_V) (M : am_M) : am_R := am_go [F0, F1, F2] [] 1 am_X0 pX9_took [12, 15, 23] k 100 pc ls st M
theorem uX9_took {n pc : Nat} {ls st : List am_V} {M : am_M} {res : am_O × am_M} (h : gX9_took fX9_isWithin fX9_demandArgument fX3_dropFirst (rX9_took n) pc ls st M = some res) : rX9_took (n + 100) pc ls st M = some res := am_go_ok h
theorem eX9_took (x1 : Int32) (M : am_M) : fX9_took [.inr (9, 0), .inl (.int x1)] M = rX9_took 100000 0 [.inr (9, 0), .inl (.int x1)] [] M := am_meth_eq rfl rfl
set_option maxRecDepth 20000 in
theorem gX9_took_0 (F0 F1 F2 : am_F) (k : Nat → List am_V → List am_V → am_M → am_R) (x1 : Int32) (M : am_M) : gX9_took F0 F1 F2 k 0 [.inr (9, 0), .inl (.int x1)] [] M =
  am_ret [] 9 [] (k 12 [.inr (9, 0), .inl (.int x1)]) (F0 [.inl (.int x1), .inl (.int 0), .inl (.int (M 3 0 1))] M) := (rfl)
theorem eX9_took_0 {n : Nat} {x1 : Int32} {M : am_M} {res : am_O × am_M} (h : (am_ret [] 9 [] (rX9_took n 12 [.inr (9, 0), .inl (.int x1)]) (fX9_isWithin [.inl (.int x1), .inl (.int 0), .inl (.int (M 3 0 1))] M)) = some res) : rX9_took (n + 100) 0 [.inr (9, 0), .inl (.int x1)] [] M = some res := uX9_took ((gX9_took_0 fX9_isWithin fX9_demandArgument fX3_dropFirst (rX9_took n) x1 M).trans h)
set_option maxRecDepth 20000 in
theorem gX9_took_12 (F0 F1 F2 : am_F) (k : Nat → List am_V → List am_V → am_M → am_R) (x1 : Int32) (y0 : Int32) (M : am_M) : gX9_took F0 F1 F2 k 12 [.inr (9, 0), .inl (.int x1)] [.inl (.int y0)] M =
  am_ret [] 12 [] (k 15 [.inr (9, 0), .inl (.int x1)]) (F1 [.inl (.int y0)] M) := (rfl)
theorem eX9_took_12 {n : Nat} {x1 : Int32} {y0 : Int32} {M : am_M} {res : am_O × am_M} (h : (am_ret [] 12 [] (rX9_took n 15 [.inr (9, 0), .inl (.int x1)]) (fX9_demandArgument [.inl (.int y0)] M)) = some res) : rX9_took (n + 100) 12 [.inr (9, 0), .inl (.int x1)] [.inl (.int y0)] M = some res := uX9_took ((gX9_took_12 fX9_isWithin fX9_demandArgument fX3_dropFirst (rX9_took n) x1 y0 M).trans h)
set_option maxRecDepth 20000 in
theorem gX9_took_15 (F0 F1 F2 : am_F) (k : Nat → List am_V → List am_V → am_M → am_R) (x1 : Int32) (M : am_M) : gX9_took F0 F1 F2 k 15 [.inr (9, 0), .inl (.int x1)] [] M =
  am_ret [] 20 [] (k 23 [.inr (9, 0), .inl (.int x1)]) (F2 [.inr (3, 0), .inl (.int x1)] M) := (rfl)
theorem eX9_took_15 {n : Nat} {x1 : Int32} {M : am_M} {res : am_O × am_M} (h : (am_ret [] 20 [] (rX9_took n 23 [.inr (9, 0), .inl (.int x1)]) (fX3_dropFirst [.inr (3, 0), .inl (.int x1)] M)) = some res) : rX9_took (n + 100) 15 [.inr (9, 0), .inl (.int x1)] [] M = some res := uX9_took ((gX9_took_15 fX9_isWithin fX9_demandArgument fX3_dropFirst (rX9_took n) x1 M).trans h)
set_option maxRecDepth 20000 in
theorem gX9_took_23 (F0 F1 F2 : am_F) (k : Nat → List am_V → List am_V → am_M → am_R) (x1 : Int32) (M : am_M) : gX9_took F0 F1 F2 k 23 [.inr (9, 0), .inl (.int x1)] [] M =
  some (.inl (some (.inl (.int (M 3 0 1)))), M) := (rfl)
theorem eX9_took_23 {n : Nat} {x1 : Int32} {M : am_M} {res : am_O × am_M} (h : (some (.inl (some (.inl (.int (M 3 0 1)))), M)) = some res) : rX9_took (n + 100) 23 [.inr (9, 0), .inl (.int x1)] [] M = some res := uX9_took ((gX9_took_23 fX9_isWithin fX9_demandArgument fX3_dropFirst (rX9_took n) x1 M).trans h)
def rX10_thrown (n pc : Nat) (ls st : List am_V) (M : am_M) : am_R := am_run [] [] 1 am_X0 pX10_thrown n pc ls st M
def gX10_thrown (k : Nat → List am_V → List am_V → am_M → am_R) (pc : Nat) (ls st : List am_V) (M : am_M) : am_R := am_go [] [] 1 am_X0 pX10_thrown [] k 100 pc ls st M
theorem uX10_thrown {n pc : Nat} {ls st : List am_V} {M : am_M} {res : am_O × am_M} (h : gX10_thrown (rX10_thrown n) pc ls st M = some res) : rX10_thrown (n + 100) pc ls st M = some res := am_go_ok h
theorem eX10_thrown (M : am_M) : fX10_thrown [.inr (10, 0)] M = rX10_thrown 100000 0 [.inr (10, 0)] [] M := am_meth_eq rfl rfl
set_option maxRecDepth 20000 in
theorem gX10_thrown_0 (k : Nat → List am_V → List am_V → am_M → am_R) (M : am_M) : gX10_thrown k 0 [.inr (10, 0)] [] M =
  some (.inl (some (.inl (.int (M 10 0 45)))), M) := (rfl)
theorem eX10_thrown_0 {n : Nat} {M : am_M} {res : am_O × am_M} (h : (some (.inl (some (.inl (.int (M 10 0 45)))), M)) = some res) : rX10_thrown (n + 100) 0 [.inr (10, 0)] [] M = some res := uX10_thrown ((gX10_thrown_0 (rX10_thrown n) M).trans h)
def rX10_within (n pc : Nat) (ls st : List am_V) (M : am_M) : am_R := am_run [] [] 2 am_X0 pX10_within n pc ls st M
def gX10_within (k : Nat → List am_V → List am_V → am_M → am_R) (pc : Nat) (ls st : List am_V) (M : am_M) : am_R := am_go [] [] 2 am_X0 pX10_within [] k 100 pc ls st M
theorem uX10_within {n pc : Nat} {ls st : List am_V} {M : am_M} {res : am_O × am_M} (h : gX10_within (rX10_within n) pc ls st M = some res) : rX10_within (n + 100) pc ls st M = some res := am_go_ok h
theorem eX10_within (x0 : Int32) (x1 : Int32) (x2 : Int32) (M : am_M) : fX10_within [.inl (.int x0), .inl (.int x1), .inl (.int x2)] M = rX10_within 100000 0 [.inl (.int x0), .inl (.int x1), .inl (.int x2)] [] M := am_meth_eq rfl rfl
set_option maxRecDepth 20000 in
theorem gX10_within_0 (k : Nat → List am_V → List am_V → am_M → am_R) (x0 : Int32) (x1 : Int32) (x2 : Int32) (M : am_M) : gX10_within k 0 [.inl (.int x0), .inl (.int x1), .inl (.int x2)] [] M =
  if x0 < x1 then
   some (.inl (some (.inl (.int 0))), M)
  else if x2 < x0 then
   some (.inl (some (.inl (.int 0))), M)
  else some (.inl (some (.inl (.int 1))), M) := (rfl)
theorem eX10_within_0 {n : Nat} {x0 : Int32} {x1 : Int32} {x2 : Int32} {M : am_M} {res : am_O × am_M} (h : (if x0 < x1 then
   some (.inl (some (.inl (.int 0))), M)
  else if x2 < x0 then
   some (.inl (some (.inl (.int 0))), M)
  else some (.inl (some (.inl (.int 1))), M)) = some res) : rX10_within (n + 100) 0 [.inl (.int x0), .inl (.int x1), .inl (.int x2)] [] M = some res := uX10_within ((gX10_within_0 (rX10_within n) x0 x1 x2 M).trans h)
def rX10_isTest (n pc : Nat) (ls st : List am_V) (M : am_M) : am_R := am_run [fX10_within] [] 2 am_X0 pX10_isTest n pc ls st M
def gX10_isTest (F0 : am_F) (k : Nat → List am_V → List am_V → am_M → am_R) (pc : Nat) (ls st : List am_V) (M : am_M) : am_R := am_go [F0] [] 2 am_X0 pX10_isTest [6] k 100 pc ls st M
theorem uX10_isTest {n pc : Nat} {ls st : List am_V} {M : am_M} {res : am_O × am_M} (h : gX10_isTest fX10_within (rX10_isTest n) pc ls st M = some res) : rX10_isTest (n + 100) pc ls st M = some res := am_go_ok h
theorem eX10_isTest (x0 : Int32) (M : am_M) : fX10_isTest [.inl (.int x0)] M = rX10_isTest 100000 0 [.inl (.int x0)] [] M := am_meth_eq rfl rfl
set_option maxRecDepth 20000 in
theorem gX10_isTest_0 (F0 : am_F) (k : Nat → List am_V → List am_V → am_M → am_R) (x0 : Int32) (M : am_M) : gX10_isTest F0 k 0 [.inl (.int x0)] [] M =
  am_ret [] 3 [] (k 6 [.inl (.int x0)]) (F0 [.inl (.int x0), .inl (.int 0), .inl (.int 3)] M) := (rfl)
theorem eX10_isTest_0 {n : Nat} {x0 : Int32} {M : am_M} {res : am_O × am_M} (h : (am_ret [] 3 [] (rX10_isTest n 6 [.inl (.int x0)]) (fX10_within [.inl (.int x0), .inl (.int 0), .inl (.int 3)] M)) = some res) : rX10_isTest (n + 100) 0 [.inl (.int x0)] [] M = some res := uX10_isTest ((gX10_isTest_0 fX10_within (rX10_isTest n) x0 M).trans h)
set_option maxRecDepth 20000 in
theorem gX10_isTest_6 (F0 : am_F) (k : Nat → List am_V → List am_V → am_M → am_R) (x0 : Int32) (y0 : Int32) (M : am_M) : gX10_isTest F0 k 6 [.inl (.int x0)] [.inl (.int y0)] M =
  Option.map (fun o => (o, M)) (am_fin 2 .ireturn [.inl (.int x0)] [.inl (.int y0)]) := (rfl)
theorem eX10_isTest_6 {n : Nat} {x0 : Int32} {y0 : Int32} {M : am_M} {res : am_O × am_M} (h : (Option.map (fun o => (o, M)) (am_fin 2 .ireturn [.inl (.int x0)] [.inl (.int y0)])) = some res) : rX10_isTest (n + 100) 6 [.inl (.int x0)] [.inl (.int y0)] M = some res := uX10_isTest ((gX10_isTest_6 fX10_within (rX10_isTest n) x0 y0 M).trans h)
def rX10_of (n pc : Nat) (ls st : List am_V) (M : am_M) : am_R := am_run [] [] 1 am_X0 pX10_of n pc ls st M
def gX10_of (k : Nat → List am_V → List am_V → am_M → am_R) (pc : Nat) (ls st : List am_V) (M : am_M) : am_R := am_go [] [] 1 am_X0 pX10_of [] k 100 pc ls st M
theorem uX10_of {n pc : Nat} {ls st : List am_V} {M : am_M} {res : am_O × am_M} (h : gX10_of (rX10_of n) pc ls st M = some res) : rX10_of (n + 100) pc ls st M = some res := am_go_ok h
theorem eX10_of (x1 : Int32) (x2 : Int32) (M : am_M) : fX10_of [.inr (10, 0), .inl (.int x1), .inl (.int x2)] M = rX10_of 100000 0 [.inr (10, 0), .inl (.int x1), .inl (.int x2)] [] M := am_meth_eq rfl rfl
set_option maxRecDepth 20000 in
theorem gX10_of_0 (k : Nat → List am_V → List am_V → am_M → am_R) (x1 : Int32) (x2 : Int32) (M : am_M) : gX10_of k 0 [.inr (10, 0), .inl (.int x1), .inl (.int x2)] [] M =
  if am_in ((16 * x1) + x2) 64 then
   some (.inl (some (.inl (.int (M 30 0 (Int32.toNatClampNeg ((16 * x1) + x2)))))), M)
  else none := (rfl)
theorem eX10_of_0 {n : Nat} {x1 : Int32} {x2 : Int32} {M : am_M} {res : am_O × am_M} (h : (if am_in ((16 * x1) + x2) 64 then
   some (.inl (some (.inl (.int (M 30 0 (Int32.toNatClampNeg ((16 * x1) + x2)))))), M)
  else none) = some res) : rX10_of (n + 100) 0 [.inr (10, 0), .inl (.int x1), .inl (.int x2)] [] M = some res := uX10_of ((gX10_of_0 (rX10_of n) x1 x2 M).trans h)
def rX10_pending (n pc : Nat) (ls st : List am_V) (M : am_M) : am_R := am_run [] [] 2 am_X0 pX10_pending n pc ls st M
def gX10_pending (k : Nat → List am_V → List am_V → am_M → am_R) (pc : Nat) (ls st : List am_V) (M : am_M) : am_R := am_go [] [] 2 am_X0 pX10_pending [2] k 100 pc ls st M
theorem uX10_pending {n pc : Nat} {ls st : List am_V} {M : am_M} {res : am_O × am_M} (h : gX10_pending (rX10_pending n) pc ls st M = some res) : rX10_pending (n + 100) pc ls st M = some res := am_go_ok h
theorem eX10_pending (x1 : Int32) (M : am_M) : fX10_pending [.inr (10, 0), .inl (.int x1)] M = rX10_pending 100000 0 [.inr (10, 0), .inl (.int x1), am_D] [] M := am_meth_eq rfl rfl
set_option maxRecDepth 20000 in
theorem gX10_pending_0 (k : Nat → List am_V → List am_V → am_M → am_R) (x1 : Int32) (M : am_M) : gX10_pending k 0 [.inr (10, 0), .inl (.int x1), am_D] [] M =
  k 2 [.inr (10, 0), .inl (.int x1), .inl (.int 0)] [] M := (rfl)
theorem eX10_pending_0 {n : Nat} {x1 : Int32} {M : am_M} {res : am_O × am_M} (h : (rX10_pending n 2 [.inr (10, 0), .inl (.int x1), .inl (.int 0)] [] M) = some res) : rX10_pending (n + 100) 0 [.inr (10, 0), .inl (.int x1), am_D] [] M = some res := uX10_pending ((gX10_pending_0 (rX10_pending n) x1 M).trans h)
set_option maxRecDepth 20000 in
theorem gX10_pending_2 (k : Nat → List am_V → List am_V → am_M → am_R) (x1 : Int32) (x2 : Int32) (M : am_M) : gX10_pending k 2 [.inr (10, 0), .inl (.int x1), .inl (.int x2)] [] M =
  if (M 10 0 14) ≤ x2 then
   some (.inl (some (.inl (.int 0))), M)
  else if am_in x2 40 then
   if (M 46 0 (Int32.toNatClampNeg x2)) = x1 then
    if am_in x2 40 then
     if 1 < (M 48 0 (Int32.toNatClampNeg x2)) then
      k 2 [.inr (10, 0), .inl (.int x1), .inl (.int (x2 + 1))] [] M
     else some (.inl (some (.inl (.int 1))), M)
    else none
   else k 2 [.inr (10, 0), .inl (.int x1), .inl (.int (x2 + 1))] [] M
  else none := (rfl)
theorem eX10_pending_2 {n : Nat} {x1 : Int32} {x2 : Int32} {M : am_M} {res : am_O × am_M} (h : (if (M 10 0 14) ≤ x2 then
   some (.inl (some (.inl (.int 0))), M)
  else if am_in x2 40 then
   if (M 46 0 (Int32.toNatClampNeg x2)) = x1 then
    if am_in x2 40 then
     if 1 < (M 48 0 (Int32.toNatClampNeg x2)) then
      rX10_pending n 2 [.inr (10, 0), .inl (.int x1), .inl (.int (x2 + 1))] [] M
     else some (.inl (some (.inl (.int 1))), M)
    else none
   else rX10_pending n 2 [.inr (10, 0), .inl (.int x1), .inl (.int (x2 + 1))] [] M
  else none) = some res) : rX10_pending (n + 100) 2 [.inr (10, 0), .inl (.int x1), .inl (.int x2)] [] M = some res := uX10_pending ((gX10_pending_2 (rX10_pending n) x1 x2 M).trans h)
def rX10_fits (n pc : Nat) (ls st : List am_V) (M : am_M) : am_R := am_run [fX10_within] [] 2 am_X0 pX10_fits n pc ls st M
def gX10_fits (F0 : am_F) (k : Nat → List am_V → List am_V → am_M → am_R) (pc : Nat) (ls st : List am_V) (M : am_M) : am_R := am_go [F0] [] 2 am_X0 pX10_fits [88, 95, 104, 112, 119, 127, 135] k 100 pc ls st M
theorem uX10_fits {n pc : Nat} {ls st : List am_V} {M : am_M} {res : am_O × am_M} (h : gX10_fits fX10_within (rX10_fits n) pc ls st M = some res) : rX10_fits (n + 100) pc ls st M = some res := am_go_ok h
theorem eX10_fits (x0 : Int32) (x1 : Int32) (M : am_M) : fX10_fits [.inl (.int x0), .inl (.int x1)] M = rX10_fits 100000 0 [.inl (.int x0), .inl (.int x1)] [] M := am_meth_eq rfl rfl
set_option maxRecDepth 20000 in
theorem gX10_fits_0 (F0 : am_F) (k : Nat → List am_V → List am_V → am_M → am_R) (x0 : Int32) (x1 : Int32) (M : am_M) : gX10_fits F0 k 0 [.inl (.int x0), .inl (.int x1)] [] M =
  if x0 = 0 then
   am_ret [] 85 [] (k 88 [.inl (.int x0), .inl (.int x1)]) (F0 [.inl (.int x1), .inl (.int 0), .inl (.int 500)] M)
  else if x0 = 1 then
   am_ret [] 92 [] (k 95 [.inl (.int x0), .inl (.int x1)]) (F0 [.inl (.int x1), .inl (.int (-1)), .inl (.int 5)] M)
  else if x0 = 2 then
   am_ret [] 101 [] (k 104 [.inl (.int x0), .inl (.int x1)]) (F0 [.inl (.int x1), .inl (.int 0), .inl (.int 2000)] M)
  else if x0 = 3 then
   am_ret [] 109 [] (k 112 [.inl (.int x0), .inl (.int x1)]) (F0 [.inl (.int x1), .inl (.int 0), .inl (.int 12)] M)
  else if x0 = 4 then
   am_ret [] 92 [] (k 95 [.inl (.int x0), .inl (.int x1)]) (F0 [.inl (.int x1), .inl (.int (-1)), .inl (.int 5)] M)
  else if x0 = 5 then
   am_ret [] 101 [] (k 104 [.inl (.int x0), .inl (.int x1)]) (F0 [.inl (.int x1), .inl (.int 0), .inl (.int 2000)] M)
  else if x0 = 6 then
   am_ret [] 109 [] (k 112 [.inl (.int x0), .inl (.int x1)]) (F0 [.inl (.int x1), .inl (.int 0), .inl (.int 12)] M)
  else if x0 = 7 then
   am_ret [] 109 [] (k 112 [.inl (.int x0), .inl (.int x1)]) (F0 [.inl (.int x1), .inl (.int 0), .inl (.int 12)] M)
  else if x0 = 8 then
   am_ret [] 109 [] (k 112 [.inl (.int x0), .inl (.int x1)]) (F0 [.inl (.int x1), .inl (.int 0), .inl (.int 12)] M)
  else if x0 = 9 then
   am_ret [] 116 [] (k 119 [.inl (.int x0), .inl (.int x1)]) (F0 [.inl (.int x1), .inl (.int 0), .inl (.int 2)] M)
  else if x0 = 10 then
   some (.inl (some (.inl (.int 1))), M)
  else if x0 = 11 then
   some (.inl (some (.inl (.int 1))), M)
  else if x0 = 12 then
   am_ret [] 116 [] (k 119 [.inl (.int x0), .inl (.int x1)]) (F0 [.inl (.int x1), .inl (.int 0), .inl (.int 2)] M)
  else if x0 = 13 then
   am_ret [] 124 [] (k 127 [.inl (.int x0), .inl (.int x1)]) (F0 [.inl (.int x1), .inl (.int 2), .inl (.int 10)] M)
  else if x0 = 14 then
   some (.inl (some (.inl (.int 1))), M)
  else if x0 = 15 then
   am_ret [] 132 [] (k 135 [.inl (.int x0), .inl (.int x1)]) (F0 [.inl (.int x1), .inl (.int 1), .inl (.int 1000000)] M)
  else some (.inl (some (.inl (.int 1))), M) := (rfl)
theorem eX10_fits_0 {n : Nat} {x0 : Int32} {x1 : Int32} {M : am_M} {res : am_O × am_M} (h : (if x0 = 0 then
   am_ret [] 85 [] (rX10_fits n 88 [.inl (.int x0), .inl (.int x1)]) (fX10_within [.inl (.int x1), .inl (.int 0), .inl (.int 500)] M)
  else if x0 = 1 then
   am_ret [] 92 [] (rX10_fits n 95 [.inl (.int x0), .inl (.int x1)]) (fX10_within [.inl (.int x1), .inl (.int (-1)), .inl (.int 5)] M)
  else if x0 = 2 then
   am_ret [] 101 [] (rX10_fits n 104 [.inl (.int x0), .inl (.int x1)]) (fX10_within [.inl (.int x1), .inl (.int 0), .inl (.int 2000)] M)
  else if x0 = 3 then
   am_ret [] 109 [] (rX10_fits n 112 [.inl (.int x0), .inl (.int x1)]) (fX10_within [.inl (.int x1), .inl (.int 0), .inl (.int 12)] M)
  else if x0 = 4 then
   am_ret [] 92 [] (rX10_fits n 95 [.inl (.int x0), .inl (.int x1)]) (fX10_within [.inl (.int x1), .inl (.int (-1)), .inl (.int 5)] M)
  else if x0 = 5 then
   am_ret [] 101 [] (rX10_fits n 104 [.inl (.int x0), .inl (.int x1)]) (fX10_within [.inl (.int x1), .inl (.int 0), .inl (.int 2000)] M)
  else if x0 = 6 then
   am_ret [] 109 [] (rX10_fits n 112 [.inl (.int x0), .inl (.int x1)]) (fX10_within [.inl (.int x1), .inl (.int 0), .inl (.int 12)] M)
  else if x0 = 7 then
   am_ret [] 109 [] (rX10_fits n 112 [.inl (.int x0), .inl (.int x1)]) (fX10_within [.inl (.int x1), .inl (.int 0), .inl (.int 12)] M)
  else if x0 = 8 then
   am_ret [] 109 [] (rX10_fits n 112 [.inl (.int x0), .inl (.int x1)]) (fX10_within [.inl (.int x1), .inl (.int 0), .inl (.int 12)] M)
  else if x0 = 9 then
   am_ret [] 116 [] (rX10_fits n 119 [.inl (.int x0), .inl (.int x1)]) (fX10_within [.inl (.int x1), .inl (.int 0), .inl (.int 2)] M)
  else if x0 = 10 then
   some (.inl (some (.inl (.int 1))), M)
  else if x0 = 11 then
   some (.inl (some (.inl (.int 1))), M)
  else if x0 = 12 then
   am_ret [] 116 [] (rX10_fits n 119 [.inl (.int x0), .inl (.int x1)]) (fX10_within [.inl (.int x1), .inl (.int 0), .inl (.int 2)] M)
  else if x0 = 13 then
   am_ret [] 124 [] (rX10_fits n 127 [.inl (.int x0), .inl (.int x1)]) (fX10_within [.inl (.int x1), .inl (.int 2), .inl (.int 10)] M)
  else if x0 = 14 then
   some (.inl (some (.inl (.int 1))), M)
  else if x0 = 15 then
   am_ret [] 132 [] (rX10_fits n 135 [.inl (.int x0), .inl (.int x1)]) (fX10_within [.inl (.int x1), .inl (.int 1), .inl (.int 1000000)] M)
  else some (.inl (some (.inl (.int 1))), M)) = some res) : rX10_fits (n + 100) 0 [.inl (.int x0), .inl (.int x1)] [] M = some res := uX10_fits ((gX10_fits_0 fX10_within (rX10_fits n) x0 x1 M).trans h)
set_option maxRecDepth 20000 in
theorem gX10_fits_88 (F0 : am_F) (k : Nat → List am_V → List am_V → am_M → am_R) (x0 : Int32) (x1 : Int32) (y0 : Int32) (M : am_M) : gX10_fits F0 k 88 [.inl (.int x0), .inl (.int x1)] [.inl (.int y0)] M =
  Option.map (fun o => (o, M)) (am_fin 2 .ireturn [.inl (.int x0), .inl (.int x1)] [.inl (.int y0)]) := (rfl)
theorem eX10_fits_88 {n : Nat} {x0 : Int32} {x1 : Int32} {y0 : Int32} {M : am_M} {res : am_O × am_M} (h : (Option.map (fun o => (o, M)) (am_fin 2 .ireturn [.inl (.int x0), .inl (.int x1)] [.inl (.int y0)])) = some res) : rX10_fits (n + 100) 88 [.inl (.int x0), .inl (.int x1)] [.inl (.int y0)] M = some res := uX10_fits ((gX10_fits_88 fX10_within (rX10_fits n) x0 x1 y0 M).trans h)
set_option maxRecDepth 20000 in
theorem gX10_fits_95 (F0 : am_F) (k : Nat → List am_V → List am_V → am_M → am_R) (x0 : Int32) (x1 : Int32) (y0 : Int32) (M : am_M) : gX10_fits F0 k 95 [.inl (.int x0), .inl (.int x1)] [.inl (.int y0)] M =
  Option.map (fun o => (o, M)) (am_fin 2 .ireturn [.inl (.int x0), .inl (.int x1)] [.inl (.int y0)]) := (rfl)
theorem eX10_fits_95 {n : Nat} {x0 : Int32} {x1 : Int32} {y0 : Int32} {M : am_M} {res : am_O × am_M} (h : (Option.map (fun o => (o, M)) (am_fin 2 .ireturn [.inl (.int x0), .inl (.int x1)] [.inl (.int y0)])) = some res) : rX10_fits (n + 100) 95 [.inl (.int x0), .inl (.int x1)] [.inl (.int y0)] M = some res := uX10_fits ((gX10_fits_95 fX10_within (rX10_fits n) x0 x1 y0 M).trans h)
set_option maxRecDepth 20000 in
theorem gX10_fits_104 (F0 : am_F) (k : Nat → List am_V → List am_V → am_M → am_R) (x0 : Int32) (x1 : Int32) (y0 : Int32) (M : am_M) : gX10_fits F0 k 104 [.inl (.int x0), .inl (.int x1)] [.inl (.int y0)] M =
  Option.map (fun o => (o, M)) (am_fin 2 .ireturn [.inl (.int x0), .inl (.int x1)] [.inl (.int y0)]) := (rfl)
theorem eX10_fits_104 {n : Nat} {x0 : Int32} {x1 : Int32} {y0 : Int32} {M : am_M} {res : am_O × am_M} (h : (Option.map (fun o => (o, M)) (am_fin 2 .ireturn [.inl (.int x0), .inl (.int x1)] [.inl (.int y0)])) = some res) : rX10_fits (n + 100) 104 [.inl (.int x0), .inl (.int x1)] [.inl (.int y0)] M = some res := uX10_fits ((gX10_fits_104 fX10_within (rX10_fits n) x0 x1 y0 M).trans h)
set_option maxRecDepth 20000 in
theorem gX10_fits_112 (F0 : am_F) (k : Nat → List am_V → List am_V → am_M → am_R) (x0 : Int32) (x1 : Int32) (y0 : Int32) (M : am_M) : gX10_fits F0 k 112 [.inl (.int x0), .inl (.int x1)] [.inl (.int y0)] M =
  Option.map (fun o => (o, M)) (am_fin 2 .ireturn [.inl (.int x0), .inl (.int x1)] [.inl (.int y0)]) := (rfl)
theorem eX10_fits_112 {n : Nat} {x0 : Int32} {x1 : Int32} {y0 : Int32} {M : am_M} {res : am_O × am_M} (h : (Option.map (fun o => (o, M)) (am_fin 2 .ireturn [.inl (.int x0), .inl (.int x1)] [.inl (.int y0)])) = some res) : rX10_fits (n + 100) 112 [.inl (.int x0), .inl (.int x1)] [.inl (.int y0)] M = some res := uX10_fits ((gX10_fits_112 fX10_within (rX10_fits n) x0 x1 y0 M).trans h)
set_option maxRecDepth 20000 in
theorem gX10_fits_119 (F0 : am_F) (k : Nat → List am_V → List am_V → am_M → am_R) (x0 : Int32) (x1 : Int32) (y0 : Int32) (M : am_M) : gX10_fits F0 k 119 [.inl (.int x0), .inl (.int x1)] [.inl (.int y0)] M =
  Option.map (fun o => (o, M)) (am_fin 2 .ireturn [.inl (.int x0), .inl (.int x1)] [.inl (.int y0)]) := (rfl)
theorem eX10_fits_119 {n : Nat} {x0 : Int32} {x1 : Int32} {y0 : Int32} {M : am_M} {res : am_O × am_M} (h : (Option.map (fun o => (o, M)) (am_fin 2 .ireturn [.inl (.int x0), .inl (.int x1)] [.inl (.int y0)])) = some res) : rX10_fits (n + 100) 119 [.inl (.int x0), .inl (.int x1)] [.inl (.int y0)] M = some res := uX10_fits ((gX10_fits_119 fX10_within (rX10_fits n) x0 x1 y0 M).trans h)
set_option maxRecDepth 20000 in
theorem gX10_fits_127 (F0 : am_F) (k : Nat → List am_V → List am_V → am_M → am_R) (x0 : Int32) (x1 : Int32) (y0 : Int32) (M : am_M) : gX10_fits F0 k 127 [.inl (.int x0), .inl (.int x1)] [.inl (.int y0)] M =
  Option.map (fun o => (o, M)) (am_fin 2 .ireturn [.inl (.int x0), .inl (.int x1)] [.inl (.int y0)]) := (rfl)
theorem eX10_fits_127 {n : Nat} {x0 : Int32} {x1 : Int32} {y0 : Int32} {M : am_M} {res : am_O × am_M} (h : (Option.map (fun o => (o, M)) (am_fin 2 .ireturn [.inl (.int x0), .inl (.int x1)] [.inl (.int y0)])) = some res) : rX10_fits (n + 100) 127 [.inl (.int x0), .inl (.int x1)] [.inl (.int y0)] M = some res := uX10_fits ((gX10_fits_127 fX10_within (rX10_fits n) x0 x1 y0 M).trans h)
set_option maxRecDepth 20000 in
theorem gX10_fits_135 (F0 : am_F) (k : Nat → List am_V → List am_V → am_M → am_R) (x0 : Int32) (x1 : Int32) (y0 : Int32) (M : am_M) : gX10_fits F0 k 135 [.inl (.int x0), .inl (.int x1)] [.inl (.int y0)] M =
  Option.map (fun o => (o, M)) (am_fin 2 .ireturn [.inl (.int x0), .inl (.int x1)] [.inl (.int y0)]) := (rfl)
theorem eX10_fits_135 {n : Nat} {x0 : Int32} {x1 : Int32} {y0 : Int32} {M : am_M} {res : am_O × am_M} (h : (Option.map (fun o => (o, M)) (am_fin 2 .ireturn [.inl (.int x0), .inl (.int x1)] [.inl (.int y0)])) = some res) : rX10_fits (n + 100) 135 [.inl (.int x0), .inl (.int x1)] [.inl (.int y0)] M = some res := uX10_fits ((gX10_fits_135 fX10_within (rX10_fits n) x0 x1 y0 M).trans h)
def rX10_define (n pc : Nat) (ls st : List am_V) (M : am_M) : am_R := am_run [fX10_isTest, fX10_within, fX10_fits, fX10_pending] [] 0 am_X0 pX10_define n pc ls st M
def gX10_define (F0 F1 F2 F3 : am_F) (k : Nat → List am_V → List am_V → am_M → am_R) (pc : Nat) (ls st : List am_V) (M : am_M) : am_R := am_go [F0, F1, F2, F3] [] 0 am_X0 pX10_define [5, 15, 23, 35] k 100 pc ls st M
theorem uX10_define {n pc : Nat} {ls st : List am_V} {M : am_M} {res : am_O × am_M} (h : gX10_define fX10_isTest fX10_within fX10_fits fX10_pending (rX10_define n) pc ls st M = some res) : rX10_define (n + 100) pc ls st M = some res := am_go_ok h
theorem eX10_define (x1 : Int32) (x2 : Int32) (x3 : Int32) (M : am_M) : fX10_define [.inr (10, 0), .inl (.int x1), .inl (.int x2), .inl (.int x3)] M = rX10_define 100000 0 [.inr (10, 0), .inl (.int x1), .inl (.int x2), .inl (.int x3)] [] M := am_meth_eq rfl rfl
set_option maxRecDepth 20000 in
theorem gX10_define_0 (F0 F1 F2 F3 : am_F) (k : Nat → List am_V → List am_V → am_M → am_R) (x1 : Int32) (x2 : Int32) (x3 : Int32) (M : am_M) : gX10_define F0 F1 F2 F3 k 0 [.inr (10, 0), .inl (.int x1), .inl (.int x2), .inl (.int x3)] [] M =
  am_ret [] 2 [.inr (10, 0)] (k 5 [.inr (10, 0), .inl (.int x1), .inl (.int x2), .inl (.int x3)]) (F0 [.inl (.int x1)] M) := (rfl)
theorem eX10_define_0 {n : Nat} {x1 : Int32} {x2 : Int32} {x3 : Int32} {M : am_M} {res : am_O × am_M} (h : (am_ret [] 2 [.inr (10, 0)] (rX10_define n 5 [.inr (10, 0), .inl (.int x1), .inl (.int x2), .inl (.int x3)]) (fX10_isTest [.inl (.int x1)] M)) = some res) : rX10_define (n + 100) 0 [.inr (10, 0), .inl (.int x1), .inl (.int x2), .inl (.int x3)] [] M = some res := uX10_define ((gX10_define_0 fX10_isTest fX10_within fX10_fits fX10_pending (rX10_define n) x1 x2 x3 M).trans h)
set_option maxRecDepth 20000 in
theorem gX10_define_5 (F0 F1 F2 F3 : am_F) (k : Nat → List am_V → List am_V → am_M → am_R) (x1 : Int32) (x2 : Int32) (x3 : Int32) (y0 : Int32) (M : am_M) : gX10_define F0 F1 F2 F3 k 5 [.inr (10, 0), .inl (.int x1), .inl (.int x2), .inl (.int x3)] [.inl (.int y0), .inr (10, 0)] M =
  if y0 = 0 then
   some (.inl none, (am_put M 10 0 45 1))
  else am_ret [] 12 [.inr (10, 0)] (k 15 [.inr (10, 0), .inl (.int x1), .inl (.int x2), .inl (.int x3)]) (F1 [.inl (.int x2), .inl (.int 0), .inl (.int 15)] M) := (rfl)
theorem eX10_define_5 {n : Nat} {x1 : Int32} {x2 : Int32} {x3 : Int32} {y0 : Int32} {M : am_M} {res : am_O × am_M} (h : (if y0 = 0 then
   some (.inl none, (am_put M 10 0 45 1))
  else am_ret [] 12 [.inr (10, 0)] (rX10_define n 15 [.inr (10, 0), .inl (.int x1), .inl (.int x2), .inl (.int x3)]) (fX10_within [.inl (.int x2), .inl (.int 0), .inl (.int 15)] M)) = some res) : rX10_define (n + 100) 5 [.inr (10, 0), .inl (.int x1), .inl (.int x2), .inl (.int x3)] [.inl (.int y0), .inr (10, 0)] M = some res := uX10_define ((gX10_define_5 fX10_isTest fX10_within fX10_fits fX10_pending (rX10_define n) x1 x2 x3 y0 M).trans h)
set_option maxRecDepth 20000 in
theorem gX10_define_15 (F0 F1 F2 F3 : am_F) (k : Nat → List am_V → List am_V → am_M → am_R) (x1 : Int32) (x2 : Int32) (x3 : Int32) (y0 : Int32) (M : am_M) : gX10_define F0 F1 F2 F3 k 15 [.inr (10, 0), .inl (.int x1), .inl (.int x2), .inl (.int x3)] [.inl (.int y0), .inr (10, 0)] M =
  if y0 = 0 then
   some (.inl none, (am_put M 10 0 45 1))
  else am_ret [] 20 [.inr (10, 0)] (k 23 [.inr (10, 0), .inl (.int x1), .inl (.int x2), .inl (.int x3)]) (F2 [.inl (.int x2), .inl (.int x3)] M) := (rfl)
theorem eX10_define_15 {n : Nat} {x1 : Int32} {x2 : Int32} {x3 : Int32} {y0 : Int32} {M : am_M} {res : am_O × am_M} (h : (if y0 = 0 then
   some (.inl none, (am_put M 10 0 45 1))
  else am_ret [] 20 [.inr (10, 0)] (rX10_define n 23 [.inr (10, 0), .inl (.int x1), .inl (.int x2), .inl (.int x3)]) (fX10_fits [.inl (.int x2), .inl (.int x3)] M)) = some res) : rX10_define (n + 100) 15 [.inr (10, 0), .inl (.int x1), .inl (.int x2), .inl (.int x3)] [.inl (.int y0), .inr (10, 0)] M = some res := uX10_define ((gX10_define_15 fX10_isTest fX10_within fX10_fits fX10_pending (rX10_define n) x1 x2 x3 y0 M).trans h)
set_option maxRecDepth 20000 in
theorem gX10_define_23 (F0 F1 F2 F3 : am_F) (k : Nat → List am_V → List am_V → am_M → am_R) (x1 : Int32) (x2 : Int32) (x3 : Int32) (y0 : Int32) (M : am_M) : gX10_define F0 F1 F2 F3 k 23 [.inr (10, 0), .inl (.int x1), .inl (.int x2), .inl (.int x3)] [.inl (.int y0), .inr (10, 0)] M =
  if y0 = 0 then
   some (.inl none, (am_put M 10 0 45 1))
  else am_ret [] 32 [.inr (10, 0)] (k 35 [.inr (10, 0), .inl (.int x1), .inl (.int x2), .inl (.int x3)]) (F3 [.inr (10, 0), .inl (.int x1)] M) := (rfl)
theorem eX10_define_23 {n : Nat} {x1 : Int32} {x2 : Int32} {x3 : Int32} {y0 : Int32} {M : am_M} {res : am_O × am_M} (h : (if y0 = 0 then
   some (.inl none, (am_put M 10 0 45 1))
  else am_ret [] 32 [.inr (10, 0)] (rX10_define n 35 [.inr (10, 0), .inl (.int x1), .inl (.int x2), .inl (.int x3)]) (fX10_pending [.inr (10, 0), .inl (.int x1)] M)) = some res) : rX10_define (n + 100) 23 [.inr (10, 0), .inl (.int x1), .inl (.int x2), .inl (.int x3)] [.inl (.int y0), .inr (10, 0)] M = some res := uX10_define ((gX10_define_23 fX10_isTest fX10_within fX10_fits fX10_pending (rX10_define n) x1 x2 x3 y0 M).trans h)
set_option maxRecDepth 20000 in
theorem gX10_define_35 (F0 F1 F2 F3 : am_F) (k : Nat → List am_V → List am_V → am_M → am_R) (x1 : Int32) (x2 : Int32) (x3 : Int32) (y0 : Int32) (M : am_M) : gX10_define F0 F1 F2 F3 k 35 [.inr (10, 0), .inl (.int x1), .inl (.int x2), .inl (.int x3)] [.inl (.int y0), .inr (10, 0)] M =
  if y0 = 0 then
   if am_in ((16 * x1) + x2) 64 then
    if am_in x1 4 ∧ am_b 0 = 0 then
     some (.inl none, (am_put (am_put (am_put M 10 0 45 0) 30 0 (Int32.toNatClampNeg ((16 * x1) + x2)) x3) 31 0 (Int32.toNatClampNeg x1) 0))
    else none
   else none
  else some (.inl none, (am_put M 10 0 45 2)) := (rfl)
theorem eX10_define_35 {n : Nat} {x1 : Int32} {x2 : Int32} {x3 : Int32} {y0 : Int32} {M : am_M} {res : am_O × am_M} (h : (if y0 = 0 then
   if am_in ((16 * x1) + x2) 64 then
    if am_in x1 4 ∧ am_b 0 = 0 then
     some (.inl none, (am_put (am_put (am_put M 10 0 45 0) 30 0 (Int32.toNatClampNeg ((16 * x1) + x2)) x3) 31 0 (Int32.toNatClampNeg x1) 0))
    else none
   else none
  else some (.inl none, (am_put M 10 0 45 2))) = some res) : rX10_define (n + 100) 35 [.inr (10, 0), .inl (.int x1), .inl (.int x2), .inl (.int x3)] [.inl (.int y0), .inr (10, 0)] M = some res := uX10_define ((gX10_define_35 fX10_isTest fX10_within fX10_fits fX10_pending (rX10_define n) x1 x2 x3 y0 M).trans h)
def rX10_curve (n pc : Nat) (ls st : List am_V) (M : am_M) : am_R := am_run [fX10_isTest, fX10_within, fX10_pending] [] 1 am_X0 pX10_curve n pc ls st M
def gX10_curve (F0 F1 F2 : am_F) (k : Nat → List am_V → List am_V → am_M → am_R) (pc : Nat) (ls st : List am_V) (M : am_M) : am_R := am_go [F0, F1, F2] [] 1 am_X0 pX10_curve [4, 15, 26, 51, 99, 148] k 100 pc ls st M
theorem uX10_curve {n pc : Nat} {ls st : List am_V} {M : am_M} {res : am_O × am_M} (h : gX10_curve fX10_isTest fX10_within fX10_pending (rX10_curve n) pc ls st M = some res) : rX10_curve (n + 100) pc ls st M = some res := am_go_ok h
theorem eX10_curve (x1 : Int32) (x2 : Int32) (x3 : Int32) (M : am_M) : fX10_curve [.inr (10, 0), .inl (.int x1), .inl (.int x2), .inl (.int x3)] M = rX10_curve 100000 0 [.inr (10, 0), .inl (.int x1), .inl (.int x2), .inl (.int x3), am_D] [] M := am_meth_eq rfl rfl
set_option maxRecDepth 20000 in
theorem gX10_curve_0 (F0 F1 F2 : am_F) (k : Nat → List am_V → List am_V → am_M → am_R) (x1 : Int32) (x2 : Int32) (x3 : Int32) (M : am_M) : gX10_curve F0 F1 F2 k 0 [.inr (10, 0), .inl (.int x1), .inl (.int x2), .inl (.int x3), am_D] [] M =
  am_ret [] 1 [] (k 4 [.inr (10, 0), .inl (.int x1), .inl (.int x2), .inl (.int x3), am_D]) (F0 [.inl (.int x1)] M) := (rfl)
theorem eX10_curve_0 {n : Nat} {x1 : Int32} {x2 : Int32} {x3 : Int32} {M : am_M} {res : am_O × am_M} (h : (am_ret [] 1 [] (rX10_curve n 4 [.inr (10, 0), .inl (.int x1), .inl (.int x2), .inl (.int x3), am_D]) (fX10_isTest [.inl (.int x1)] M)) = some res) : rX10_curve (n + 100) 0 [.inr (10, 0), .inl (.int x1), .inl (.int x2), .inl (.int x3), am_D] [] M = some res := uX10_curve ((gX10_curve_0 fX10_isTest fX10_within fX10_pending (rX10_curve n) x1 x2 x3 M).trans h)
set_option maxRecDepth 20000 in
theorem gX10_curve_4 (F0 F1 F2 : am_F) (k : Nat → List am_V → List am_V → am_M → am_R) (x1 : Int32) (x2 : Int32) (x3 : Int32) (y0 : Int32) (M : am_M) : gX10_curve F0 F1 F2 k 4 [.inr (10, 0), .inl (.int x1), .inl (.int x2), .inl (.int x3), am_D] [.inl (.int y0)] M =
  if y0 = 0 then
   k 99 [.inr (10, 0), .inl (.int x1), .inl (.int x2), .inl (.int x3), .inl (.int 0)] [.inl (.int 1), .inr (10, 0)] M
  else am_ret [] 12 [] (k 15 [.inr (10, 0), .inl (.int x1), .inl (.int x2), .inl (.int x3), am_D]) (F1 [.inl (.int x2), .inl (.int (-1000000)), .inl (.int 1000000)] M) := (rfl)
theorem eX10_curve_4 {n : Nat} {x1 : Int32} {x2 : Int32} {x3 : Int32} {y0 : Int32} {M : am_M} {res : am_O × am_M} (h : (if y0 = 0 then
   rX10_curve n 99 [.inr (10, 0), .inl (.int x1), .inl (.int x2), .inl (.int x3), .inl (.int 0)] [.inl (.int 1), .inr (10, 0)] M
  else am_ret [] 12 [] (rX10_curve n 15 [.inr (10, 0), .inl (.int x1), .inl (.int x2), .inl (.int x3), am_D]) (fX10_within [.inl (.int x2), .inl (.int (-1000000)), .inl (.int 1000000)] M)) = some res) : rX10_curve (n + 100) 4 [.inr (10, 0), .inl (.int x1), .inl (.int x2), .inl (.int x3), am_D] [.inl (.int y0)] M = some res := uX10_curve ((gX10_curve_4 fX10_isTest fX10_within fX10_pending (rX10_curve n) x1 x2 x3 y0 M).trans h)
set_option maxRecDepth 20000 in
theorem gX10_curve_99 (F0 F1 F2 : am_F) (k : Nat → List am_V → List am_V → am_M → am_R) (x1 : Int32) (x2 : Int32) (x3 : Int32) (x4 : Int32) (y0 : Int32) (M : am_M) : gX10_curve F0 F1 F2 k 99 [.inr (10, 0), .inl (.int x1), .inl (.int x2), .inl (.int x3), .inl (.int x4)] [.inl (.int y0), .inr (10, 0)] M =
  if y0 = 0 then
   if am_in x1 4 then
    if (M 34 0 (Int32.toNatClampNeg x1)) ≤ 0 then
     k 148 [.inr (10, 0), .inl (.int x1), .inl (.int x2), .inl (.int x3), .inl (.int x4)] [] (am_put M 10 0 45 y0)
    else if am_in x1 4 then
     if am_in (((5 * x1) + (M 34 0 (Int32.toNatClampNeg x1))) - 1) 20 then
      if (M 32 0 (Int32.toNatClampNeg (((5 * x1) + (M 34 0 (Int32.toNatClampNeg x1))) - 1))) ≤ x2 then
       k 148 [.inr (10, 0), .inl (.int x1), .inl (.int x2), .inl (.int x3), .inl (.int x4)] [] (am_put M 10 0 45 y0)
      else if am_in x1 4 then
       k 148 [.inr (10, 0), .inl (.int x1), .inl (.int x2), .inl (.int x3), .inl (.int x4)] [] (am_put (am_put M 10 0 45 y0) 34 0 (Int32.toNatClampNeg x1) 0)
      else none
     else none
    else none
   else none
  else some (.inl (some (.inl (.int 0))), (am_put M 10 0 45 y0)) := (rfl)
theorem eX10_curve_99 {n : Nat} {x1 : Int32} {x2 : Int32} {x3 : Int32} {x4 : Int32} {y0 : Int32} {M : am_M} {res : am_O × am_M} (h : (if y0 = 0 then
   if am_in x1 4 then
    if (M 34 0 (Int32.toNatClampNeg x1)) ≤ 0 then
     rX10_curve n 148 [.inr (10, 0), .inl (.int x1), .inl (.int x2), .inl (.int x3), .inl (.int x4)] [] (am_put M 10 0 45 y0)
    else if am_in x1 4 then
     if am_in (((5 * x1) + (M 34 0 (Int32.toNatClampNeg x1))) - 1) 20 then
      if (M 32 0 (Int32.toNatClampNeg (((5 * x1) + (M 34 0 (Int32.toNatClampNeg x1))) - 1))) ≤ x2 then
       rX10_curve n 148 [.inr (10, 0), .inl (.int x1), .inl (.int x2), .inl (.int x3), .inl (.int x4)] [] (am_put M 10 0 45 y0)
      else if am_in x1 4 then
       rX10_curve n 148 [.inr (10, 0), .inl (.int x1), .inl (.int x2), .inl (.int x3), .inl (.int x4)] [] (am_put (am_put M 10 0 45 y0) 34 0 (Int32.toNatClampNeg x1) 0)
      else none
     else none
    else none
   else none
  else some (.inl (some (.inl (.int 0))), (am_put M 10 0 45 y0))) = some res) : rX10_curve (n + 100) 99 [.inr (10, 0), .inl (.int x1), .inl (.int x2), .inl (.int x3), .inl (.int x4)] [.inl (.int y0), .inr (10, 0)] M = some res := uX10_curve ((gX10_curve_99 fX10_isTest fX10_within fX10_pending (rX10_curve n) x1 x2 x3 x4 y0 M).trans h)
set_option maxRecDepth 20000 in
theorem gX10_curve_15 (F0 F1 F2 : am_F) (k : Nat → List am_V → List am_V → am_M → am_R) (x1 : Int32) (x2 : Int32) (x3 : Int32) (y0 : Int32) (M : am_M) : gX10_curve F0 F1 F2 k 15 [.inr (10, 0), .inl (.int x1), .inl (.int x2), .inl (.int x3), am_D] [.inl (.int y0)] M =
  if y0 = 0 then
   k 99 [.inr (10, 0), .inl (.int x1), .inl (.int x2), .inl (.int x3), .inl (.int 0)] [.inl (.int 1), .inr (10, 0)] M
  else am_ret [] 23 [] (k 26 [.inr (10, 0), .inl (.int x1), .inl (.int x2), .inl (.int x3), am_D]) (F1 [.inl (.int x3), .inl (.int (-1000000)), .inl (.int 1000000)] M) := (rfl)
theorem eX10_curve_15 {n : Nat} {x1 : Int32} {x2 : Int32} {x3 : Int32} {y0 : Int32} {M : am_M} {res : am_O × am_M} (h : (if y0 = 0 then
   rX10_curve n 99 [.inr (10, 0), .inl (.int x1), .inl (.int x2), .inl (.int x3), .inl (.int 0)] [.inl (.int 1), .inr (10, 0)] M
  else am_ret [] 23 [] (rX10_curve n 26 [.inr (10, 0), .inl (.int x1), .inl (.int x2), .inl (.int x3), am_D]) (fX10_within [.inl (.int x3), .inl (.int (-1000000)), .inl (.int 1000000)] M)) = some res) : rX10_curve (n + 100) 15 [.inr (10, 0), .inl (.int x1), .inl (.int x2), .inl (.int x3), am_D] [.inl (.int y0)] M = some res := uX10_curve ((gX10_curve_15 fX10_isTest fX10_within fX10_pending (rX10_curve n) x1 x2 x3 y0 M).trans h)
set_option maxRecDepth 20000 in
theorem gX10_curve_148 (F0 F1 F2 : am_F) (k : Nat → List am_V → List am_V → am_M → am_R) (x1 : Int32) (x2 : Int32) (x3 : Int32) (x4 : Int32) (M : am_M) : gX10_curve F0 F1 F2 k 148 [.inr (10, 0), .inl (.int x1), .inl (.int x2), .inl (.int x3), .inl (.int x4)] [] M =
  if am_in x1 4 then
   if am_in ((5 * x1) + (M 34 0 (Int32.toNatClampNeg x1))) 20 then
    if am_in x1 4 then
     if am_in ((5 * x1) + (M 34 0 (Int32.toNatClampNeg x1))) 20 then
      if am_in x1 4 then
       if am_in x1 4 then
        if am_in x1 4 ∧ am_b 0 = 0 then
         if am_in x1 4 then
          some (.inl (some (.inl (.int ((am_put (am_put (am_put M 32 0 (Int32.toNatClampNeg ((5 * x1) + (M 34 0 (Int32.toNatClampNeg x1)))) x2) 33 0 (Int32.toNatClampNeg ((5 * x1) + (M 34 0 (Int32.toNatClampNeg x1)))) x3) 34 0 (Int32.toNatClampNeg x1) ((M 34 0 (Int32.toNatClampNeg x1)) + 1)) 34 0 (Int32.toNatClampNeg x1))))), (am_put (am_put (am_put (am_put M 32 0 (Int32.toNatClampNeg ((5 * x1) + (M 34 0 (Int32.toNatClampNeg x1)))) x2) 33 0 (Int32.toNatClampNeg ((5 * x1) + (M 34 0 (Int32.toNatClampNeg x1)))) x3) 34 0 (Int32.toNatClampNeg x1) ((M 34 0 (Int32.toNatClampNeg x1)) + 1)) 31 0 (Int32.toNatClampNeg x1) 0))
         else none
        else none
       else none
      else none
     else none
    else none
   else none
  else none := (rfl)
theorem eX10_curve_148 {n : Nat} {x1 : Int32} {x2 : Int32} {x3 : Int32} {x4 : Int32} {M : am_M} {res : am_O × am_M} (h : (if am_in x1 4 then
   if am_in ((5 * x1) + (M 34 0 (Int32.toNatClampNeg x1))) 20 then
    if am_in x1 4 then
     if am_in ((5 * x1) + (M 34 0 (Int32.toNatClampNeg x1))) 20 then
      if am_in x1 4 then
       if am_in x1 4 then
        if am_in x1 4 ∧ am_b 0 = 0 then
         if am_in x1 4 then
          some (.inl (some (.inl (.int ((am_put (am_put (am_put M 32 0 (Int32.toNatClampNeg ((5 * x1) + (M 34 0 (Int32.toNatClampNeg x1)))) x2) 33 0 (Int32.toNatClampNeg ((5 * x1) + (M 34 0 (Int32.toNatClampNeg x1)))) x3) 34 0 (Int32.toNatClampNeg x1) ((M 34 0 (Int32.toNatClampNeg x1)) + 1)) 34 0 (Int32.toNatClampNeg x1))))), (am_put (am_put (am_put (am_put M 32 0 (Int32.toNatClampNeg ((5 * x1) + (M 34 0 (Int32.toNatClampNeg x1)))) x2) 33 0 (Int32.toNatClampNeg ((5 * x1) + (M 34 0 (Int32.toNatClampNeg x1)))) x3) 34 0 (Int32.toNatClampNeg x1) ((M 34 0 (Int32.toNatClampNeg x1)) + 1)) 31 0 (Int32.toNatClampNeg x1) 0))
         else none
        else none
       else none
      else none
     else none
    else none
   else none
  else none) = some res) : rX10_curve (n + 100) 148 [.inr (10, 0), .inl (.int x1), .inl (.int x2), .inl (.int x3), .inl (.int x4)] [] M = some res := uX10_curve ((gX10_curve_148 fX10_isTest fX10_within fX10_pending (rX10_curve n) x1 x2 x3 x4 M).trans h)
set_option maxRecDepth 20000 in
theorem gX10_curve_26 (F0 F1 F2 : am_F) (k : Nat → List am_V → List am_V → am_M → am_R) (x1 : Int32) (x2 : Int32) (x3 : Int32) (y0 : Int32) (M : am_M) : gX10_curve F0 F1 F2 k 26 [.inr (10, 0), .inl (.int x1), .inl (.int x2), .inl (.int x3), am_D] [.inl (.int y0)] M =
  if y0 = 0 then
   k 99 [.inr (10, 0), .inl (.int x1), .inl (.int x2), .inl (.int x3), .inl (.int 0)] [.inl (.int 1), .inr (10, 0)] M
  else am_ret [] 48 [.inr (10, 0)] (k 51 [.inr (10, 0), .inl (.int x1), .inl (.int x2), .inl (.int x3), .inl (.int 1)]) (F2 [.inr (10, 0), .inl (.int x1)] M) := (rfl)
theorem eX10_curve_26 {n : Nat} {x1 : Int32} {x2 : Int32} {x3 : Int32} {y0 : Int32} {M : am_M} {res : am_O × am_M} (h : (if y0 = 0 then
   rX10_curve n 99 [.inr (10, 0), .inl (.int x1), .inl (.int x2), .inl (.int x3), .inl (.int 0)] [.inl (.int 1), .inr (10, 0)] M
  else am_ret [] 48 [.inr (10, 0)] (rX10_curve n 51 [.inr (10, 0), .inl (.int x1), .inl (.int x2), .inl (.int x3), .inl (.int 1)]) (fX10_pending [.inr (10, 0), .inl (.int x1)] M)) = some res) : rX10_curve (n + 100) 26 [.inr (10, 0), .inl (.int x1), .inl (.int x2), .inl (.int x3), am_D] [.inl (.int y0)] M = some res := uX10_curve ((gX10_curve_26 fX10_isTest fX10_within fX10_pending (rX10_curve n) x1 x2 x3 y0 M).trans h)
set_option maxRecDepth 20000 in
theorem gX10_curve_51 (F0 F1 F2 : am_F) (k : Nat → List am_V → List am_V → am_M → am_R) (x1 : Int32) (x2 : Int32) (x3 : Int32) (x4 : Int32) (y0 : Int32) (M : am_M) : gX10_curve F0 F1 F2 k 51 [.inr (10, 0), .inl (.int x1), .inl (.int x2), .inl (.int x3), .inl (.int x4)] [.inl (.int y0), .inr (10, 0)] M =
  if y0 = 0 then
   if am_in x1 4 then
    if (M 34 0 (Int32.toNatClampNeg x1)) = 5 then
     k 99 [.inr (10, 0), .inl (.int x1), .inl (.int x2), .inl (.int x3), .inl (.int x4)] [.inl (.int 2), .inr (10, 0)] M
    else if am_in x1 4 then
     if (M 34 0 (Int32.toNatClampNeg x1)) ≤ 0 then
      k 99 [.inr (10, 0), .inl (.int x1), .inl (.int x2), .inl (.int x3), .inl (.int x4)] [.inl (.int 0), .inr (10, 0)] M
     else if am_in x1 4 then
      if am_in (((5 * x1) + (M 34 0 (Int32.toNatClampNeg x1))) - 1) 20 then
       if (M 32 0 (Int32.toNatClampNeg (((5 * x1) + (M 34 0 (Int32.toNatClampNeg x1))) - 1))) = x2 then
        k 99 [.inr (10, 0), .inl (.int x1), .inl (.int x2), .inl (.int x3), .inl (.int x4)] [.inl (.int 2), .inr (10, 0)] M
       else k 99 [.inr (10, 0), .inl (.int x1), .inl (.int x2), .inl (.int x3), .inl (.int x4)] [.inl (.int 0), .inr (10, 0)] M
      else none
     else none
    else none
   else none
  else k 99 [.inr (10, 0), .inl (.int x1), .inl (.int x2), .inl (.int x3), .inl (.int x4)] [.inl (.int 2), .inr (10, 0)] M := (rfl)
theorem eX10_curve_51 {n : Nat} {x1 : Int32} {x2 : Int32} {x3 : Int32} {x4 : Int32} {y0 : Int32} {M : am_M} {res : am_O × am_M} (h : (if y0 = 0 then
   if am_in x1 4 then
    if (M 34 0 (Int32.toNatClampNeg x1)) = 5 then
     rX10_curve n 99 [.inr (10, 0), .inl (.int x1), .inl (.int x2), .inl (.int x3), .inl (.int x4)] [.inl (.int 2), .inr (10, 0)] M
    else if am_in x1 4 then
     if (M 34 0 (Int32.toNatClampNeg x1)) ≤ 0 then
      rX10_curve n 99 [.inr (10, 0), .inl (.int x1), .inl (.int x2), .inl (.int x3), .inl (.int x4)] [.inl (.int 0), .inr (10, 0)] M
     else if am_in x1 4 then
      if am_in (((5 * x1) + (M 34 0 (Int32.toNatClampNeg x1))) - 1) 20 then
       if (M 32 0 (Int32.toNatClampNeg (((5 * x1) + (M 34 0 (Int32.toNatClampNeg x1))) - 1))) = x2 then
        rX10_curve n 99 [.inr (10, 0), .inl (.int x1), .inl (.int x2), .inl (.int x3), .inl (.int x4)] [.inl (.int 2), .inr (10, 0)] M
       else rX10_curve n 99 [.inr (10, 0), .inl (.int x1), .inl (.int x2), .inl (.int x3), .inl (.int x4)] [.inl (.int 0), .inr (10, 0)] M
      else none
     else none
    else none
   else none
  else rX10_curve n 99 [.inr (10, 0), .inl (.int x1), .inl (.int x2), .inl (.int x3), .inl (.int x4)] [.inl (.int 2), .inr (10, 0)] M) = some res) : rX10_curve (n + 100) 51 [.inr (10, 0), .inl (.int x1), .inl (.int x2), .inl (.int x3), .inl (.int x4)] [.inl (.int y0), .inr (10, 0)] M = some res := uX10_curve ((gX10_curve_51 fX10_isTest fX10_within fX10_pending (rX10_curve n) x1 x2 x3 x4 y0 M).trans h)
def rX10_reagentGood (n pc : Nat) (ls st : List am_V) (M : am_M) : am_R := am_run [fX10_of] [] 2 am_X0 pX10_reagentGood n pc ls st M
def gX10_reagentGood (F0 : am_F) (k : Nat → List am_V → List am_V → am_M → am_R) (pc : Nat) (ls st : List am_V) (M : am_M) : am_R := am_go [F0] [] 2 am_X0 pX10_reagentGood [10, 25, 39, 53, 60] k 100 pc ls st M
theorem uX10_reagentGood {n pc : Nat} {ls st : List am_V} {M : am_M} {res : am_O × am_M} (h : gX10_reagentGood fX10_of (rX10_reagentGood n) pc ls st M = some res) : rX10_reagentGood (n + 100) pc ls st M = some res := am_go_ok h
theorem eX10_reagentGood (x1 : Int32) (x2 : Int32) (M : am_M) : fX10_reagentGood [.inr (10, 0), .inl (.int x1), .inl (.int x2)] M = rX10_reagentGood 100000 0 [.inr (10, 0), .inl (.int x1), .inl (.int x2)] [] M := am_meth_eq rfl rfl
set_option maxRecDepth 20000 in
theorem gX10_reagentGood_0 (F0 : am_F) (k : Nat → List am_V → List am_V → am_M → am_R) (x1 : Int32) (x2 : Int32) (M : am_M) : gX10_reagentGood F0 k 0 [.inr (10, 0), .inl (.int x1), .inl (.int x2)] [] M =
  am_ret [] 7 [] (k 10 [.inr (10, 0), .inl (.int x1), .inl (.int x2)]) (F0 [.inr (10, 0), .inl (.int x1), .inl (.int ((3 * x2) + 1))] M) := (rfl)
theorem eX10_reagentGood_0 {n : Nat} {x1 : Int32} {x2 : Int32} {M : am_M} {res : am_O × am_M} (h : (am_ret [] 7 [] (rX10_reagentGood n 10 [.inr (10, 0), .inl (.int x1), .inl (.int x2)]) (fX10_of [.inr (10, 0), .inl (.int x1), .inl (.int ((3 * x2) + 1))] M)) = some res) : rX10_reagentGood (n + 100) 0 [.inr (10, 0), .inl (.int x1), .inl (.int x2)] [] M = some res := uX10_reagentGood ((gX10_reagentGood_0 fX10_of (rX10_reagentGood n) x1 x2 M).trans h)
set_option maxRecDepth 20000 in
theorem gX10_reagentGood_10 (F0 : am_F) (k : Nat → List am_V → List am_V → am_M → am_R) (x1 : Int32) (x2 : Int32) (y0 : Int32) (M : am_M) : gX10_reagentGood F0 k 10 [.inr (10, 0), .inl (.int x1), .inl (.int x2)] [.inl (.int y0)] M =
  if 0 ≤ y0 then
   am_ret [] 22 [] (k 25 [.inr (10, 0), .inl (.int x1), .inl (.int x2)]) (F0 [.inr (10, 0), .inl (.int x1), .inl (.int ((3 * x2) + 2))] M)
  else some (.inl (some (.inl (.int 1))), M) := (rfl)
theorem eX10_reagentGood_10 {n : Nat} {x1 : Int32} {x2 : Int32} {y0 : Int32} {M : am_M} {res : am_O × am_M} (h : (if 0 ≤ y0 then
   am_ret [] 22 [] (rX10_reagentGood n 25 [.inr (10, 0), .inl (.int x1), .inl (.int x2)]) (fX10_of [.inr (10, 0), .inl (.int x1), .inl (.int ((3 * x2) + 2))] M)
  else some (.inl (some (.inl (.int 1))), M)) = some res) : rX10_reagentGood (n + 100) 10 [.inr (10, 0), .inl (.int x1), .inl (.int x2)] [.inl (.int y0)] M = some res := uX10_reagentGood ((gX10_reagentGood_10 fX10_of (rX10_reagentGood n) x1 x2 y0 M).trans h)
set_option maxRecDepth 20000 in
theorem gX10_reagentGood_25 (F0 : am_F) (k : Nat → List am_V → List am_V → am_M → am_R) (x1 : Int32) (x2 : Int32) (y0 : Int32) (M : am_M) : gX10_reagentGood F0 k 25 [.inr (10, 0), .inl (.int x1), .inl (.int x2)] [.inl (.int y0)] M =
  if y0 < 1 then
   some (.inl (some (.inl (.int 0))), M)
  else am_ret [] 36 [] (k 39 [.inr (10, 0), .inl (.int x1), .inl (.int x2)]) (F0 [.inr (10, 0), .inl (.int x1), .inl (.int ((3 * x2) + 3))] M) := (rfl)
theorem eX10_reagentGood_25 {n : Nat} {x1 : Int32} {x2 : Int32} {y0 : Int32} {M : am_M} {res : am_O × am_M} (h : (if y0 < 1 then
   some (.inl (some (.inl (.int 0))), M)
  else am_ret [] 36 [] (rX10_reagentGood n 39 [.inr (10, 0), .inl (.int x1), .inl (.int x2)]) (fX10_of [.inr (10, 0), .inl (.int x1), .inl (.int ((3 * x2) + 3))] M)) = some res) : rX10_reagentGood (n + 100) 25 [.inr (10, 0), .inl (.int x1), .inl (.int x2)] [.inl (.int y0)] M = some res := uX10_reagentGood ((gX10_reagentGood_25 fX10_of (rX10_reagentGood n) x1 x2 y0 M).trans h)
set_option maxRecDepth 20000 in
theorem gX10_reagentGood_39 (F0 : am_F) (k : Nat → List am_V → List am_V → am_M → am_R) (x1 : Int32) (x2 : Int32) (y0 : Int32) (M : am_M) : gX10_reagentGood F0 k 39 [.inr (10, 0), .inl (.int x1), .inl (.int x2)] [.inl (.int y0)] M =
  if y0 < 1 then
   some (.inl (some (.inl (.int 0))), M)
  else am_ret [] 50 [] (k 53 [.inr (10, 0), .inl (.int x1), .inl (.int x2)]) (F0 [.inr (10, 0), .inl (.int x1), .inl (.int ((3 * x2) + 3))] M) := (rfl)
theorem eX10_reagentGood_39 {n : Nat} {x1 : Int32} {x2 : Int32} {y0 : Int32} {M : am_M} {res : am_O × am_M} (h : (if y0 < 1 then
   some (.inl (some (.inl (.int 0))), M)
  else am_ret [] 50 [] (rX10_reagentGood n 53 [.inr (10, 0), .inl (.int x1), .inl (.int x2)]) (fX10_of [.inr (10, 0), .inl (.int x1), .inl (.int ((3 * x2) + 3))] M)) = some res) : rX10_reagentGood (n + 100) 39 [.inr (10, 0), .inl (.int x1), .inl (.int x2)] [.inl (.int y0)] M = some res := uX10_reagentGood ((gX10_reagentGood_39 fX10_of (rX10_reagentGood n) x1 x2 y0 M).trans h)
set_option maxRecDepth 20000 in
theorem gX10_reagentGood_53 (F0 : am_F) (k : Nat → List am_V → List am_V → am_M → am_R) (x1 : Int32) (x2 : Int32) (y0 : Int32) (M : am_M) : gX10_reagentGood F0 k 53 [.inr (10, 0), .inl (.int x1), .inl (.int x2)] [.inl (.int y0)] M =
  am_ret [] 57 [.inl (.int y0)] (k 60 [.inr (10, 0), .inl (.int x1), .inl (.int x2)]) (F0 [.inr (10, 0), .inl (.int x1), .inl (.int 7)] M) := (rfl)
theorem eX10_reagentGood_53 {n : Nat} {x1 : Int32} {x2 : Int32} {y0 : Int32} {M : am_M} {res : am_O × am_M} (h : (am_ret [] 57 [.inl (.int y0)] (rX10_reagentGood n 60 [.inr (10, 0), .inl (.int x1), .inl (.int x2)]) (fX10_of [.inr (10, 0), .inl (.int x1), .inl (.int 7)] M)) = some res) : rX10_reagentGood (n + 100) 53 [.inr (10, 0), .inl (.int x1), .inl (.int x2)] [.inl (.int y0)] M = some res := uX10_reagentGood ((gX10_reagentGood_53 fX10_of (rX10_reagentGood n) x1 x2 y0 M).trans h)
set_option maxRecDepth 20000 in
theorem gX10_reagentGood_60 (F0 : am_F) (k : Nat → List am_V → List am_V → am_M → am_R) (x1 : Int32) (x2 : Int32) (y0 : Int32) (y1 : Int32) (M : am_M) : gX10_reagentGood F0 k 60 [.inr (10, 0), .inl (.int x1), .inl (.int x2)] [.inl (.int y0), .inl (.int y1)] M =
  if y0 ≤ y1 then
   some (.inl (some (.inl (.int 0))), M)
  else some (.inl (some (.inl (.int 1))), M) := (rfl)
theorem eX10_reagentGood_60 {n : Nat} {x1 : Int32} {x2 : Int32} {y0 : Int32} {y1 : Int32} {M : am_M} {res : am_O × am_M} (h : (if y0 ≤ y1 then
   some (.inl (some (.inl (.int 0))), M)
  else some (.inl (some (.inl (.int 1))), M)) = some res) : rX10_reagentGood (n + 100) 60 [.inr (10, 0), .inl (.int x1), .inl (.int x2)] [.inl (.int y0), .inl (.int y1)] M = some res := uX10_reagentGood ((gX10_reagentGood_60 fX10_of (rX10_reagentGood n) x1 x2 y0 y1 M).trans h)
def rX10_curveGood (n pc : Nat) (ls st : List am_V) (M : am_M) : am_R := am_run [] [] 2 am_X0 pX10_curveGood n pc ls st M
def gX10_curveGood (k : Nat → List am_V → List am_V → am_M → am_R) (pc : Nat) (ls st : List am_V) (M : am_M) : am_R := am_go [] [] 2 am_X0 pX10_curveGood [39] k 100 pc ls st M
theorem uX10_curveGood {n pc : Nat} {ls st : List am_V} {M : am_M} {res : am_O × am_M} (h : gX10_curveGood (rX10_curveGood n) pc ls st M = some res) : rX10_curveGood (n + 100) pc ls st M = some res := am_go_ok h
theorem eX10_curveGood (x1 : Int32) (M : am_M) : fX10_curveGood [.inr (10, 0), .inl (.int x1)] M = rX10_curveGood 100000 0 [.inr (10, 0), .inl (.int x1), am_D, am_D, am_D] [] M := am_meth_eq rfl rfl
set_option maxRecDepth 20000 in
theorem gX10_curveGood_0 (k : Nat → List am_V → List am_V → am_M → am_R) (x1 : Int32) (M : am_M) : gX10_curveGood k 0 [.inr (10, 0), .inl (.int x1), am_D, am_D, am_D] [] M =
  if am_in x1 4 then
   if (M 34 0 (Int32.toNatClampNeg x1)) < 2 then
    if am_in x1 4 then
     if (M 34 0 (Int32.toNatClampNeg x1)) < 2 then
      k 39 [.inr (10, 0), .inl (.int x1), .inl (.int 0), .inl (.int 0), .inl (.int ((5 * x1) + 1))] [] M
     else k 39 [.inr (10, 0), .inl (.int x1), .inl (.int 0), .inl (.int 1), .inl (.int ((5 * x1) + 1))] [] M
    else none
   else if am_in x1 4 then
    if (M 34 0 (Int32.toNatClampNeg x1)) < 2 then
     k 39 [.inr (10, 0), .inl (.int x1), .inl (.int 1), .inl (.int 0), .inl (.int ((5 * x1) + 1))] [] M
    else k 39 [.inr (10, 0), .inl (.int x1), .inl (.int 1), .inl (.int 1), .inl (.int ((5 * x1) + 1))] [] M
   else none
  else none := (rfl)
theorem eX10_curveGood_0 {n : Nat} {x1 : Int32} {M : am_M} {res : am_O × am_M} (h : (if am_in x1 4 then
   if (M 34 0 (Int32.toNatClampNeg x1)) < 2 then
    if am_in x1 4 then
     if (M 34 0 (Int32.toNatClampNeg x1)) < 2 then
      rX10_curveGood n 39 [.inr (10, 0), .inl (.int x1), .inl (.int 0), .inl (.int 0), .inl (.int ((5 * x1) + 1))] [] M
     else rX10_curveGood n 39 [.inr (10, 0), .inl (.int x1), .inl (.int 0), .inl (.int 1), .inl (.int ((5 * x1) + 1))] [] M
    else none
   else if am_in x1 4 then
    if (M 34 0 (Int32.toNatClampNeg x1)) < 2 then
     rX10_curveGood n 39 [.inr (10, 0), .inl (.int x1), .inl (.int 1), .inl (.int 0), .inl (.int ((5 * x1) + 1))] [] M
    else rX10_curveGood n 39 [.inr (10, 0), .inl (.int x1), .inl (.int 1), .inl (.int 1), .inl (.int ((5 * x1) + 1))] [] M
   else none
  else none) = some res) : rX10_curveGood (n + 100) 0 [.inr (10, 0), .inl (.int x1), am_D, am_D, am_D] [] M = some res := uX10_curveGood ((gX10_curveGood_0 (rX10_curveGood n) x1 M).trans h)
set_option maxRecDepth 20000 in
theorem gX10_curveGood_39 (k : Nat → List am_V → List am_V → am_M → am_R) (x1 : Int32) (x2 : Int32) (x3 : Int32) (x4 : Int32) (M : am_M) : gX10_curveGood k 39 [.inr (10, 0), .inl (.int x1), .inl (.int x2), .inl (.int x3), .inl (.int x4)] [] M =
  if am_in x1 4 then
   if ((5 * x1) + (M 34 0 (Int32.toNatClampNeg x1))) ≤ x4 then
    if x2 = 0 then
     if x3 = 0 then
      some (.inl (some (.inl (.int 0))), M)
     else some (.inl (some (.inl (.int 1))), M)
    else some (.inl (some (.inl (.int 1))), M)
   else if am_in x4 20 then
    if am_in (x4 - 1) 20 then
     if (M 33 0 (Int32.toNatClampNeg (x4 - 1))) < (M 33 0 (Int32.toNatClampNeg x4)) then
      if am_in x4 20 then
       if am_in (x4 - 1) 20 then
        if (M 33 0 (Int32.toNatClampNeg x4)) < (M 33 0 (Int32.toNatClampNeg (x4 - 1))) then
         k 39 [.inr (10, 0), .inl (.int x1), .inl (.int x2), .inl (.int x3), .inl (.int (x4 + 1))] [] M
        else k 39 [.inr (10, 0), .inl (.int x1), .inl (.int x2), .inl (.int 0), .inl (.int (x4 + 1))] [] M
       else none
      else none
     else if am_in x4 20 then
      if am_in (x4 - 1) 20 then
       if (M 33 0 (Int32.toNatClampNeg x4)) < (M 33 0 (Int32.toNatClampNeg (x4 - 1))) then
        k 39 [.inr (10, 0), .inl (.int x1), .inl (.int 0), .inl (.int x3), .inl (.int (x4 + 1))] [] M
       else k 39 [.inr (10, 0), .inl (.int x1), .inl (.int 0), .inl (.int 0), .inl (.int (x4 + 1))] [] M
      else none
     else none
    else none
   else none
  else none := (rfl)
theorem eX10_curveGood_39 {n : Nat} {x1 : Int32} {x2 : Int32} {x3 : Int32} {x4 : Int32} {M : am_M} {res : am_O × am_M} (h : (if am_in x1 4 then
   if ((5 * x1) + (M 34 0 (Int32.toNatClampNeg x1))) ≤ x4 then
    if x2 = 0 then
     if x3 = 0 then
      some (.inl (some (.inl (.int 0))), M)
     else some (.inl (some (.inl (.int 1))), M)
    else some (.inl (some (.inl (.int 1))), M)
   else if am_in x4 20 then
    if am_in (x4 - 1) 20 then
     if (M 33 0 (Int32.toNatClampNeg (x4 - 1))) < (M 33 0 (Int32.toNatClampNeg x4)) then
      if am_in x4 20 then
       if am_in (x4 - 1) 20 then
        if (M 33 0 (Int32.toNatClampNeg x4)) < (M 33 0 (Int32.toNatClampNeg (x4 - 1))) then
         rX10_curveGood n 39 [.inr (10, 0), .inl (.int x1), .inl (.int x2), .inl (.int x3), .inl (.int (x4 + 1))] [] M
        else rX10_curveGood n 39 [.inr (10, 0), .inl (.int x1), .inl (.int x2), .inl (.int 0), .inl (.int (x4 + 1))] [] M
       else none
      else none
     else if am_in x4 20 then
      if am_in (x4 - 1) 20 then
       if (M 33 0 (Int32.toNatClampNeg x4)) < (M 33 0 (Int32.toNatClampNeg (x4 - 1))) then
        rX10_curveGood n 39 [.inr (10, 0), .inl (.int x1), .inl (.int 0), .inl (.int x3), .inl (.int (x4 + 1))] [] M
       else rX10_curveGood n 39 [.inr (10, 0), .inl (.int x1), .inl (.int 0), .inl (.int 0), .inl (.int (x4 + 1))] [] M
      else none
     else none
    else none
   else none
  else none) = some res) : rX10_curveGood (n + 100) 39 [.inr (10, 0), .inl (.int x1), .inl (.int x2), .inl (.int x3), .inl (.int x4)] [] M = some res := uX10_curveGood ((gX10_curveGood_39 (rX10_curveGood n) x1 x2 x3 x4 M).trans h)
def rX10_seal (n pc : Nat) (ls st : List am_V) (M : am_M) : am_R := am_run [fX10_isTest, fX10_of, fX10_reagentGood, fX10_curveGood] [] 2 am_X0 pX10_seal n pc ls st M
def gX10_seal (F0 F1 F2 F3 : am_F) (k : Nat → List am_V → List am_V → am_M → am_R) (pc : Nat) (ls st : List am_V) (M : am_M) : am_R := am_go [F0, F1, F2, F3] [] 2 am_X0 pX10_seal [5, 31, 41, 50, 58, 73, 82, 92, 98, 110, 117, 128, 150, 165, 172, 184, 194, 201] k 100 pc ls st M
theorem uX10_seal {n pc : Nat} {ls st : List am_V} {M : am_M} {res : am_O × am_M} (h : gX10_seal fX10_isTest fX10_of fX10_reagentGood fX10_curveGood (rX10_seal n) pc ls st M = some res) : rX10_seal (n + 100) pc ls st M = some res := am_go_ok h
theorem eX10_seal (x1 : Int32) (M : am_M) : fX10_seal [.inr (10, 0), .inl (.int x1)] M = rX10_seal 100000 0 [.inr (10, 0), .inl (.int x1), am_D, am_D] [] M := am_meth_eq rfl rfl
set_option maxRecDepth 20000 in
theorem gX10_seal_0 (F0 F1 F2 F3 : am_F) (k : Nat → List am_V → List am_V → am_M → am_R) (x1 : Int32) (M : am_M) : gX10_seal F0 F1 F2 F3 k 0 [.inr (10, 0), .inl (.int x1), am_D, am_D] [] M =
  am_ret [] 2 [.inr (10, 0)] (k 5 [.inr (10, 0), .inl (.int x1), am_D, am_D]) (F0 [.inl (.int x1)] M) := (rfl)
theorem eX10_seal_0 {n : Nat} {x1 : Int32} {M : am_M} {res : am_O × am_M} (h : (am_ret [] 2 [.inr (10, 0)] (rX10_seal n 5 [.inr (10, 0), .inl (.int x1), am_D, am_D]) (fX10_isTest [.inl (.int x1)] M)) = some res) : rX10_seal (n + 100) 0 [.inr (10, 0), .inl (.int x1), am_D, am_D] [] M = some res := uX10_seal ((gX10_seal_0 fX10_isTest fX10_of fX10_reagentGood fX10_curveGood (rX10_seal n) x1 M).trans h)
set_option maxRecDepth 20000 in
theorem gX10_seal_5 (F0 F1 F2 F3 : am_F) (k : Nat → List am_V → List am_V → am_M → am_R) (x1 : Int32) (y0 : Int32) (M : am_M) : gX10_seal F0 F1 F2 F3 k 5 [.inr (10, 0), .inl (.int x1), am_D, am_D] [.inl (.int y0), .inr (10, 0)] M =
  if y0 = 0 then
   some (.inl (some (.inl (.int 0))), (am_put M 10 0 45 1))
  else am_ret [] 28 [] (k 31 [.inr (10, 0), .inl (.int x1), am_D, am_D]) (F1 [.inr (10, 0), .inl (.int x1), .inl (.int 0)] (am_put M 10 0 45 0)) := (rfl)
theorem eX10_seal_5 {n : Nat} {x1 : Int32} {y0 : Int32} {M : am_M} {res : am_O × am_M} (h : (if y0 = 0 then
   some (.inl (some (.inl (.int 0))), (am_put M 10 0 45 1))
  else am_ret [] 28 [] (rX10_seal n 31 [.inr (10, 0), .inl (.int x1), am_D, am_D]) (fX10_of [.inr (10, 0), .inl (.int x1), .inl (.int 0)] (am_put M 10 0 45 0))) = some res) : rX10_seal (n + 100) 5 [.inr (10, 0), .inl (.int x1), am_D, am_D] [.inl (.int y0), .inr (10, 0)] M = some res := uX10_seal ((gX10_seal_5 fX10_isTest fX10_of fX10_reagentGood fX10_curveGood (rX10_seal n) x1 y0 M).trans h)
set_option maxRecDepth 20000 in
theorem gX10_seal_31 (F0 F1 F2 F3 : am_F) (k : Nat → List am_V → List am_V → am_M → am_R) (x1 : Int32) (y0 : Int32) (M : am_M) : gX10_seal F0 F1 F2 F3 k 31 [.inr (10, 0), .inl (.int x1), am_D, am_D] [.inl (.int y0)] M =
  if y0 < 1 then
   am_ret [] 70 [] (k 73 [.inr (10, 0), .inl (.int x1), .inl (.int 0), am_D]) (F1 [.inr (10, 0), .inl (.int x1), .inl (.int 4)] M)
  else am_ret [] 38 [] (k 41 [.inr (10, 0), .inl (.int x1), am_D, am_D]) (F2 [.inr (10, 0), .inl (.int x1), .inl (.int 0)] M) := (rfl)
theorem eX10_seal_31 {n : Nat} {x1 : Int32} {y0 : Int32} {M : am_M} {res : am_O × am_M} (h : (if y0 < 1 then
   am_ret [] 70 [] (rX10_seal n 73 [.inr (10, 0), .inl (.int x1), .inl (.int 0), am_D]) (fX10_of [.inr (10, 0), .inl (.int x1), .inl (.int 4)] M)
  else am_ret [] 38 [] (rX10_seal n 41 [.inr (10, 0), .inl (.int x1), am_D, am_D]) (fX10_reagentGood [.inr (10, 0), .inl (.int x1), .inl (.int 0)] M)) = some res) : rX10_seal (n + 100) 31 [.inr (10, 0), .inl (.int x1), am_D, am_D] [.inl (.int y0)] M = some res := uX10_seal ((gX10_seal_31 fX10_isTest fX10_of fX10_reagentGood fX10_curveGood (rX10_seal n) x1 y0 M).trans h)
set_option maxRecDepth 20000 in
theorem gX10_seal_73 (F0 F1 F2 F3 : am_F) (k : Nat → List am_V → List am_V → am_M → am_R) (x1 : Int32) (x2 : Int32) (y0 : Int32) (M : am_M) : gX10_seal F0 F1 F2 F3 k 73 [.inr (10, 0), .inl (.int x1), .inl (.int x2), am_D] [.inl (.int y0)] M =
  if y0 < 0 then
   am_ret [] 107 [] (k 110 [.inr (10, 0), .inl (.int x1), .inl (.int x2), am_D]) (F1 [.inr (10, 0), .inl (.int x1), .inl (.int 8)] M)
  else am_ret [] 79 [] (k 82 [.inr (10, 0), .inl (.int x1), .inl (.int x2), am_D]) (F1 [.inr (10, 0), .inl (.int x1), .inl (.int 1)] M) := (rfl)
theorem eX10_seal_73 {n : Nat} {x1 : Int32} {x2 : Int32} {y0 : Int32} {M : am_M} {res : am_O × am_M} (h : (if y0 < 0 then
   am_ret [] 107 [] (rX10_seal n 110 [.inr (10, 0), .inl (.int x1), .inl (.int x2), am_D]) (fX10_of [.inr (10, 0), .inl (.int x1), .inl (.int 8)] M)
  else am_ret [] 79 [] (rX10_seal n 82 [.inr (10, 0), .inl (.int x1), .inl (.int x2), am_D]) (fX10_of [.inr (10, 0), .inl (.int x1), .inl (.int 1)] M)) = some res) : rX10_seal (n + 100) 73 [.inr (10, 0), .inl (.int x1), .inl (.int x2), am_D] [.inl (.int y0)] M = some res := uX10_seal ((gX10_seal_73 fX10_isTest fX10_of fX10_reagentGood fX10_curveGood (rX10_seal n) x1 x2 y0 M).trans h)
set_option maxRecDepth 20000 in
theorem gX10_seal_41 (F0 F1 F2 F3 : am_F) (k : Nat → List am_V → List am_V → am_M → am_R) (x1 : Int32) (y0 : Int32) (M : am_M) : gX10_seal F0 F1 F2 F3 k 41 [.inr (10, 0), .inl (.int x1), am_D, am_D] [.inl (.int y0)] M =
  if y0 = 0 then
   am_ret [] 70 [] (k 73 [.inr (10, 0), .inl (.int x1), .inl (.int 0), am_D]) (F1 [.inr (10, 0), .inl (.int x1), .inl (.int 4)] M)
  else am_ret [] 47 [] (k 50 [.inr (10, 0), .inl (.int x1), am_D, am_D]) (F2 [.inr (10, 0), .inl (.int x1), .inl (.int 1)] M) := (rfl)
theorem eX10_seal_41 {n : Nat} {x1 : Int32} {y0 : Int32} {M : am_M} {res : am_O × am_M} (h : (if y0 = 0 then
   am_ret [] 70 [] (rX10_seal n 73 [.inr (10, 0), .inl (.int x1), .inl (.int 0), am_D]) (fX10_of [.inr (10, 0), .inl (.int x1), .inl (.int 4)] M)
  else am_ret [] 47 [] (rX10_seal n 50 [.inr (10, 0), .inl (.int x1), am_D, am_D]) (fX10_reagentGood [.inr (10, 0), .inl (.int x1), .inl (.int 1)] M)) = some res) : rX10_seal (n + 100) 41 [.inr (10, 0), .inl (.int x1), am_D, am_D] [.inl (.int y0)] M = some res := uX10_seal ((gX10_seal_41 fX10_isTest fX10_of fX10_reagentGood fX10_curveGood (rX10_seal n) x1 y0 M).trans h)
set_option maxRecDepth 20000 in
theorem gX10_seal_110 (F0 F1 F2 F3 : am_F) (k : Nat → List am_V → List am_V → am_M → am_R) (x1 : Int32) (x2 : Int32) (y0 : Int32) (M : am_M) : gX10_seal F0 F1 F2 F3 k 110 [.inr (10, 0), .inl (.int x1), .inl (.int x2), am_D] [.inl (.int y0)] M =
  am_ret [] 114 [.inl (.int y0)] (k 117 [.inr (10, 0), .inl (.int x1), .inl (.int x2), am_D]) (F1 [.inr (10, 0), .inl (.int x1), .inl (.int 7)] M) := (rfl)
theorem eX10_seal_110 {n : Nat} {x1 : Int32} {x2 : Int32} {y0 : Int32} {M : am_M} {res : am_O × am_M} (h : (am_ret [] 114 [.inl (.int y0)] (rX10_seal n 117 [.inr (10, 0), .inl (.int x1), .inl (.int x2), am_D]) (fX10_of [.inr (10, 0), .inl (.int x1), .inl (.int 7)] M)) = some res) : rX10_seal (n + 100) 110 [.inr (10, 0), .inl (.int x1), .inl (.int x2), am_D] [.inl (.int y0)] M = some res := uX10_seal ((gX10_seal_110 fX10_isTest fX10_of fX10_reagentGood fX10_curveGood (rX10_seal n) x1 x2 y0 M).trans h)
set_option maxRecDepth 20000 in
theorem gX10_seal_82 (F0 F1 F2 F3 : am_F) (k : Nat → List am_V → List am_V → am_M → am_R) (x1 : Int32) (x2 : Int32) (y0 : Int32) (M : am_M) : gX10_seal F0 F1 F2 F3 k 82 [.inr (10, 0), .inl (.int x1), .inl (.int x2), am_D] [.inl (.int y0)] M =
  if y0 < 0 then
   am_ret [] 107 [] (k 110 [.inr (10, 0), .inl (.int x1), .inl (.int 0), am_D]) (F1 [.inr (10, 0), .inl (.int x1), .inl (.int 8)] M)
  else am_ret [] 89 [] (k 92 [.inr (10, 0), .inl (.int x1), .inl (.int x2), am_D]) (F1 [.inr (10, 0), .inl (.int x1), .inl (.int 6)] M) := (rfl)
theorem eX10_seal_82 {n : Nat} {x1 : Int32} {x2 : Int32} {y0 : Int32} {M : am_M} {res : am_O × am_M} (h : (if y0 < 0 then
   am_ret [] 107 [] (rX10_seal n 110 [.inr (10, 0), .inl (.int x1), .inl (.int 0), am_D]) (fX10_of [.inr (10, 0), .inl (.int x1), .inl (.int 8)] M)
  else am_ret [] 89 [] (rX10_seal n 92 [.inr (10, 0), .inl (.int x1), .inl (.int x2), am_D]) (fX10_of [.inr (10, 0), .inl (.int x1), .inl (.int 6)] M)) = some res) : rX10_seal (n + 100) 82 [.inr (10, 0), .inl (.int x1), .inl (.int x2), am_D] [.inl (.int y0)] M = some res := uX10_seal ((gX10_seal_82 fX10_isTest fX10_of fX10_reagentGood fX10_curveGood (rX10_seal n) x1 x2 y0 M).trans h)
set_option maxRecDepth 20000 in
theorem gX10_seal_50 (F0 F1 F2 F3 : am_F) (k : Nat → List am_V → List am_V → am_M → am_R) (x1 : Int32) (y0 : Int32) (M : am_M) : gX10_seal F0 F1 F2 F3 k 50 [.inr (10, 0), .inl (.int x1), am_D, am_D] [.inl (.int y0)] M =
  if y0 = 0 then
   am_ret [] 70 [] (k 73 [.inr (10, 0), .inl (.int x1), .inl (.int 0), am_D]) (F1 [.inr (10, 0), .inl (.int x1), .inl (.int 4)] M)
  else am_ret [] 55 [] (k 58 [.inr (10, 0), .inl (.int x1), am_D, am_D]) (F3 [.inr (10, 0), .inl (.int x1)] M) := (rfl)
theorem eX10_seal_50 {n : Nat} {x1 : Int32} {y0 : Int32} {M : am_M} {res : am_O × am_M} (h : (if y0 = 0 then
   am_ret [] 70 [] (rX10_seal n 73 [.inr (10, 0), .inl (.int x1), .inl (.int 0), am_D]) (fX10_of [.inr (10, 0), .inl (.int x1), .inl (.int 4)] M)
  else am_ret [] 55 [] (rX10_seal n 58 [.inr (10, 0), .inl (.int x1), am_D, am_D]) (fX10_curveGood [.inr (10, 0), .inl (.int x1)] M)) = some res) : rX10_seal (n + 100) 50 [.inr (10, 0), .inl (.int x1), am_D, am_D] [.inl (.int y0)] M = some res := uX10_seal ((gX10_seal_50 fX10_isTest fX10_of fX10_reagentGood fX10_curveGood (rX10_seal n) x1 y0 M).trans h)
set_option maxRecDepth 20000 in
theorem gX10_seal_117 (F0 F1 F2 F3 : am_F) (k : Nat → List am_V → List am_V → am_M → am_R) (x1 : Int32) (x2 : Int32) (y0 : Int32) (y1 : Int32) (M : am_M) : gX10_seal F0 F1 F2 F3 k 117 [.inr (10, 0), .inl (.int x1), .inl (.int x2), am_D] [.inl (.int y0), .inl (.int y1)] M =
  am_ret [] 125 [] (k 128 [.inr (10, 0), .inl (.int x1), .inl (.int x2), .inl (.int ((y1 - y0) + 1))]) (F1 [.inr (10, 0), .inl (.int x1), .inl (.int 7)] M) := (rfl)
theorem eX10_seal_117 {n : Nat} {x1 : Int32} {x2 : Int32} {y0 : Int32} {y1 : Int32} {M : am_M} {res : am_O × am_M} (h : (am_ret [] 125 [] (rX10_seal n 128 [.inr (10, 0), .inl (.int x1), .inl (.int x2), .inl (.int ((y1 - y0) + 1))]) (fX10_of [.inr (10, 0), .inl (.int x1), .inl (.int 7)] M)) = some res) : rX10_seal (n + 100) 117 [.inr (10, 0), .inl (.int x1), .inl (.int x2), am_D] [.inl (.int y0), .inl (.int y1)] M = some res := uX10_seal ((gX10_seal_117 fX10_isTest fX10_of fX10_reagentGood fX10_curveGood (rX10_seal n) x1 x2 y0 y1 M).trans h)
set_option maxRecDepth 20000 in
theorem gX10_seal_92 (F0 F1 F2 F3 : am_F) (k : Nat → List am_V → List am_V → am_M → am_R) (x1 : Int32) (x2 : Int32) (y0 : Int32) (M : am_M) : gX10_seal F0 F1 F2 F3 k 92 [.inr (10, 0), .inl (.int x1), .inl (.int x2), am_D] [.inl (.int y0)] M =
  am_ret [] 95 [.inl (.int y0)] (k 98 [.inr (10, 0), .inl (.int x1), .inl (.int x2), am_D]) (F1 [.inr (10, 0), .inl (.int x1), .inl (.int 3)] M) := (rfl)
theorem eX10_seal_92 {n : Nat} {x1 : Int32} {x2 : Int32} {y0 : Int32} {M : am_M} {res : am_O × am_M} (h : (am_ret [] 95 [.inl (.int y0)] (rX10_seal n 98 [.inr (10, 0), .inl (.int x1), .inl (.int x2), am_D]) (fX10_of [.inr (10, 0), .inl (.int x1), .inl (.int 3)] M)) = some res) : rX10_seal (n + 100) 92 [.inr (10, 0), .inl (.int x1), .inl (.int x2), am_D] [.inl (.int y0)] M = some res := uX10_seal ((gX10_seal_92 fX10_isTest fX10_of fX10_reagentGood fX10_curveGood (rX10_seal n) x1 x2 y0 M).trans h)
set_option maxRecDepth 20000 in
theorem gX10_seal_58 (F0 F1 F2 F3 : am_F) (k : Nat → List am_V → List am_V → am_M → am_R) (x1 : Int32) (y0 : Int32) (M : am_M) : gX10_seal F0 F1 F2 F3 k 58 [.inr (10, 0), .inl (.int x1), am_D, am_D] [.inl (.int y0)] M =
  if y0 = 0 then
   am_ret [] 70 [] (k 73 [.inr (10, 0), .inl (.int x1), .inl (.int 0), am_D]) (F1 [.inr (10, 0), .inl (.int x1), .inl (.int 4)] M)
  else am_ret [] 70 [] (k 73 [.inr (10, 0), .inl (.int x1), .inl (.int 1), am_D]) (F1 [.inr (10, 0), .inl (.int x1), .inl (.int 4)] M) := (rfl)
theorem eX10_seal_58 {n : Nat} {x1 : Int32} {y0 : Int32} {M : am_M} {res : am_O × am_M} (h : (if y0 = 0 then
   am_ret [] 70 [] (rX10_seal n 73 [.inr (10, 0), .inl (.int x1), .inl (.int 0), am_D]) (fX10_of [.inr (10, 0), .inl (.int x1), .inl (.int 4)] M)
  else am_ret [] 70 [] (rX10_seal n 73 [.inr (10, 0), .inl (.int x1), .inl (.int 1), am_D]) (fX10_of [.inr (10, 0), .inl (.int x1), .inl (.int 4)] M)) = some res) : rX10_seal (n + 100) 58 [.inr (10, 0), .inl (.int x1), am_D, am_D] [.inl (.int y0)] M = some res := uX10_seal ((gX10_seal_58 fX10_isTest fX10_of fX10_reagentGood fX10_curveGood (rX10_seal n) x1 y0 M).trans h)
set_option maxRecDepth 20000 in
theorem gX10_seal_128 (F0 F1 F2 F3 : am_F) (k : Nat → List am_V → List am_V → am_M → am_R) (x1 : Int32) (x2 : Int32) (x3 : Int32) (y0 : Int32) (M : am_M) : gX10_seal F0 F1 F2 F3 k 128 [.inr (10, 0), .inl (.int x1), .inl (.int x2), .inl (.int x3)] [.inl (.int y0)] M =
  if y0 < 1 then
   am_ret [] 181 [] (k 184 [.inr (10, 0), .inl (.int x1), .inl (.int 0), .inl (.int x3)]) (F1 [.inr (10, 0), .inl (.int x1), .inl (.int 12)] M)
  else if x3 < 1 then
   am_ret [] 181 [] (k 184 [.inr (10, 0), .inl (.int x1), .inl (.int 0), .inl (.int x3)]) (F1 [.inr (10, 0), .inl (.int x1), .inl (.int 12)] M)
  else if 6 < x3 then
   am_ret [] 181 [] (k 184 [.inr (10, 0), .inl (.int x1), .inl (.int 0), .inl (.int x3)]) (F1 [.inr (10, 0), .inl (.int x1), .inl (.int 12)] M)
  else am_ret [] 147 [] (k 150 [.inr (10, 0), .inl (.int x1), .inl (.int x2), .inl (.int x3)]) (F1 [.inr (10, 0), .inl (.int x1), .inl (.int 9)] M) := (rfl)
theorem eX10_seal_128 {n : Nat} {x1 : Int32} {x2 : Int32} {x3 : Int32} {y0 : Int32} {M : am_M} {res : am_O × am_M} (h : (if y0 < 1 then
   am_ret [] 181 [] (rX10_seal n 184 [.inr (10, 0), .inl (.int x1), .inl (.int 0), .inl (.int x3)]) (fX10_of [.inr (10, 0), .inl (.int x1), .inl (.int 12)] M)
  else if x3 < 1 then
   am_ret [] 181 [] (rX10_seal n 184 [.inr (10, 0), .inl (.int x1), .inl (.int 0), .inl (.int x3)]) (fX10_of [.inr (10, 0), .inl (.int x1), .inl (.int 12)] M)
  else if 6 < x3 then
   am_ret [] 181 [] (rX10_seal n 184 [.inr (10, 0), .inl (.int x1), .inl (.int 0), .inl (.int x3)]) (fX10_of [.inr (10, 0), .inl (.int x1), .inl (.int 12)] M)
  else am_ret [] 147 [] (rX10_seal n 150 [.inr (10, 0), .inl (.int x1), .inl (.int x2), .inl (.int x3)]) (fX10_of [.inr (10, 0), .inl (.int x1), .inl (.int 9)] M)) = some res) : rX10_seal (n + 100) 128 [.inr (10, 0), .inl (.int x1), .inl (.int x2), .inl (.int x3)] [.inl (.int y0)] M = some res := uX10_seal ((gX10_seal_128 fX10_isTest fX10_of fX10_reagentGood fX10_curveGood (rX10_seal n) x1 x2 x3 y0 M).trans h)
set_option maxRecDepth 20000 in
theorem gX10_seal_98 (F0 F1 F2 F3 : am_F) (k : Nat → List am_V → List am_V → am_M → am_R) (x1 : Int32) (x2 : Int32) (y0 : Int32) (y1 : Int32) (M : am_M) : gX10_seal F0 F1 F2 F3 k 98 [.inr (10, 0), .inl (.int x1), .inl (.int x2), am_D] [.inl (.int y0), .inl (.int y1)] M =
  if y0 < y1 then
   am_ret [] 107 [] (k 110 [.inr (10, 0), .inl (.int x1), .inl (.int x2), am_D]) (F1 [.inr (10, 0), .inl (.int x1), .inl (.int 8)] M)
  else am_ret [] 107 [] (k 110 [.inr (10, 0), .inl (.int x1), .inl (.int 0), am_D]) (F1 [.inr (10, 0), .inl (.int x1), .inl (.int 8)] M) := (rfl)
theorem eX10_seal_98 {n : Nat} {x1 : Int32} {x2 : Int32} {y0 : Int32} {y1 : Int32} {M : am_M} {res : am_O × am_M} (h : (if y0 < y1 then
   am_ret [] 107 [] (rX10_seal n 110 [.inr (10, 0), .inl (.int x1), .inl (.int x2), am_D]) (fX10_of [.inr (10, 0), .inl (.int x1), .inl (.int 8)] M)
  else am_ret [] 107 [] (rX10_seal n 110 [.inr (10, 0), .inl (.int x1), .inl (.int 0), am_D]) (fX10_of [.inr (10, 0), .inl (.int x1), .inl (.int 8)] M)) = some res) : rX10_seal (n + 100) 98 [.inr (10, 0), .inl (.int x1), .inl (.int x2), am_D] [.inl (.int y0), .inl (.int y1)] M = some res := uX10_seal ((gX10_seal_98 fX10_isTest fX10_of fX10_reagentGood fX10_curveGood (rX10_seal n) x1 x2 y0 y1 M).trans h)
set_option maxRecDepth 20000 in
theorem gX10_seal_184 (F0 F1 F2 F3 : am_F) (k : Nat → List am_V → List am_V → am_M → am_R) (x1 : Int32) (x2 : Int32) (x3 : Int32) (y0 : Int32) (M : am_M) : gX10_seal F0 F1 F2 F3 k 184 [.inr (10, 0), .inl (.int x1), .inl (.int x2), .inl (.int x3)] [.inl (.int y0)] M =
  if y0 = 2 then
   am_ret [] 191 [] (k 194 [.inr (10, 0), .inl (.int x1), .inl (.int x2), .inl (.int x3)]) (F1 [.inr (10, 0), .inl (.int x1), .inl (.int 0)] M)
  else if am_in x1 4 ∧ am_b x2 = x2 then
   Option.map (fun o => (o, (am_put M 31 0 (Int32.toNatClampNeg x1) x2))) (am_fin 2 .ireturn [.inr (10, 0), .inl (.int x1), .inl (.int x2), .inl (.int x3)] [.inl (.int x2)])
  else none := (rfl)
theorem eX10_seal_184 {n : Nat} {x1 : Int32} {x2 : Int32} {x3 : Int32} {y0 : Int32} {M : am_M} {res : am_O × am_M} (h : (if y0 = 2 then
   am_ret [] 191 [] (rX10_seal n 194 [.inr (10, 0), .inl (.int x1), .inl (.int x2), .inl (.int x3)]) (fX10_of [.inr (10, 0), .inl (.int x1), .inl (.int 0)] M)
  else if am_in x1 4 ∧ am_b x2 = x2 then
   Option.map (fun o => (o, (am_put M 31 0 (Int32.toNatClampNeg x1) x2))) (am_fin 2 .ireturn [.inr (10, 0), .inl (.int x1), .inl (.int x2), .inl (.int x3)] [.inl (.int x2)])
  else none) = some res) : rX10_seal (n + 100) 184 [.inr (10, 0), .inl (.int x1), .inl (.int x2), .inl (.int x3)] [.inl (.int y0)] M = some res := uX10_seal ((gX10_seal_184 fX10_isTest fX10_of fX10_reagentGood fX10_curveGood (rX10_seal n) x1 x2 x3 y0 M).trans h)
set_option maxRecDepth 20000 in
theorem gX10_seal_150 (F0 F1 F2 F3 : am_F) (k : Nat → List am_V → List am_V → am_M → am_R) (x1 : Int32) (x2 : Int32) (x3 : Int32) (y0 : Int32) (M : am_M) : gX10_seal F0 F1 F2 F3 k 150 [.inr (10, 0), .inl (.int x1), .inl (.int x2), .inl (.int x3)] [.inl (.int y0)] M =
  if y0 ≤ 0 then
   am_ret [] 162 [] (k 165 [.inr (10, 0), .inl (.int x1), .inl (.int x2), .inl (.int x3)]) (F1 [.inr (10, 0), .inl (.int x1), .inl (.int 10)] M)
  else if x3 < 2 then
   am_ret [] 181 [] (k 184 [.inr (10, 0), .inl (.int x1), .inl (.int 0), .inl (.int x3)]) (F1 [.inr (10, 0), .inl (.int x1), .inl (.int 12)] M)
  else am_ret [] 162 [] (k 165 [.inr (10, 0), .inl (.int x1), .inl (.int x2), .inl (.int x3)]) (F1 [.inr (10, 0), .inl (.int x1), .inl (.int 10)] M) := (rfl)
theorem eX10_seal_150 {n : Nat} {x1 : Int32} {x2 : Int32} {x3 : Int32} {y0 : Int32} {M : am_M} {res : am_O × am_M} (h : (if y0 ≤ 0 then
   am_ret [] 162 [] (rX10_seal n 165 [.inr (10, 0), .inl (.int x1), .inl (.int x2), .inl (.int x3)]) (fX10_of [.inr (10, 0), .inl (.int x1), .inl (.int 10)] M)
  else if x3 < 2 then
   am_ret [] 181 [] (rX10_seal n 184 [.inr (10, 0), .inl (.int x1), .inl (.int 0), .inl (.int x3)]) (fX10_of [.inr (10, 0), .inl (.int x1), .inl (.int 12)] M)
  else am_ret [] 162 [] (rX10_seal n 165 [.inr (10, 0), .inl (.int x1), .inl (.int x2), .inl (.int x3)]) (fX10_of [.inr (10, 0), .inl (.int x1), .inl (.int 10)] M)) = some res) : rX10_seal (n + 100) 150 [.inr (10, 0), .inl (.int x1), .inl (.int x2), .inl (.int x3)] [.inl (.int y0)] M = some res := uX10_seal ((gX10_seal_150 fX10_isTest fX10_of fX10_reagentGood fX10_curveGood (rX10_seal n) x1 x2 x3 y0 M).trans h)
set_option maxRecDepth 20000 in
theorem gX10_seal_194 (F0 F1 F2 F3 : am_F) (k : Nat → List am_V → List am_V → am_M → am_R) (x1 : Int32) (x2 : Int32) (x3 : Int32) (y0 : Int32) (M : am_M) : gX10_seal F0 F1 F2 F3 k 194 [.inr (10, 0), .inl (.int x1), .inl (.int x2), .inl (.int x3)] [.inl (.int y0)] M =
  am_ret [] 198 [.inl (.int y0)] (k 201 [.inr (10, 0), .inl (.int x1), .inl (.int x2), .inl (.int x3)]) (F1 [.inr (10, 0), .inl (.int x1), .inl (.int 13)] M) := (rfl)
theorem eX10_seal_194 {n : Nat} {x1 : Int32} {x2 : Int32} {x3 : Int32} {y0 : Int32} {M : am_M} {res : am_O × am_M} (h : (am_ret [] 198 [.inl (.int y0)] (rX10_seal n 201 [.inr (10, 0), .inl (.int x1), .inl (.int x2), .inl (.int x3)]) (fX10_of [.inr (10, 0), .inl (.int x1), .inl (.int 13)] M)) = some res) : rX10_seal (n + 100) 194 [.inr (10, 0), .inl (.int x1), .inl (.int x2), .inl (.int x3)] [.inl (.int y0)] M = some res := uX10_seal ((gX10_seal_194 fX10_isTest fX10_of fX10_reagentGood fX10_curveGood (rX10_seal n) x1 x2 x3 y0 M).trans h)
set_option maxRecDepth 20000 in
theorem gX10_seal_165 (F0 F1 F2 F3 : am_F) (k : Nat → List am_V → List am_V → am_M → am_R) (x1 : Int32) (x2 : Int32) (x3 : Int32) (y0 : Int32) (M : am_M) : gX10_seal F0 F1 F2 F3 k 165 [.inr (10, 0), .inl (.int x1), .inl (.int x2), .inl (.int x3)] [.inl (.int y0)] M =
  am_ret [] 169 [.inl (.int y0)] (k 172 [.inr (10, 0), .inl (.int x1), .inl (.int x2), .inl (.int x3)]) (F1 [.inr (10, 0), .inl (.int x1), .inl (.int 11)] M) := (rfl)
theorem eX10_seal_165 {n : Nat} {x1 : Int32} {x2 : Int32} {x3 : Int32} {y0 : Int32} {M : am_M} {res : am_O × am_M} (h : (am_ret [] 169 [.inl (.int y0)] (rX10_seal n 172 [.inr (10, 0), .inl (.int x1), .inl (.int x2), .inl (.int x3)]) (fX10_of [.inr (10, 0), .inl (.int x1), .inl (.int 11)] M)) = some res) : rX10_seal (n + 100) 165 [.inr (10, 0), .inl (.int x1), .inl (.int x2), .inl (.int x3)] [.inl (.int y0)] M = some res := uX10_seal ((gX10_seal_165 fX10_isTest fX10_of fX10_reagentGood fX10_curveGood (rX10_seal n) x1 x2 x3 y0 M).trans h)
set_option maxRecDepth 20000 in
theorem gX10_seal_201 (F0 F1 F2 F3 : am_F) (k : Nat → List am_V → List am_V → am_M → am_R) (x1 : Int32) (x2 : Int32) (x3 : Int32) (y0 : Int32) (y1 : Int32) (M : am_M) : gX10_seal F0 F1 F2 F3 k 201 [.inr (10, 0), .inl (.int x1), .inl (.int x2), .inl (.int x3)] [.inl (.int y0), .inl (.int y1)] M =
  if y0 = 0 then
   none
  else if (y1 - y1 / y0 * y0) = 0 then
   if am_in x1 4 ∧ am_b x2 = x2 then
    Option.map (fun o => (o, (am_put M 31 0 (Int32.toNatClampNeg x1) x2))) (am_fin 2 .ireturn [.inr (10, 0), .inl (.int x1), .inl (.int x2), .inl (.int x3)] [.inl (.int x2)])
   else none
  else if am_in x1 4 ∧ am_b 0 = 0 then
   some (.inl (some (.inl (.int 0))), (am_put M 31 0 (Int32.toNatClampNeg x1) 0))
  else none := (rfl)
theorem eX10_seal_201 {n : Nat} {x1 : Int32} {x2 : Int32} {x3 : Int32} {y0 : Int32} {y1 : Int32} {M : am_M} {res : am_O × am_M} (h : (if y0 = 0 then
   none
  else if (y1 - y1 / y0 * y0) = 0 then
   if am_in x1 4 ∧ am_b x2 = x2 then
    Option.map (fun o => (o, (am_put M 31 0 (Int32.toNatClampNeg x1) x2))) (am_fin 2 .ireturn [.inr (10, 0), .inl (.int x1), .inl (.int x2), .inl (.int x3)] [.inl (.int x2)])
   else none
  else if am_in x1 4 ∧ am_b 0 = 0 then
   some (.inl (some (.inl (.int 0))), (am_put M 31 0 (Int32.toNatClampNeg x1) 0))
  else none) = some res) : rX10_seal (n + 100) 201 [.inr (10, 0), .inl (.int x1), .inl (.int x2), .inl (.int x3)] [.inl (.int y0), .inl (.int y1)] M = some res := uX10_seal ((gX10_seal_201 fX10_isTest fX10_of fX10_reagentGood fX10_curveGood (rX10_seal n) x1 x2 x3 y0 y1 M).trans h)
set_option maxRecDepth 20000 in
theorem gX10_seal_172 (F0 F1 F2 F3 : am_F) (k : Nat → List am_V → List am_V → am_M → am_R) (x1 : Int32) (x2 : Int32) (x3 : Int32) (y0 : Int32) (y1 : Int32) (M : am_M) : gX10_seal F0 F1 F2 F3 k 172 [.inr (10, 0), .inl (.int x1), .inl (.int x2), .inl (.int x3)] [.inl (.int y0), .inl (.int y1)] M =
  if y1 ≤ y0 then
   am_ret [] 181 [] (k 184 [.inr (10, 0), .inl (.int x1), .inl (.int x2), .inl (.int x3)]) (F1 [.inr (10, 0), .inl (.int x1), .inl (.int 12)] M)
  else am_ret [] 181 [] (k 184 [.inr (10, 0), .inl (.int x1), .inl (.int 0), .inl (.int x3)]) (F1 [.inr (10, 0), .inl (.int x1), .inl (.int 12)] M) := (rfl)
theorem eX10_seal_172 {n : Nat} {x1 : Int32} {x2 : Int32} {x3 : Int32} {y0 : Int32} {y1 : Int32} {M : am_M} {res : am_O × am_M} (h : (if y1 ≤ y0 then
   am_ret [] 181 [] (rX10_seal n 184 [.inr (10, 0), .inl (.int x1), .inl (.int x2), .inl (.int x3)]) (fX10_of [.inr (10, 0), .inl (.int x1), .inl (.int 12)] M)
  else am_ret [] 181 [] (rX10_seal n 184 [.inr (10, 0), .inl (.int x1), .inl (.int 0), .inl (.int x3)]) (fX10_of [.inr (10, 0), .inl (.int x1), .inl (.int 12)] M)) = some res) : rX10_seal (n + 100) 172 [.inr (10, 0), .inl (.int x1), .inl (.int x2), .inl (.int x3)] [.inl (.int y0), .inl (.int y1)] M = some res := uX10_seal ((gX10_seal_172 fX10_isTest fX10_of fX10_reagentGood fX10_curveGood (rX10_seal n) x1 x2 x3 y0 y1 M).trans h)
def rX10_slotOf (n pc : Nat) (ls st : List am_V) (M : am_M) : am_R := am_run [] [] 1 am_X0 pX10_slotOf n pc ls st M
def gX10_slotOf (k : Nat → List am_V → List am_V → am_M → am_R) (pc : Nat) (ls st : List am_V) (M : am_M) : am_R := am_go [] [] 1 am_X0 pX10_slotOf [2] k 100 pc ls st M
theorem uX10_slotOf {n pc : Nat} {ls st : List am_V} {M : am_M} {res : am_O × am_M} (h : gX10_slotOf (rX10_slotOf n) pc ls st M = some res) : rX10_slotOf (n + 100) pc ls st M = some res := am_go_ok h
theorem eX10_slotOf (x1 : Int32) (M : am_M) : fX10_slotOf [.inr (10, 0), .inl (.int x1)] M = rX10_slotOf 100000 0 [.inr (10, 0), .inl (.int x1), am_D] [] M := am_meth_eq rfl rfl
set_option maxRecDepth 20000 in
theorem gX10_slotOf_0 (k : Nat → List am_V → List am_V → am_M → am_R) (x1 : Int32) (M : am_M) : gX10_slotOf k 0 [.inr (10, 0), .inl (.int x1), am_D] [] M =
  k 2 [.inr (10, 0), .inl (.int x1), .inl (.int 0)] [] M := (rfl)
theorem eX10_slotOf_0 {n : Nat} {x1 : Int32} {M : am_M} {res : am_O × am_M} (h : (rX10_slotOf n 2 [.inr (10, 0), .inl (.int x1), .inl (.int 0)] [] M) = some res) : rX10_slotOf (n + 100) 0 [.inr (10, 0), .inl (.int x1), am_D] [] M = some res := uX10_slotOf ((gX10_slotOf_0 (rX10_slotOf n) x1 M).trans h)
set_option maxRecDepth 20000 in
theorem gX10_slotOf_2 (k : Nat → List am_V → List am_V → am_M → am_R) (x1 : Int32) (x2 : Int32) (M : am_M) : gX10_slotOf k 2 [.inr (10, 0), .inl (.int x1), .inl (.int x2)] [] M =
  if 6 ≤ x2 then
   some (.inl (some (.inl (.int (-1)))), M)
  else if am_in x2 6 then
   if (M 37 0 (Int32.toNatClampNeg x2)) = x1 then
    some (.inl (some (.inl (.int x2))), M)
   else k 2 [.inr (10, 0), .inl (.int x1), .inl (.int (x2 + 1))] [] M
  else none := (rfl)
theorem eX10_slotOf_2 {n : Nat} {x1 : Int32} {x2 : Int32} {M : am_M} {res : am_O × am_M} (h : (if 6 ≤ x2 then
   some (.inl (some (.inl (.int (-1)))), M)
  else if am_in x2 6 then
   if (M 37 0 (Int32.toNatClampNeg x2)) = x1 then
    some (.inl (some (.inl (.int x2))), M)
   else rX10_slotOf n 2 [.inr (10, 0), .inl (.int x1), .inl (.int (x2 + 1))] [] M
  else none) = some res) : rX10_slotOf (n + 100) 2 [.inr (10, 0), .inl (.int x1), .inl (.int x2)] [] M = some res := uX10_slotOf ((gX10_slotOf_2 (rX10_slotOf n) x1 x2 M).trans h)
def rX10_rack (n pc : Nat) (ls st : List am_V) (M : am_M) : am_R := am_run [fX10_within, fX10_slotOf] [] 0 am_X0 pX10_rack n pc ls st M
def gX10_rack (F0 F1 : am_F) (k : Nat → List am_V → List am_V → am_M → am_R) (pc : Nat) (ls st : List am_V) (M : am_M) : am_R := am_go [F0, F1] [] 0 am_X0 pX10_rack [6, 16, 25, 36, 70] k 100 pc ls st M
theorem uX10_rack {n pc : Nat} {ls st : List am_V} {M : am_M} {res : am_O × am_M} (h : gX10_rack fX10_within fX10_slotOf (rX10_rack n) pc ls st M = some res) : rX10_rack (n + 100) pc ls st M = some res := am_go_ok h
theorem eX10_rack (x1 : Int32) (x2 : Int32) (x3 : Int32) (x4 : Int32) (M : am_M) : fX10_rack [.inr (10, 0), .inl (.int x1), .inl (.int x2), .inl (.int x3), .inl (.int x4)] M = rX10_rack 100000 0 [.inr (10, 0), .inl (.int x1), .inl (.int x2), .inl (.int x3), .inl (.int x4), am_D] [] M := am_meth_eq rfl rfl
set_option maxRecDepth 20000 in
theorem gX10_rack_0 (F0 F1 : am_F) (k : Nat → List am_V → List am_V → am_M → am_R) (x1 : Int32) (x2 : Int32) (x3 : Int32) (x4 : Int32) (M : am_M) : gX10_rack F0 F1 k 0 [.inr (10, 0), .inl (.int x1), .inl (.int x2), .inl (.int x3), .inl (.int x4), am_D] [] M =
  am_ret [] 3 [] (k 6 [.inr (10, 0), .inl (.int x1), .inl (.int x2), .inl (.int x3), .inl (.int x4), am_D]) (F0 [.inl (.int x1), .inl (.int 0), .inl (.int 5)] M) := (rfl)
theorem eX10_rack_0 {n : Nat} {x1 : Int32} {x2 : Int32} {x3 : Int32} {x4 : Int32} {M : am_M} {res : am_O × am_M} (h : (am_ret [] 3 [] (rX10_rack n 6 [.inr (10, 0), .inl (.int x1), .inl (.int x2), .inl (.int x3), .inl (.int x4), am_D]) (fX10_within [.inl (.int x1), .inl (.int 0), .inl (.int 5)] M)) = some res) : rX10_rack (n + 100) 0 [.inr (10, 0), .inl (.int x1), .inl (.int x2), .inl (.int x3), .inl (.int x4), am_D] [] M = some res := uX10_rack ((gX10_rack_0 fX10_within fX10_slotOf (rX10_rack n) x1 x2 x3 x4 M).trans h)
set_option maxRecDepth 20000 in
theorem gX10_rack_6 (F0 F1 : am_F) (k : Nat → List am_V → List am_V → am_M → am_R) (x1 : Int32) (x2 : Int32) (x3 : Int32) (x4 : Int32) (y0 : Int32) (M : am_M) : gX10_rack F0 F1 k 6 [.inr (10, 0), .inl (.int x1), .inl (.int x2), .inl (.int x3), .inl (.int x4), am_D] [.inl (.int y0)] M =
  if y0 = 0 then
   some (.inl none, (am_put M 10 0 45 1))
  else am_ret [] 13 [] (k 16 [.inr (10, 0), .inl (.int x1), .inl (.int x2), .inl (.int x3), .inl (.int x4), am_D]) (F0 [.inl (.int x2), .inl (.int 1), .inl (.int 999999)] M) := (rfl)
theorem eX10_rack_6 {n : Nat} {x1 : Int32} {x2 : Int32} {x3 : Int32} {x4 : Int32} {y0 : Int32} {M : am_M} {res : am_O × am_M} (h : (if y0 = 0 then
   some (.inl none, (am_put M 10 0 45 1))
  else am_ret [] 13 [] (rX10_rack n 16 [.inr (10, 0), .inl (.int x1), .inl (.int x2), .inl (.int x3), .inl (.int x4), am_D]) (fX10_within [.inl (.int x2), .inl (.int 1), .inl (.int 999999)] M)) = some res) : rX10_rack (n + 100) 6 [.inr (10, 0), .inl (.int x1), .inl (.int x2), .inl (.int x3), .inl (.int x4), am_D] [.inl (.int y0)] M = some res := uX10_rack ((gX10_rack_6 fX10_within fX10_slotOf (rX10_rack n) x1 x2 x3 x4 y0 M).trans h)
set_option maxRecDepth 20000 in
theorem gX10_rack_16 (F0 F1 : am_F) (k : Nat → List am_V → List am_V → am_M → am_R) (x1 : Int32) (x2 : Int32) (x3 : Int32) (x4 : Int32) (y0 : Int32) (M : am_M) : gX10_rack F0 F1 k 16 [.inr (10, 0), .inl (.int x1), .inl (.int x2), .inl (.int x3), .inl (.int x4), am_D] [.inl (.int y0)] M =
  if y0 = 0 then
   some (.inl none, (am_put M 10 0 45 1))
  else am_ret [] 22 [] (k 25 [.inr (10, 0), .inl (.int x1), .inl (.int x2), .inl (.int x3), .inl (.int x4), am_D]) (F0 [.inl (.int x3), .inl (.int 0), .inl (.int 1)] M) := (rfl)
theorem eX10_rack_16 {n : Nat} {x1 : Int32} {x2 : Int32} {x3 : Int32} {x4 : Int32} {y0 : Int32} {M : am_M} {res : am_O × am_M} (h : (if y0 = 0 then
   some (.inl none, (am_put M 10 0 45 1))
  else am_ret [] 22 [] (rX10_rack n 25 [.inr (10, 0), .inl (.int x1), .inl (.int x2), .inl (.int x3), .inl (.int x4), am_D]) (fX10_within [.inl (.int x3), .inl (.int 0), .inl (.int 1)] M)) = some res) : rX10_rack (n + 100) 16 [.inr (10, 0), .inl (.int x1), .inl (.int x2), .inl (.int x3), .inl (.int x4), am_D] [.inl (.int y0)] M = some res := uX10_rack ((gX10_rack_16 fX10_within fX10_slotOf (rX10_rack n) x1 x2 x3 x4 y0 M).trans h)
set_option maxRecDepth 20000 in
theorem gX10_rack_25 (F0 F1 : am_F) (k : Nat → List am_V → List am_V → am_M → am_R) (x1 : Int32) (x2 : Int32) (x3 : Int32) (x4 : Int32) (y0 : Int32) (M : am_M) : gX10_rack F0 F1 k 25 [.inr (10, 0), .inl (.int x1), .inl (.int x2), .inl (.int x3), .inl (.int x4), am_D] [.inl (.int y0)] M =
  if y0 = 0 then
   some (.inl none, (am_put M 10 0 45 1))
  else am_ret [] 33 [] (k 36 [.inr (10, 0), .inl (.int x1), .inl (.int x2), .inl (.int x3), .inl (.int x4), am_D]) (F0 [.inl (.int x4), .inl (.int 0), .inl (.int 100000)] M) := (rfl)
theorem eX10_rack_25 {n : Nat} {x1 : Int32} {x2 : Int32} {x3 : Int32} {x4 : Int32} {y0 : Int32} {M : am_M} {res : am_O × am_M} (h : (if y0 = 0 then
   some (.inl none, (am_put M 10 0 45 1))
  else am_ret [] 33 [] (rX10_rack n 36 [.inr (10, 0), .inl (.int x1), .inl (.int x2), .inl (.int x3), .inl (.int x4), am_D]) (fX10_within [.inl (.int x4), .inl (.int 0), .inl (.int 100000)] M)) = some res) : rX10_rack (n + 100) 25 [.inr (10, 0), .inl (.int x1), .inl (.int x2), .inl (.int x3), .inl (.int x4), am_D] [.inl (.int y0)] M = some res := uX10_rack ((gX10_rack_25 fX10_within fX10_slotOf (rX10_rack n) x1 x2 x3 x4 y0 M).trans h)
set_option maxRecDepth 20000 in
theorem gX10_rack_36 (F0 F1 : am_F) (k : Nat → List am_V → List am_V → am_M → am_R) (x1 : Int32) (x2 : Int32) (x3 : Int32) (x4 : Int32) (y0 : Int32) (M : am_M) : gX10_rack F0 F1 k 36 [.inr (10, 0), .inl (.int x1), .inl (.int x2), .inl (.int x3), .inl (.int x4), am_D] [.inl (.int y0)] M =
  if y0 = 0 then
   some (.inl none, (am_put M 10 0 45 1))
  else if am_in x1 6 then
   if (M 37 0 (Int32.toNatClampNeg x1)) = 0 then
    am_ret [] 67 [.inr (10, 0)] (k 70 [.inr (10, 0), .inl (.int x1), .inl (.int x2), .inl (.int x3), .inl (.int x4), .inl (.int 1)]) (F1 [.inr (10, 0), .inl (.int x2)] M)
   else some (.inl none, (am_put M 10 0 45 2))
  else none := (rfl)
theorem eX10_rack_36 {n : Nat} {x1 : Int32} {x2 : Int32} {x3 : Int32} {x4 : Int32} {y0 : Int32} {M : am_M} {res : am_O × am_M} (h : (if y0 = 0 then
   some (.inl none, (am_put M 10 0 45 1))
  else if am_in x1 6 then
   if (M 37 0 (Int32.toNatClampNeg x1)) = 0 then
    am_ret [] 67 [.inr (10, 0)] (rX10_rack n 70 [.inr (10, 0), .inl (.int x1), .inl (.int x2), .inl (.int x3), .inl (.int x4), .inl (.int 1)]) (fX10_slotOf [.inr (10, 0), .inl (.int x2)] M)
   else some (.inl none, (am_put M 10 0 45 2))
  else none) = some res) : rX10_rack (n + 100) 36 [.inr (10, 0), .inl (.int x1), .inl (.int x2), .inl (.int x3), .inl (.int x4), am_D] [.inl (.int y0)] M = some res := uX10_rack ((gX10_rack_36 fX10_within fX10_slotOf (rX10_rack n) x1 x2 x3 x4 y0 M).trans h)
set_option maxRecDepth 20000 in
theorem gX10_rack_70 (F0 F1 : am_F) (k : Nat → List am_V → List am_V → am_M → am_R) (x1 : Int32) (x2 : Int32) (x3 : Int32) (x4 : Int32) (x5 : Int32) (y0 : Int32) (M : am_M) : gX10_rack F0 F1 k 70 [.inr (10, 0), .inl (.int x1), .inl (.int x2), .inl (.int x3), .inl (.int x4), .inl (.int x5)] [.inl (.int y0), .inr (10, 0)] M =
  if y0 < 0 then
   if am_in x1 6 then
    if am_in x1 6 then
     if am_in x1 6 then
      some (.inl none, (am_put (am_put (am_put (am_put M 10 0 45 0) 37 0 (Int32.toNatClampNeg x1) x2) 38 0 (Int32.toNatClampNeg x1) x3) 39 0 (Int32.toNatClampNeg x1) x4))
     else none
    else none
   else none
  else some (.inl none, (am_put M 10 0 45 2)) := (rfl)
theorem eX10_rack_70 {n : Nat} {x1 : Int32} {x2 : Int32} {x3 : Int32} {x4 : Int32} {x5 : Int32} {y0 : Int32} {M : am_M} {res : am_O × am_M} (h : (if y0 < 0 then
   if am_in x1 6 then
    if am_in x1 6 then
     if am_in x1 6 then
      some (.inl none, (am_put (am_put (am_put (am_put M 10 0 45 0) 37 0 (Int32.toNatClampNeg x1) x2) 38 0 (Int32.toNatClampNeg x1) x3) 39 0 (Int32.toNatClampNeg x1) x4))
     else none
    else none
   else none
  else some (.inl none, (am_put M 10 0 45 2))) = some res) : rX10_rack (n + 100) 70 [.inr (10, 0), .inl (.int x1), .inl (.int x2), .inl (.int x3), .inl (.int x4), .inl (.int x5)] [.inl (.int y0), .inr (10, 0)] M = some res := uX10_rack ((gX10_rack_70 fX10_within fX10_slotOf (rX10_rack n) x1 x2 x3 x4 x5 y0 M).trans h)
def rX10_removeRack (n pc : Nat) (ls st : List am_V) (M : am_M) : am_R := am_run [fX10_within] [] 1 am_X0 pX10_removeRack n pc ls st M
def gX10_removeRack (F0 : am_F) (k : Nat → List am_V → List am_V → am_M → am_R) (pc : Nat) (ls st : List am_V) (M : am_M) : am_R := am_go [F0] [] 1 am_X0 pX10_removeRack [7, 33] k 100 pc ls st M
theorem uX10_removeRack {n pc : Nat} {ls st : List am_V} {M : am_M} {res : am_O × am_M} (h : gX10_removeRack fX10_within (rX10_removeRack n) pc ls st M = some res) : rX10_removeRack (n + 100) pc ls st M = some res := am_go_ok h
theorem eX10_removeRack (x1 : Int32) (M : am_M) : fX10_removeRack [.inr (10, 0), .inl (.int x1)] M = rX10_removeRack 100000 0 [.inr (10, 0), .inl (.int x1), am_D] [] M := am_meth_eq rfl rfl
set_option maxRecDepth 20000 in
theorem gX10_removeRack_0 (F0 : am_F) (k : Nat → List am_V → List am_V → am_M → am_R) (x1 : Int32) (M : am_M) : gX10_removeRack F0 k 0 [.inr (10, 0), .inl (.int x1), am_D] [] M =
  am_ret [] 4 [.inr (10, 0)] (k 7 [.inr (10, 0), .inl (.int x1), am_D]) (F0 [.inl (.int x1), .inl (.int 0), .inl (.int 5)] M) := (rfl)
theorem eX10_removeRack_0 {n : Nat} {x1 : Int32} {M : am_M} {res : am_O × am_M} (h : (am_ret [] 4 [.inr (10, 0)] (rX10_removeRack n 7 [.inr (10, 0), .inl (.int x1), am_D]) (fX10_within [.inl (.int x1), .inl (.int 0), .inl (.int 5)] M)) = some res) : rX10_removeRack (n + 100) 0 [.inr (10, 0), .inl (.int x1), am_D] [] M = some res := uX10_removeRack ((gX10_removeRack_0 fX10_within (rX10_removeRack n) x1 M).trans h)
set_option maxRecDepth 20000 in
theorem gX10_removeRack_7 (F0 : am_F) (k : Nat → List am_V → List am_V → am_M → am_R) (x1 : Int32) (y0 : Int32) (M : am_M) : gX10_removeRack F0 k 7 [.inr (10, 0), .inl (.int x1), am_D] [.inl (.int y0), .inr (10, 0)] M =
  if y0 = 0 then
   k 33 [.inr (10, 0), .inl (.int x1), .inl (.int 0)] [] (am_put M 10 0 45 1)
  else if am_in x1 6 then
   if (M 37 0 (Int32.toNatClampNeg x1)) = 0 then
    k 33 [.inr (10, 0), .inl (.int x1), .inl (.int 0)] [] (am_put M 10 0 45 2)
   else k 33 [.inr (10, 0), .inl (.int x1), .inl (.int 0)] [] (am_put M 10 0 45 0)
  else none := (rfl)
theorem eX10_removeRack_7 {n : Nat} {x1 : Int32} {y0 : Int32} {M : am_M} {res : am_O × am_M} (h : (if y0 = 0 then
   rX10_removeRack n 33 [.inr (10, 0), .inl (.int x1), .inl (.int 0)] [] (am_put M 10 0 45 1)
  else if am_in x1 6 then
   if (M 37 0 (Int32.toNatClampNeg x1)) = 0 then
    rX10_removeRack n 33 [.inr (10, 0), .inl (.int x1), .inl (.int 0)] [] (am_put M 10 0 45 2)
   else rX10_removeRack n 33 [.inr (10, 0), .inl (.int x1), .inl (.int 0)] [] (am_put M 10 0 45 0)
  else none) = some res) : rX10_removeRack (n + 100) 7 [.inr (10, 0), .inl (.int x1), am_D] [.inl (.int y0), .inr (10, 0)] M = some res := uX10_removeRack ((gX10_removeRack_7 fX10_within (rX10_removeRack n) x1 y0 M).trans h)
set_option maxRecDepth 20000 in
theorem gX10_removeRack_33 (F0 : am_F) (k : Nat → List am_V → List am_V → am_M → am_R) (x1 : Int32) (x2 : Int32) (M : am_M) : gX10_removeRack F0 k 33 [.inr (10, 0), .inl (.int x1), .inl (.int x2)] [] M =
  if (M 10 0 14) ≤ x2 then
   if (M 10 0 45) = 0 then
    if am_in x1 6 then
     if am_in x1 6 then
      some (.inl (some (.inl (.int (M 39 0 (Int32.toNatClampNeg x1))))), (am_put M 37 0 (Int32.toNatClampNeg x1) 0))
     else none
    else none
   else some (.inl (some (.inl (.int 0))), M)
  else if (M 10 0 45) = 0 then
   if am_in x2 40 then
    if am_in x1 6 then
     if (M 45 0 (Int32.toNatClampNeg x2)) = (M 37 0 (Int32.toNatClampNeg x1)) then
      if am_in x2 40 then
       if 1 < (M 48 0 (Int32.toNatClampNeg x2)) then
        k 33 [.inr (10, 0), .inl (.int x1), .inl (.int (x2 + 1))] [] M
       else k 33 [.inr (10, 0), .inl (.int x1), .inl (.int (x2 + 1))] [] (am_put M 10 0 45 3)
      else none
     else k 33 [.inr (10, 0), .inl (.int x1), .inl (.int (x2 + 1))] [] M
    else none
   else none
  else if (M 10 0 45) = 0 then
   if am_in x1 6 then
    if am_in x1 6 then
     some (.inl (some (.inl (.int (M 39 0 (Int32.toNatClampNeg x1))))), (am_put M 37 0 (Int32.toNatClampNeg x1) 0))
    else none
   else none
  else some (.inl (some (.inl (.int 0))), M) := (rfl)
theorem eX10_removeRack_33 {n : Nat} {x1 : Int32} {x2 : Int32} {M : am_M} {res : am_O × am_M} (h : (if (M 10 0 14) ≤ x2 then
   if (M 10 0 45) = 0 then
    if am_in x1 6 then
     if am_in x1 6 then
      some (.inl (some (.inl (.int (M 39 0 (Int32.toNatClampNeg x1))))), (am_put M 37 0 (Int32.toNatClampNeg x1) 0))
     else none
    else none
   else some (.inl (some (.inl (.int 0))), M)
  else if (M 10 0 45) = 0 then
   if am_in x2 40 then
    if am_in x1 6 then
     if (M 45 0 (Int32.toNatClampNeg x2)) = (M 37 0 (Int32.toNatClampNeg x1)) then
      if am_in x2 40 then
       if 1 < (M 48 0 (Int32.toNatClampNeg x2)) then
        rX10_removeRack n 33 [.inr (10, 0), .inl (.int x1), .inl (.int (x2 + 1))] [] M
       else rX10_removeRack n 33 [.inr (10, 0), .inl (.int x1), .inl (.int (x2 + 1))] [] (am_put M 10 0 45 3)
      else none
     else rX10_removeRack n 33 [.inr (10, 0), .inl (.int x1), .inl (.int (x2 + 1))] [] M
    else none
   else none
  else if (M 10 0 45) = 0 then
   if am_in x1 6 then
    if am_in x1 6 then
     some (.inl (some (.inl (.int (M 39 0 (Int32.toNatClampNeg x1))))), (am_put M 37 0 (Int32.toNatClampNeg x1) 0))
    else none
   else none
  else some (.inl (some (.inl (.int 0))), M)) = some res) : rX10_removeRack (n + 100) 33 [.inr (10, 0), .inl (.int x1), .inl (.int x2)] [] M = some res := uX10_removeRack ((gX10_removeRack_33 fX10_within (rX10_removeRack n) x1 x2 M).trans h)
def rX10_reserved (n pc : Nat) (ls st : List am_V) (M : am_M) : am_R := am_run [] [] 1 am_X0 pX10_reserved n pc ls st M
def gX10_reserved (k : Nat → List am_V → List am_V → am_M → am_R) (pc : Nat) (ls st : List am_V) (M : am_M) : am_R := am_go [] [] 1 am_X0 pX10_reserved [4] k 100 pc ls st M
theorem uX10_reserved {n pc : Nat} {ls st : List am_V} {M : am_M} {res : am_O × am_M} (h : gX10_reserved (rX10_reserved n) pc ls st M = some res) : rX10_reserved (n + 100) pc ls st M = some res := am_go_ok h
theorem eX10_reserved (x1 : Int32) (M : am_M) : fX10_reserved [.inr (10, 0), .inl (.int x1)] M = rX10_reserved 100000 0 [.inr (10, 0), .inl (.int x1), am_D, am_D] [] M := am_meth_eq rfl rfl
set_option maxRecDepth 20000 in
theorem gX10_reserved_0 (k : Nat → List am_V → List am_V → am_M → am_R) (x1 : Int32) (M : am_M) : gX10_reserved k 0 [.inr (10, 0), .inl (.int x1), am_D, am_D] [] M =
  k 4 [.inr (10, 0), .inl (.int x1), .inl (.int 0), .inl (.int 0)] [] M := (rfl)
theorem eX10_reserved_0 {n : Nat} {x1 : Int32} {M : am_M} {res : am_O × am_M} (h : (rX10_reserved n 4 [.inr (10, 0), .inl (.int x1), .inl (.int 0), .inl (.int 0)] [] M) = some res) : rX10_reserved (n + 100) 0 [.inr (10, 0), .inl (.int x1), am_D, am_D] [] M = some res := uX10_reserved ((gX10_reserved_0 (rX10_reserved n) x1 M).trans h)
set_option maxRecDepth 20000 in
theorem gX10_reserved_4 (k : Nat → List am_V → List am_V → am_M → am_R) (x1 : Int32) (x2 : Int32) (x3 : Int32) (M : am_M) : gX10_reserved k 4 [.inr (10, 0), .inl (.int x1), .inl (.int x2), .inl (.int x3)] [] M =
  if (M 10 0 36) ≤ x3 then
   some (.inl (some (.inl (.int x2))), M)
  else if am_in x3 24 then
   if (M 63 0 (Int32.toNatClampNeg x3)) = x1 then
    if am_in x3 24 then
     k 4 [.inr (10, 0), .inl (.int x1), .inl (.int (x2 + (M 64 0 (Int32.toNatClampNeg x3)))), .inl (.int (x3 + 1))] [] M
    else none
   else k 4 [.inr (10, 0), .inl (.int x1), .inl (.int x2), .inl (.int (x3 + 1))] [] M
  else none := (rfl)
theorem eX10_reserved_4 {n : Nat} {x1 : Int32} {x2 : Int32} {x3 : Int32} {M : am_M} {res : am_O × am_M} (h : (if (M 10 0 36) ≤ x3 then
   some (.inl (some (.inl (.int x2))), M)
  else if am_in x3 24 then
   if (M 63 0 (Int32.toNatClampNeg x3)) = x1 then
    if am_in x3 24 then
     rX10_reserved n 4 [.inr (10, 0), .inl (.int x1), .inl (.int (x2 + (M 64 0 (Int32.toNatClampNeg x3)))), .inl (.int (x3 + 1))] [] M
    else none
   else rX10_reserved n 4 [.inr (10, 0), .inl (.int x1), .inl (.int x2), .inl (.int (x3 + 1))] [] M
  else none) = some res) : rX10_reserved (n + 100) 4 [.inr (10, 0), .inl (.int x1), .inl (.int x2), .inl (.int x3)] [] M = some res := uX10_reserved ((gX10_reserved_4 (rX10_reserved n) x1 x2 x3 M).trans h)
def rX10_reagent (n pc : Nat) (ls st : List am_V) (M : am_M) : am_R := am_run [fX10_within, fX10_reserved] [] 0 am_X0 pX10_reagent n pc ls st M
def gX10_reagent (F0 F1 : am_F) (k : Nat → List am_V → List am_V → am_M → am_R) (pc : Nat) (ls st : List am_V) (M : am_M) : am_R := am_go [F0, F1] [] 0 am_X0 pX10_reagent [7, 16, 26, 56] k 100 pc ls st M
theorem uX10_reagent {n pc : Nat} {ls st : List am_V} {M : am_M} {res : am_O × am_M} (h : gX10_reagent fX10_within fX10_reserved (rX10_reagent n) pc ls st M = some res) : rX10_reagent (n + 100) pc ls st M = some res := am_go_ok h
theorem eX10_reagent (x1 : Int32) (x2 : Int32) (x3 : Int32) (x4 : Int32) (M : am_M) : fX10_reagent [.inr (10, 0), .inl (.int x1), .inl (.int x2), .inl (.int x3), .inl (.int x4)] M = rX10_reagent 100000 0 [.inr (10, 0), .inl (.int x1), .inl (.int x2), .inl (.int x3), .inl (.int x4), am_D] [] M := am_meth_eq rfl rfl
set_option maxRecDepth 20000 in
theorem gX10_reagent_0 (F0 F1 : am_F) (k : Nat → List am_V → List am_V → am_M → am_R) (x1 : Int32) (x2 : Int32) (x3 : Int32) (x4 : Int32) (M : am_M) : gX10_reagent F0 F1 k 0 [.inr (10, 0), .inl (.int x1), .inl (.int x2), .inl (.int x3), .inl (.int x4), am_D] [] M =
  am_ret [] 4 [] (k 7 [.inr (10, 0), .inl (.int x1), .inl (.int x2), .inl (.int x3), .inl (.int x4), am_D]) (F0 [.inl (.int x1), .inl (.int 0), .inl (.int 7)] M) := (rfl)
theorem eX10_reagent_0 {n : Nat} {x1 : Int32} {x2 : Int32} {x3 : Int32} {x4 : Int32} {M : am_M} {res : am_O × am_M} (h : (am_ret [] 4 [] (rX10_reagent n 7 [.inr (10, 0), .inl (.int x1), .inl (.int x2), .inl (.int x3), .inl (.int x4), am_D]) (fX10_within [.inl (.int x1), .inl (.int 0), .inl (.int 7)] M)) = some res) : rX10_reagent (n + 100) 0 [.inr (10, 0), .inl (.int x1), .inl (.int x2), .inl (.int x3), .inl (.int x4), am_D] [] M = some res := uX10_reagent ((gX10_reagent_0 fX10_within fX10_reserved (rX10_reagent n) x1 x2 x3 x4 M).trans h)
set_option maxRecDepth 20000 in
theorem gX10_reagent_7 (F0 F1 : am_F) (k : Nat → List am_V → List am_V → am_M → am_R) (x1 : Int32) (x2 : Int32) (x3 : Int32) (x4 : Int32) (y0 : Int32) (M : am_M) : gX10_reagent F0 F1 k 7 [.inr (10, 0), .inl (.int x1), .inl (.int x2), .inl (.int x3), .inl (.int x4), am_D] [.inl (.int y0)] M =
  if y0 = 0 then
   some (.inl none, (am_put M 10 0 45 1))
  else am_ret [] 13 [] (k 16 [.inr (10, 0), .inl (.int x1), .inl (.int x2), .inl (.int x3), .inl (.int x4), am_D]) (F0 [.inl (.int x2), .inl (.int 0), .inl (.int 5)] M) := (rfl)
theorem eX10_reagent_7 {n : Nat} {x1 : Int32} {x2 : Int32} {x3 : Int32} {x4 : Int32} {y0 : Int32} {M : am_M} {res : am_O × am_M} (h : (if y0 = 0 then
   some (.inl none, (am_put M 10 0 45 1))
  else am_ret [] 13 [] (rX10_reagent n 16 [.inr (10, 0), .inl (.int x1), .inl (.int x2), .inl (.int x3), .inl (.int x4), am_D]) (fX10_within [.inl (.int x2), .inl (.int 0), .inl (.int 5)] M)) = some res) : rX10_reagent (n + 100) 7 [.inr (10, 0), .inl (.int x1), .inl (.int x2), .inl (.int x3), .inl (.int x4), am_D] [.inl (.int y0)] M = some res := uX10_reagent ((gX10_reagent_7 fX10_within fX10_reserved (rX10_reagent n) x1 x2 x3 x4 y0 M).trans h)
set_option maxRecDepth 20000 in
theorem gX10_reagent_16 (F0 F1 : am_F) (k : Nat → List am_V → List am_V → am_M → am_R) (x1 : Int32) (x2 : Int32) (x3 : Int32) (x4 : Int32) (y0 : Int32) (M : am_M) : gX10_reagent F0 F1 k 16 [.inr (10, 0), .inl (.int x1), .inl (.int x2), .inl (.int x3), .inl (.int x4), am_D] [.inl (.int y0)] M =
  if y0 = 0 then
   some (.inl none, (am_put M 10 0 45 1))
  else am_ret [] 23 [] (k 26 [.inr (10, 0), .inl (.int x1), .inl (.int x2), .inl (.int x3), .inl (.int x4), am_D]) (F0 [.inl (.int x3), .inl (.int 0), .inl (.int 100000)] M) := (rfl)
theorem eX10_reagent_16 {n : Nat} {x1 : Int32} {x2 : Int32} {x3 : Int32} {x4 : Int32} {y0 : Int32} {M : am_M} {res : am_O × am_M} (h : (if y0 = 0 then
   some (.inl none, (am_put M 10 0 45 1))
  else am_ret [] 23 [] (rX10_reagent n 26 [.inr (10, 0), .inl (.int x1), .inl (.int x2), .inl (.int x3), .inl (.int x4), am_D]) (fX10_within [.inl (.int x3), .inl (.int 0), .inl (.int 100000)] M)) = some res) : rX10_reagent (n + 100) 16 [.inr (10, 0), .inl (.int x1), .inl (.int x2), .inl (.int x3), .inl (.int x4), am_D] [.inl (.int y0)] M = some res := uX10_reagent ((gX10_reagent_16 fX10_within fX10_reserved (rX10_reagent n) x1 x2 x3 x4 y0 M).trans h)
set_option maxRecDepth 20000 in
theorem gX10_reagent_26 (F0 F1 : am_F) (k : Nat → List am_V → List am_V → am_M → am_R) (x1 : Int32) (x2 : Int32) (x3 : Int32) (x4 : Int32) (y0 : Int32) (M : am_M) : gX10_reagent F0 F1 k 26 [.inr (10, 0), .inl (.int x1), .inl (.int x2), .inl (.int x3), .inl (.int x4), am_D] [.inl (.int y0)] M =
  if y0 = 0 then
   some (.inl none, (am_put M 10 0 45 1))
  else if x4 < 0 then
   some (.inl none, (am_put M 10 0 45 1))
  else am_ret [] 53 [.inr (10, 0)] (k 56 [.inr (10, 0), .inl (.int x1), .inl (.int x2), .inl (.int x3), .inl (.int x4), .inl (.int 1)]) (F1 [.inr (10, 0), .inl (.int x1)] M) := (rfl)
theorem eX10_reagent_26 {n : Nat} {x1 : Int32} {x2 : Int32} {x3 : Int32} {x4 : Int32} {y0 : Int32} {M : am_M} {res : am_O × am_M} (h : (if y0 = 0 then
   some (.inl none, (am_put M 10 0 45 1))
  else if x4 < 0 then
   some (.inl none, (am_put M 10 0 45 1))
  else am_ret [] 53 [.inr (10, 0)] (rX10_reagent n 56 [.inr (10, 0), .inl (.int x1), .inl (.int x2), .inl (.int x3), .inl (.int x4), .inl (.int 1)]) (fX10_reserved [.inr (10, 0), .inl (.int x1)] M)) = some res) : rX10_reagent (n + 100) 26 [.inr (10, 0), .inl (.int x1), .inl (.int x2), .inl (.int x3), .inl (.int x4), am_D] [.inl (.int y0)] M = some res := uX10_reagent ((gX10_reagent_26 fX10_within fX10_reserved (rX10_reagent n) x1 x2 x3 x4 y0 M).trans h)
set_option maxRecDepth 20000 in
theorem gX10_reagent_56 (F0 F1 : am_F) (k : Nat → List am_V → List am_V → am_M → am_R) (x1 : Int32) (x2 : Int32) (x3 : Int32) (x4 : Int32) (x5 : Int32) (y0 : Int32) (M : am_M) : gX10_reagent F0 F1 k 56 [.inr (10, 0), .inl (.int x1), .inl (.int x2), .inl (.int x3), .inl (.int x4), .inl (.int x5)] [.inl (.int y0), .inr (10, 0)] M =
  if y0 ≤ 0 then
   if am_in x1 8 then
    if am_in x1 8 then
     if am_in x1 8 then
      some (.inl none, (am_put (am_put (am_put (am_put M 10 0 45 0) 40 0 (Int32.toNatClampNeg x1) x2) 41 0 (Int32.toNatClampNeg x1) x3) 42 0 (Int32.toNatClampNeg x1) x4))
     else none
    else none
   else none
  else some (.inl none, (am_put M 10 0 45 2)) := (rfl)
theorem eX10_reagent_56 {n : Nat} {x1 : Int32} {x2 : Int32} {x3 : Int32} {x4 : Int32} {x5 : Int32} {y0 : Int32} {M : am_M} {res : am_O × am_M} (h : (if y0 ≤ 0 then
   if am_in x1 8 then
    if am_in x1 8 then
     if am_in x1 8 then
      some (.inl none, (am_put (am_put (am_put (am_put M 10 0 45 0) 40 0 (Int32.toNatClampNeg x1) x2) 41 0 (Int32.toNatClampNeg x1) x3) 42 0 (Int32.toNatClampNeg x1) x4))
     else none
    else none
   else none
  else some (.inl none, (am_put M 10 0 45 2))) = some res) : rX10_reagent (n + 100) 56 [.inr (10, 0), .inl (.int x1), .inl (.int x2), .inl (.int x3), .inl (.int x4), .inl (.int x5)] [.inl (.int y0), .inr (10, 0)] M = some res := uX10_reagent ((gX10_reagent_56 fX10_within fX10_reserved (rX10_reagent n) x1 x2 x3 x4 x5 y0 M).trans h)
def rX10_forbid (n pc : Nat) (ls st : List am_V) (M : am_M) : am_R := am_run [fX10_within] [] 2 am_X0 pX10_forbid n pc ls st M
def gX10_forbid (F0 : am_F) (k : Nat → List am_V → List am_V → am_M → am_R) (pc : Nat) (ls st : List am_V) (M : am_M) : am_R := am_go [F0] [] 2 am_X0 pX10_forbid [7, 16, 46, 56, 76] k 100 pc ls st M
theorem uX10_forbid {n pc : Nat} {ls st : List am_V} {M : am_M} {res : am_O × am_M} (h : gX10_forbid fX10_within (rX10_forbid n) pc ls st M = some res) : rX10_forbid (n + 100) pc ls st M = some res := am_go_ok h
theorem eX10_forbid (x1 : Int32) (x2 : Int32) (M : am_M) : fX10_forbid [.inr (10, 0), .inl (.int x1), .inl (.int x2)] M = rX10_forbid 100000 0 [.inr (10, 0), .inl (.int x1), .inl (.int x2)] [] M := am_meth_eq rfl rfl
set_option maxRecDepth 20000 in
theorem gX10_forbid_0 (F0 : am_F) (k : Nat → List am_V → List am_V → am_M → am_R) (x1 : Int32) (x2 : Int32) (M : am_M) : gX10_forbid F0 k 0 [.inr (10, 0), .inl (.int x1), .inl (.int x2)] [] M =
  am_ret [] 4 [.inr (10, 0)] (k 7 [.inr (10, 0), .inl (.int x1), .inl (.int x2)]) (F0 [.inl (.int x1), .inl (.int 0), .inl (.int 5)] M) := (rfl)
theorem eX10_forbid_0 {n : Nat} {x1 : Int32} {x2 : Int32} {M : am_M} {res : am_O × am_M} (h : (am_ret [] 4 [.inr (10, 0)] (rX10_forbid n 7 [.inr (10, 0), .inl (.int x1), .inl (.int x2)]) (fX10_within [.inl (.int x1), .inl (.int 0), .inl (.int 5)] M)) = some res) : rX10_forbid (n + 100) 0 [.inr (10, 0), .inl (.int x1), .inl (.int x2)] [] M = some res := uX10_forbid ((gX10_forbid_0 fX10_within (rX10_forbid n) x1 x2 M).trans h)
set_option maxRecDepth 20000 in
theorem gX10_forbid_7 (F0 : am_F) (k : Nat → List am_V → List am_V → am_M → am_R) (x1 : Int32) (x2 : Int32) (y0 : Int32) (M : am_M) : gX10_forbid F0 k 7 [.inr (10, 0), .inl (.int x1), .inl (.int x2)] [.inl (.int y0), .inr (10, 0)] M =
  if y0 = 0 then
   some (.inl (some (.inl (.int 0))), (am_put M 10 0 45 1))
  else am_ret [] 13 [.inr (10, 0)] (k 16 [.inr (10, 0), .inl (.int x1), .inl (.int x2)]) (F0 [.inl (.int x2), .inl (.int 0), .inl (.int 5)] M) := (rfl)
theorem eX10_forbid_7 {n : Nat} {x1 : Int32} {x2 : Int32} {y0 : Int32} {M : am_M} {res : am_O × am_M} (h : (if y0 = 0 then
   some (.inl (some (.inl (.int 0))), (am_put M 10 0 45 1))
  else am_ret [] 13 [.inr (10, 0)] (rX10_forbid n 16 [.inr (10, 0), .inl (.int x1), .inl (.int x2)]) (fX10_within [.inl (.int x2), .inl (.int 0), .inl (.int 5)] M)) = some res) : rX10_forbid (n + 100) 7 [.inr (10, 0), .inl (.int x1), .inl (.int x2)] [.inl (.int y0), .inr (10, 0)] M = some res := uX10_forbid ((gX10_forbid_7 fX10_within (rX10_forbid n) x1 x2 y0 M).trans h)
set_option maxRecDepth 20000 in
theorem gX10_forbid_16 (F0 : am_F) (k : Nat → List am_V → List am_V → am_M → am_R) (x1 : Int32) (x2 : Int32) (y0 : Int32) (M : am_M) : gX10_forbid F0 k 16 [.inr (10, 0), .inl (.int x1), .inl (.int x2)] [.inl (.int y0), .inr (10, 0)] M =
  if y0 = 0 then
   some (.inl (some (.inl (.int 0))), (am_put M 10 0 45 1))
  else k 46 [.inr (10, 0), .inl (.int x1), .inl (.int x2)] [.inl (.int ((6 * x1) + x2)), .inr (43, 0)] (am_put M 10 0 45 0) := (rfl)
theorem eX10_forbid_16 {n : Nat} {x1 : Int32} {x2 : Int32} {y0 : Int32} {M : am_M} {res : am_O × am_M} (h : (if y0 = 0 then
   some (.inl (some (.inl (.int 0))), (am_put M 10 0 45 1))
  else rX10_forbid n 46 [.inr (10, 0), .inl (.int x1), .inl (.int x2)] [.inl (.int ((6 * x1) + x2)), .inr (43, 0)] (am_put M 10 0 45 0)) = some res) : rX10_forbid (n + 100) 16 [.inr (10, 0), .inl (.int x1), .inl (.int x2)] [.inl (.int y0), .inr (10, 0)] M = some res := uX10_forbid ((gX10_forbid_16 fX10_within (rX10_forbid n) x1 x2 y0 M).trans h)
set_option maxRecDepth 20000 in
theorem gX10_forbid_46 (F0 : am_F) (k : Nat → List am_V → List am_V → am_M → am_R) (x1 : Int32) (x2 : Int32) (y0 : Int32) (M : am_M) : gX10_forbid F0 k 46 [.inr (10, 0), .inl (.int x1), .inl (.int x2)] [.inl (.int y0), .inr (43, 0)] M =
  k 56 [.inr (10, 0), .inl (.int x1), .inl (.int x2)] [.inl (.int ((6 * x1) + x2)), .inr (43, 0), .inl (.int y0), .inr (43, 0)] M := (rfl)
theorem eX10_forbid_46 {n : Nat} {x1 : Int32} {x2 : Int32} {y0 : Int32} {M : am_M} {res : am_O × am_M} (h : (rX10_forbid n 56 [.inr (10, 0), .inl (.int x1), .inl (.int x2)] [.inl (.int ((6 * x1) + x2)), .inr (43, 0), .inl (.int y0), .inr (43, 0)] M) = some res) : rX10_forbid (n + 100) 46 [.inr (10, 0), .inl (.int x1), .inl (.int x2)] [.inl (.int y0), .inr (43, 0)] M = some res := uX10_forbid ((gX10_forbid_46 fX10_within (rX10_forbid n) x1 x2 y0 M).trans h)
set_option maxRecDepth 20000 in
theorem gX10_forbid_56 (F0 : am_F) (k : Nat → List am_V → List am_V → am_M → am_R) (x1 : Int32) (x2 : Int32) (y0 : Int32) (y2 : Int32) (M : am_M) : gX10_forbid F0 k 56 [.inr (10, 0), .inl (.int x1), .inl (.int x2)] [.inl (.int y0), .inr (43, 0), .inl (.int y2), .inr (43, 0)] M =
  if am_in y0 36 then
   if (am_b (M 43 0 (Int32.toNatClampNeg y0))) = 0 then
    if am_in y2 36 ∧ am_b 1 = 1 then
     k 76 [.inr (10, 0), .inl (.int x1), .inl (.int x2)] [.inl (.int ((6 * x1) + x2)), .inr (43, 0)] (am_put M 43 0 (Int32.toNatClampNeg y2) 1)
    else none
   else if am_in y2 36 ∧ am_b 0 = 0 then
    k 76 [.inr (10, 0), .inl (.int x1), .inl (.int x2)] [.inl (.int ((6 * x1) + x2)), .inr (43, 0)] (am_put M 43 0 (Int32.toNatClampNeg y2) 0)
   else none
  else none := (rfl)
theorem eX10_forbid_56 {n : Nat} {x1 : Int32} {x2 : Int32} {y0 : Int32} {y2 : Int32} {M : am_M} {res : am_O × am_M} (h : (if am_in y0 36 then
   if (am_b (M 43 0 (Int32.toNatClampNeg y0))) = 0 then
    if am_in y2 36 ∧ am_b 1 = 1 then
     rX10_forbid n 76 [.inr (10, 0), .inl (.int x1), .inl (.int x2)] [.inl (.int ((6 * x1) + x2)), .inr (43, 0)] (am_put M 43 0 (Int32.toNatClampNeg y2) 1)
    else none
   else if am_in y2 36 ∧ am_b 0 = 0 then
    rX10_forbid n 76 [.inr (10, 0), .inl (.int x1), .inl (.int x2)] [.inl (.int ((6 * x1) + x2)), .inr (43, 0)] (am_put M 43 0 (Int32.toNatClampNeg y2) 0)
   else none
  else none) = some res) : rX10_forbid (n + 100) 56 [.inr (10, 0), .inl (.int x1), .inl (.int x2)] [.inl (.int y0), .inr (43, 0), .inl (.int y2), .inr (43, 0)] M = some res := uX10_forbid ((gX10_forbid_56 fX10_within (rX10_forbid n) x1 x2 y0 y2 M).trans h)
set_option maxRecDepth 20000 in
theorem gX10_forbid_76 (F0 : am_F) (k : Nat → List am_V → List am_V → am_M → am_R) (x1 : Int32) (x2 : Int32) (y0 : Int32) (M : am_M) : gX10_forbid F0 k 76 [.inr (10, 0), .inl (.int x1), .inl (.int x2)] [.inl (.int y0), .inr (43, 0)] M =
  if am_in y0 36 then
   Option.map (fun o => (o, M)) (am_fin 2 .ireturn [.inr (10, 0), .inl (.int x1), .inl (.int x2)] [.inl (.int (am_b (M 43 0 (Int32.toNatClampNeg y0))))])
  else none := (rfl)
theorem eX10_forbid_76 {n : Nat} {x1 : Int32} {x2 : Int32} {y0 : Int32} {M : am_M} {res : am_O × am_M} (h : (if am_in y0 36 then
   Option.map (fun o => (o, M)) (am_fin 2 .ireturn [.inr (10, 0), .inl (.int x1), .inl (.int x2)] [.inl (.int (am_b (M 43 0 (Int32.toNatClampNeg y0))))])
  else none) = some res) : rX10_forbid (n + 100) 76 [.inr (10, 0), .inl (.int x1), .inl (.int x2)] [.inl (.int y0), .inr (43, 0)] M = some res := uX10_forbid ((gX10_forbid_76 fX10_within (rX10_forbid n) x1 x2 y0 M).trans h)
def rX10_order (n pc : Nat) (ls st : List am_V) (M : am_M) : am_R := am_run [fX10_within, fX10_isTest] [] 1 am_X0 pX10_order n pc ls st M
def gX10_order (F0 F1 : am_F) (k : Nat → List am_V → List am_V → am_M → am_R) (pc : Nat) (ls st : List am_V) (M : am_M) : am_R := am_go [F0, F1] [] 1 am_X0 pX10_order [8, 15] k 100 pc ls st M
theorem uX10_order {n pc : Nat} {ls st : List am_V} {M : am_M} {res : am_O × am_M} (h : gX10_order fX10_within fX10_isTest (rX10_order n) pc ls st M = some res) : rX10_order (n + 100) pc ls st M = some res := am_go_ok h
theorem eX10_order (x1 : Int32) (x2 : Int32) (x3 : Int32) (M : am_M) : fX10_order [.inr (10, 0), .inl (.int x1), .inl (.int x2), .inl (.int x3)] M = rX10_order 100000 0 [.inr (10, 0), .inl (.int x1), .inl (.int x2), .inl (.int x3)] [] M := am_meth_eq rfl rfl
set_option maxRecDepth 20000 in
theorem gX10_order_0 (F0 F1 : am_F) (k : Nat → List am_V → List am_V → am_M → am_R) (x1 : Int32) (x2 : Int32) (x3 : Int32) (M : am_M) : gX10_order F0 F1 k 0 [.inr (10, 0), .inl (.int x1), .inl (.int x2), .inl (.int x3)] [] M =
  am_ret [] 5 [.inr (10, 0)] (k 8 [.inr (10, 0), .inl (.int x1), .inl (.int x2), .inl (.int x3)]) (F0 [.inl (.int x1), .inl (.int 1), .inl (.int 999999)] M) := (rfl)
theorem eX10_order_0 {n : Nat} {x1 : Int32} {x2 : Int32} {x3 : Int32} {M : am_M} {res : am_O × am_M} (h : (am_ret [] 5 [.inr (10, 0)] (rX10_order n 8 [.inr (10, 0), .inl (.int x1), .inl (.int x2), .inl (.int x3)]) (fX10_within [.inl (.int x1), .inl (.int 1), .inl (.int 999999)] M)) = some res) : rX10_order (n + 100) 0 [.inr (10, 0), .inl (.int x1), .inl (.int x2), .inl (.int x3)] [] M = some res := uX10_order ((gX10_order_0 fX10_within fX10_isTest (rX10_order n) x1 x2 x3 M).trans h)
set_option maxRecDepth 20000 in
theorem gX10_order_8 (F0 F1 : am_F) (k : Nat → List am_V → List am_V → am_M → am_R) (x1 : Int32) (x2 : Int32) (x3 : Int32) (y0 : Int32) (M : am_M) : gX10_order F0 F1 k 8 [.inr (10, 0), .inl (.int x1), .inl (.int x2), .inl (.int x3)] [.inl (.int y0), .inr (10, 0)] M =
  if y0 = 0 then
   some (.inl (some (.inl (.int 0))), (am_put M 10 0 45 1))
  else am_ret [] 12 [.inr (10, 0)] (k 15 [.inr (10, 0), .inl (.int x1), .inl (.int x2), .inl (.int x3)]) (F1 [.inl (.int x2)] M) := (rfl)
theorem eX10_order_8 {n : Nat} {x1 : Int32} {x2 : Int32} {x3 : Int32} {y0 : Int32} {M : am_M} {res : am_O × am_M} (h : (if y0 = 0 then
   some (.inl (some (.inl (.int 0))), (am_put M 10 0 45 1))
  else am_ret [] 12 [.inr (10, 0)] (rX10_order n 15 [.inr (10, 0), .inl (.int x1), .inl (.int x2), .inl (.int x3)]) (fX10_isTest [.inl (.int x2)] M)) = some res) : rX10_order (n + 100) 8 [.inr (10, 0), .inl (.int x1), .inl (.int x2), .inl (.int x3)] [.inl (.int y0), .inr (10, 0)] M = some res := uX10_order ((gX10_order_8 fX10_within fX10_isTest (rX10_order n) x1 x2 x3 y0 M).trans h)
set_option maxRecDepth 20000 in
theorem gX10_order_15 (F0 F1 : am_F) (k : Nat → List am_V → List am_V → am_M → am_R) (x1 : Int32) (x2 : Int32) (x3 : Int32) (y0 : Int32) (M : am_M) : gX10_order F0 F1 k 15 [.inr (10, 0), .inl (.int x1), .inl (.int x2), .inl (.int x3)] [.inl (.int y0), .inr (10, 0)] M =
  if y0 = 0 then
   some (.inl (some (.inl (.int 0))), (am_put M 10 0 45 1))
  else if am_in x2 4 then
   if (am_b (M 31 0 (Int32.toNatClampNeg x2))) = 0 then
    some (.inl (some (.inl (.int 0))), (am_put M 10 0 45 2))
   else if (M 10 0 14) = 40 then
    some (.inl (some (.inl (.int 0))), (am_put M 10 0 45 2))
   else if am_in (M 10 0 14) 40 then
    if am_in (M 10 0 14) 40 then
     if am_in (M 10 0 14) 40 ∧ am_b x3 = x3 then
      if am_in (M 10 0 14) 40 then
       some (.inl (some (.inl (.int (((M 10 0 14) + 1) - 1)))), (am_put (am_put (am_put (am_put (am_put (am_put M 10 0 45 0) 45 0 (Int32.toNatClampNeg (M 10 0 14)) x1) 46 0 (Int32.toNatClampNeg (M 10 0 14)) x2) 47 0 (Int32.toNatClampNeg (M 10 0 14)) x3) 51 0 (Int32.toNatClampNeg (M 10 0 14)) (-1)) 10 0 14 ((M 10 0 14) + 1)))
      else none
     else none
    else none
   else none
  else none := (rfl)
theorem eX10_order_15 {n : Nat} {x1 : Int32} {x2 : Int32} {x3 : Int32} {y0 : Int32} {M : am_M} {res : am_O × am_M} (h : (if y0 = 0 then
   some (.inl (some (.inl (.int 0))), (am_put M 10 0 45 1))
  else if am_in x2 4 then
   if (am_b (M 31 0 (Int32.toNatClampNeg x2))) = 0 then
    some (.inl (some (.inl (.int 0))), (am_put M 10 0 45 2))
   else if (M 10 0 14) = 40 then
    some (.inl (some (.inl (.int 0))), (am_put M 10 0 45 2))
   else if am_in (M 10 0 14) 40 then
    if am_in (M 10 0 14) 40 then
     if am_in (M 10 0 14) 40 ∧ am_b x3 = x3 then
      if am_in (M 10 0 14) 40 then
       some (.inl (some (.inl (.int (((M 10 0 14) + 1) - 1)))), (am_put (am_put (am_put (am_put (am_put (am_put M 10 0 45 0) 45 0 (Int32.toNatClampNeg (M 10 0 14)) x1) 46 0 (Int32.toNatClampNeg (M 10 0 14)) x2) 47 0 (Int32.toNatClampNeg (M 10 0 14)) x3) 51 0 (Int32.toNatClampNeg (M 10 0 14)) (-1)) 10 0 14 ((M 10 0 14) + 1)))
      else none
     else none
    else none
   else none
  else none) = some res) : rX10_order (n + 100) 15 [.inr (10, 0), .inl (.int x1), .inl (.int x2), .inl (.int x3)] [.inl (.int y0), .inr (10, 0)] M = some res := uX10_order ((gX10_order_15 fX10_within fX10_isTest (rX10_order n) x1 x2 x3 y0 M).trans h)
