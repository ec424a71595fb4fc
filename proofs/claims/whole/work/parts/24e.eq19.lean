/-! ===== the runs, piece by piece ===== -/
def rX10_volume (n pc : Nat) (ls st : List am_V) (M : am_M) : am_R := am_run [fX10_within, fX10_reserved] [] 1 am_X0 pX10_volume n pc ls st M
def gX10_volume (k : Nat → List am_V → List am_V → am_M → am_R) (pc : Nat) (ls st : List am_V) (M : am_M) : am_R := am_go [fX10_within, fX10_reserved] [] 1 am_X0 pX10_volume [6, 24, 116] k 100 pc ls st M
theorem uX10_volume {n pc : Nat} {ls st : List am_V} {M : am_M} {res : am_O × am_M} (h : gX10_volume (rX10_volume n) pc ls st M = some res) : rX10_volume (n + 100) pc ls st M = some res := am_go_ok h
theorem eX10_volume (x1 : Int32) (x2 : Int32) (M : am_M) : fX10_volume [.inr (10, 0), .inl (.int x1), .inl (.int x2)] M = rX10_volume 100000 0 [.inr (10, 0), .inl (.int x1), .inl (.int x2), am_D] [] M := am_meth_eq rfl rfl
set_option maxRecDepth 20000 in
theorem gX10_volume_0 (k : Nat → List am_V → List am_V → am_M → am_R) (x1 : Int32) (x2 : Int32) (M : am_M) : gX10_volume k 0 [.inr (10, 0), .inl (.int x1), .inl (.int x2), am_D] [] M =
  am_ret [] 3 [] (k 6 [.inr (10, 0), .inl (.int x1), .inl (.int x2), am_D]) (fX10_within [.inl (.int x1), .inl (.int 0), .inl (.int 2)] M) := (rfl)
theorem eX10_volume_0 {n : Nat} {x1 : Int32} {x2 : Int32} {M : am_M} {res : am_O × am_M} (h : (am_ret [] 3 [] (rX10_volume n 6 [.inr (10, 0), .inl (.int x1), .inl (.int x2), am_D]) (fX10_within [.inl (.int x1), .inl (.int 0), .inl (.int 2)] M)) = some res) : rX10_volume (n + 100) 0 [.inr (10, 0), .inl (.int x1), .inl (.int x2), am_D] [] M = some res := uX10_volume ((gX10_volume_0 (rX10_volume n) x1 x2 M).trans h)
set_option maxRecDepth 20000 in
theorem gX10_volume_6 (k : Nat → List am_V → List am_V → am_M → am_R) (x1 : Int32) (x2 : Int32) (y0 : Int32) (M : am_M) : gX10_volume k 6 [.inr (10, 0), .inl (.int x1), .inl (.int x2), am_D] [.inl (.int y0)] M =
  if y0 = 0 then
   some (.inl (some (.inl (.int 0))), (am_put M 10 0 45 1))
  else if x1 = 0 then
   am_ret [] 21 [] (k 24 [.inr (10, 0), .inl (.int x1), .inl (.int x2), am_D]) (fX10_within [.inl (.int x2), .inl (.int 0), .inl (.int 5)] M)
  else am_ret [] 21 [] (k 24 [.inr (10, 0), .inl (.int x1), .inl (.int x2), am_D]) (fX10_within [.inl (.int x2), .inl (.int 0), .inl (.int 7)] M) := (rfl)
theorem eX10_volume_6 {n : Nat} {x1 : Int32} {x2 : Int32} {y0 : Int32} {M : am_M} {res : am_O × am_M} (h : (if y0 = 0 then
   some (.inl (some (.inl (.int 0))), (am_put M 10 0 45 1))
  else if x1 = 0 then
   am_ret [] 21 [] (rX10_volume n 24 [.inr (10, 0), .inl (.int x1), .inl (.int x2), am_D]) (fX10_within [.inl (.int x2), .inl (.int 0), .inl (.int 5)] M)
  else am_ret [] 21 [] (rX10_volume n 24 [.inr (10, 0), .inl (.int x1), .inl (.int x2), am_D]) (fX10_within [.inl (.int x2), .inl (.int 0), .inl (.int 7)] M)) = some res) : rX10_volume (n + 100) 6 [.inr (10, 0), .inl (.int x1), .inl (.int x2), am_D] [.inl (.int y0)] M = some res := uX10_volume ((gX10_volume_6 (rX10_volume n) x1 x2 y0 M).trans h)
set_option maxRecDepth 20000 in
theorem gX10_volume_24 (k : Nat → List am_V → List am_V → am_M → am_R) (x1 : Int32) (x2 : Int32) (y0 : Int32) (M : am_M) : gX10_volume k 24 [.inr (10, 0), .inl (.int x1), .inl (.int x2), am_D] [.inl (.int y0)] M =
  if y0 = 0 then
   some (.inl (some (.inl (.int 0))), (am_put M 10 0 45 1))
  else if x1 = 0 then
   if am_in x2 6 then
    if (M 37 0 (Int32.toNatClampNeg x2)) = 0 then
     some (.inl (some (.inl (.int 0))), (am_put M 10 0 45 2))
    else if x1 = 0 then
     if am_in x2 6 then
      some (.inl (some (.inl (.int (M 39 0 (Int32.toNatClampNeg x2))))), (am_put M 10 0 45 0))
     else none
    else if x1 = 1 then
     if am_in x2 8 then
      some (.inl (some (.inl (.int (M 41 0 (Int32.toNatClampNeg x2))))), (am_put M 10 0 45 0))
     else none
    else am_ret [] 113 [] (k 116 [.inr (10, 0), .inl (.int x1), .inl (.int x2), .inl (.int 1)]) (fX10_reserved [.inr (10, 0), .inl (.int x2)] (am_put M 10 0 45 0))
   else none
  else if am_in x2 8 then
   if 0 ≤ (M 40 0 (Int32.toNatClampNeg x2)) then
    if x1 = 0 then
     if am_in x2 6 then
      some (.inl (some (.inl (.int (M 39 0 (Int32.toNatClampNeg x2))))), (am_put M 10 0 45 0))
     else none
    else if x1 = 1 then
     if am_in x2 8 then
      some (.inl (some (.inl (.int (M 41 0 (Int32.toNatClampNeg x2))))), (am_put M 10 0 45 0))
     else none
    else am_ret [] 113 [] (k 116 [.inr (10, 0), .inl (.int x1), .inl (.int x2), .inl (.int 1)]) (fX10_reserved [.inr (10, 0), .inl (.int x2)] (am_put M 10 0 45 0))
   else some (.inl (some (.inl (.int 0))), (am_put M 10 0 45 2))
  else none := (rfl)
theorem eX10_volume_24 {n : Nat} {x1 : Int32} {x2 : Int32} {y0 : Int32} {M : am_M} {res : am_O × am_M} (h : (if y0 = 0 then
   some (.inl (some (.inl (.int 0))), (am_put M 10 0 45 1))
  else if x1 = 0 then
   if am_in x2 6 then
    if (M 37 0 (Int32.toNatClampNeg x2)) = 0 then
     some (.inl (some (.inl (.int 0))), (am_put M 10 0 45 2))
    else if x1 = 0 then
     if am_in x2 6 then
      some (.inl (some (.inl (.int (M 39 0 (Int32.toNatClampNeg x2))))), (am_put M 10 0 45 0))
     else none
    else if x1 = 1 then
     if am_in x2 8 then
      some (.inl (some (.inl (.int (M 41 0 (Int32.toNatClampNeg x2))))), (am_put M 10 0 45 0))
     else none
    else am_ret [] 113 [] (rX10_volume n 116 [.inr (10, 0), .inl (.int x1), .inl (.int x2), .inl (.int 1)]) (fX10_reserved [.inr (10, 0), .inl (.int x2)] (am_put M 10 0 45 0))
   else none
  else if am_in x2 8 then
   if 0 ≤ (M 40 0 (Int32.toNatClampNeg x2)) then
    if x1 = 0 then
     if am_in x2 6 then
      some (.inl (some (.inl (.int (M 39 0 (Int32.toNatClampNeg x2))))), (am_put M 10 0 45 0))
     else none
    else if x1 = 1 then
     if am_in x2 8 then
      some (.inl (some (.inl (.int (M 41 0 (Int32.toNatClampNeg x2))))), (am_put M 10 0 45 0))
     else none
    else am_ret [] 113 [] (rX10_volume n 116 [.inr (10, 0), .inl (.int x1), .inl (.int x2), .inl (.int 1)]) (fX10_reserved [.inr (10, 0), .inl (.int x2)] (am_put M 10 0 45 0))
   else some (.inl (some (.inl (.int 0))), (am_put M 10 0 45 2))
  else none) = some res) : rX10_volume (n + 100) 24 [.inr (10, 0), .inl (.int x1), .inl (.int x2), am_D] [.inl (.int y0)] M = some res := uX10_volume ((gX10_volume_24 (rX10_volume n) x1 x2 y0 M).trans h)
set_option maxRecDepth 20000 in
theorem gX10_volume_116 (k : Nat → List am_V → List am_V → am_M → am_R) (x1 : Int32) (x2 : Int32) (x3 : Int32) (y0 : Int32) (M : am_M) : gX10_volume k 116 [.inr (10, 0), .inl (.int x1), .inl (.int x2), .inl (.int x3)] [.inl (.int y0)] M =
  some (.inl (some (.inl (.int y0))), M) := (rfl)
theorem eX10_volume_116 {n : Nat} {x1 : Int32} {x2 : Int32} {x3 : Int32} {y0 : Int32} {M : am_M} {res : am_O × am_M} (h : (some (.inl (some (.inl (.int y0))), M)) = some res) : rX10_volume (n + 100) 116 [.inr (10, 0), .inl (.int x1), .inl (.int x2), .inl (.int x3)] [.inl (.int y0)] M = some res := uX10_volume ((gX10_volume_116 (rX10_volume n) x1 x2 x3 y0 M).trans h)
def rX10_trend (n pc : Nat) (ls st : List am_V) (M : am_M) : am_R := am_run [fX10_isTest] [] 1 am_X0 pX10_trend n pc ls st M
def gX10_trend (k : Nat → List am_V → List am_V → am_M → am_R) (pc : Nat) (ls st : List am_V) (M : am_M) : am_R := am_go [fX10_isTest] [] 1 am_X0 pX10_trend [5] k 100 pc ls st M
theorem uX10_trend {n pc : Nat} {ls st : List am_V} {M : am_M} {res : am_O × am_M} (h : gX10_trend (rX10_trend n) pc ls st M = some res) : rX10_trend (n + 100) pc ls st M = some res := am_go_ok h
theorem eX10_trend (x1 : Int32) (x2 : Int32) (M : am_M) : fX10_trend [.inr (10, 0), .inl (.int x1), .inl (.int x2)] M = rX10_trend 100000 0 [.inr (10, 0), .inl (.int x1), .inl (.int x2)] [] M := am_meth_eq rfl rfl
set_option maxRecDepth 20000 in
theorem gX10_trend_0 (k : Nat → List am_V → List am_V → am_M → am_R) (x1 : Int32) (x2 : Int32) (M : am_M) : gX10_trend k 0 [.inr (10, 0), .inl (.int x1), .inl (.int x2)] [] M =
  am_ret [] 2 [.inr (10, 0)] (k 5 [.inr (10, 0), .inl (.int x1), .inl (.int x2)]) (fX10_isTest [.inl (.int x1)] M) := (rfl)
theorem eX10_trend_0 {n : Nat} {x1 : Int32} {x2 : Int32} {M : am_M} {res : am_O × am_M} (h : (am_ret [] 2 [.inr (10, 0)] (rX10_trend n 5 [.inr (10, 0), .inl (.int x1), .inl (.int x2)]) (fX10_isTest [.inl (.int x1)] M)) = some res) : rX10_trend (n + 100) 0 [.inr (10, 0), .inl (.int x1), .inl (.int x2)] [] M = some res := uX10_trend ((gX10_trend_0 (rX10_trend n) x1 x2 M).trans h)
set_option maxRecDepth 20000 in
theorem gX10_trend_5 (k : Nat → List am_V → List am_V → am_M → am_R) (x1 : Int32) (x2 : Int32) (y0 : Int32) (M : am_M) : gX10_trend k 5 [.inr (10, 0), .inl (.int x1), .inl (.int x2)] [.inl (.int y0), .inr (10, 0)] M =
  if y0 = 0 then
   some (.inl (some (.inl (.int 0))), (am_put M 10 0 45 1))
  else if x2 < 0 then
   some (.inl (some (.inl (.int 0))), (am_put M 10 0 45 2))
  else if am_in x1 4 then
   if x2 < (M 36 0 (Int32.toNatClampNeg x1)) then
    if am_in x1 4 then
     if am_in ((((10 * x1) + (M 36 0 (Int32.toNatClampNeg x1))) - 1) - x2) 40 then
      some (.inl (some (.inl (.int (M 35 0 (Int32.toNatClampNeg ((((10 * x1) + (M 36 0 (Int32.toNatClampNeg x1))) - 1) - x2)))))), (am_put M 10 0 45 0))
     else none
    else none
   else some (.inl (some (.inl (.int 0))), (am_put M 10 0 45 2))
  else none := (rfl)
theorem eX10_trend_5 {n : Nat} {x1 : Int32} {x2 : Int32} {y0 : Int32} {M : am_M} {res : am_O × am_M} (h : (if y0 = 0 then
   some (.inl (some (.inl (.int 0))), (am_put M 10 0 45 1))
  else if x2 < 0 then
   some (.inl (some (.inl (.int 0))), (am_put M 10 0 45 2))
  else if am_in x1 4 then
   if x2 < (M 36 0 (Int32.toNatClampNeg x1)) then
    if am_in x1 4 then
     if am_in ((((10 * x1) + (M 36 0 (Int32.toNatClampNeg x1))) - 1) - x2) 40 then
      some (.inl (some (.inl (.int (M 35 0 (Int32.toNatClampNeg ((((10 * x1) + (M 36 0 (Int32.toNatClampNeg x1))) - 1) - x2)))))), (am_put M 10 0 45 0))
     else none
    else none
   else some (.inl (some (.inl (.int 0))), (am_put M 10 0 45 2))
  else none) = some res) : rX10_trend (n + 100) 5 [.inr (10, 0), .inl (.int x1), .inl (.int x2)] [.inl (.int y0), .inr (10, 0)] M = some res := uX10_trend ((gX10_trend_5 (rX10_trend n) x1 x2 y0 M).trans h)
def rX10_above (n pc : Nat) (ls st : List am_V) (M : am_M) : am_R := am_run [fX10_of] [] 3 am_X0 pX10_above n pc ls st M
def gX10_above (k : Nat → List am_V → List am_V → am_M → am_R) (pc : Nat) (ls st : List am_V) (M : am_M) : am_R := am_go [fX10_of] [] 3 am_X0 pX10_above [28] k 100 pc ls st M
theorem uX10_above {n pc : Nat} {ls st : List am_V} {M : am_M} {res : am_O × am_M} (h : gX10_above (rX10_above n) pc ls st M = some res) : rX10_above (n + 100) pc ls st M = some res := am_go_ok h
theorem eX10_above (x1 : Int32) (x2 : Int32) (M : am_M) : fX10_above [.inr (10, 0), .inl (.int x1), .inl (.int x2)] M = rX10_above 100000 0 [.inr (10, 0), .inl (.int x1), .inl (.int x2)] [] M := am_meth_eq rfl rfl
set_option maxRecDepth 20000 in
theorem gX10_above_0 (k : Nat → List am_V → List am_V → am_M → am_R) (x1 : Int32) (x2 : Int32) (M : am_M) : gX10_above k 0 [.inr (10, 0), .inl (.int x1), .inl (.int x2)] [] M =
  if am_in x1 4 then
   if am_in ((((10 * x1) + (M 36 0 (Int32.toNatClampNeg x1))) - 1) - x2) 40 then
    am_ret [] 25 [.inl (.long (Int32.toInt64 (M 35 0 (Int32.toNatClampNeg ((((10 * x1) + (M 36 0 (Int32.toNatClampNeg x1))) - 1) - x2)))))] (k 28 [.inr (10, 0), .inl (.int x1), .inl (.int x2)]) (fX10_of [.inr (10, 0), .inl (.int x1), .inl (.int 14)] M)
   else none
  else none := (rfl)
theorem eX10_above_0 {n : Nat} {x1 : Int32} {x2 : Int32} {M : am_M} {res : am_O × am_M} (h : (if am_in x1 4 then
   if am_in ((((10 * x1) + (M 36 0 (Int32.toNatClampNeg x1))) - 1) - x2) 40 then
    am_ret [] 25 [.inl (.long (Int32.toInt64 (M 35 0 (Int32.toNatClampNeg ((((10 * x1) + (M 36 0 (Int32.toNatClampNeg x1))) - 1) - x2)))))] (rX10_above n 28 [.inr (10, 0), .inl (.int x1), .inl (.int x2)]) (fX10_of [.inr (10, 0), .inl (.int x1), .inl (.int 14)] M)
   else none
  else none) = some res) : rX10_above (n + 100) 0 [.inr (10, 0), .inl (.int x1), .inl (.int x2)] [] M = some res := uX10_above ((gX10_above_0 (rX10_above n) x1 x2 M).trans h)
set_option maxRecDepth 20000 in
theorem gX10_above_28 (k : Nat → List am_V → List am_V → am_M → am_R) (x1 : Int32) (x2 : Int32) (y0 : Int32) (y1 : Int64) (M : am_M) : gX10_above k 28 [.inr (10, 0), .inl (.int x1), .inl (.int x2)] [.inl (.int y0), .inl (.long y1)] M =
  some (.inl (some (.inl (.long (y1 - (Int32.toInt64 y0))))), M) := (rfl)
theorem eX10_above_28 {n : Nat} {x1 : Int32} {x2 : Int32} {y0 : Int32} {y1 : Int64} {M : am_M} {res : am_O × am_M} (h : (some (.inl (some (.inl (.long (y1 - (Int32.toInt64 y0))))), M)) = some res) : rX10_above (n + 100) 28 [.inr (10, 0), .inl (.int x1), .inl (.int x2)] [.inl (.int y0), .inl (.long y1)] M = some res := uX10_above ((gX10_above_28 (rX10_above n) x1 x2 y0 y1 M).trans h)
def rX10_rules (n pc : Nat) (ls st : List am_V) (M : am_M) : am_R := am_run [fX10_isTest, fX10_of, fX10_above] [] 1 am_X0 pX10_rules n pc ls st M
def gX10_rules (k : Nat → List am_V → List am_V → am_M → am_R) (pc : Nat) (ls st : List am_V) (M : am_M) : am_R := am_go [fX10_isTest, fX10_of, fX10_above] [] 1 am_X0 pX10_rules [5, 41, 49, 64, 89, 113, 132, 174, 192, 207] k 100 pc ls st M
theorem uX10_rules {n pc : Nat} {ls st : List am_V} {M : am_M} {res : am_O × am_M} (h : gX10_rules (rX10_rules n) pc ls st M = some res) : rX10_rules (n + 100) pc ls st M = some res := am_go_ok h
theorem eX10_rules (x1 : Int32) (M : am_M) : fX10_rules [.inr (10, 0), .inl (.int x1)] M = rX10_rules 100000 0 [.inr (10, 0), .inl (.int x1), am_D, am_D, am_D, am_D, am_D, am_D, am_D, am_D] [] M := am_meth_eq rfl rfl
set_option maxRecDepth 20000 in
theorem gX10_rules_0 (k : Nat → List am_V → List am_V → am_M → am_R) (x1 : Int32) (M : am_M) : gX10_rules k 0 [.inr (10, 0), .inl (.int x1), am_D, am_D, am_D, am_D, am_D, am_D, am_D, am_D] [] M =
  am_ret [] 2 [.inr (10, 0)] (k 5 [.inr (10, 0), .inl (.int x1), am_D, am_D, am_D, am_D, am_D, am_D, am_D, am_D]) (fX10_isTest [.inl (.int x1)] M) := (rfl)
theorem eX10_rules_0 {n : Nat} {x1 : Int32} {M : am_M} {res : am_O × am_M} (h : (am_ret [] 2 [.inr (10, 0)] (rX10_rules n 5 [.inr (10, 0), .inl (.int x1), am_D, am_D, am_D, am_D, am_D, am_D, am_D, am_D]) (fX10_isTest [.inl (.int x1)] M)) = some res) : rX10_rules (n + 100) 0 [.inr (10, 0), .inl (.int x1), am_D, am_D, am_D, am_D, am_D, am_D, am_D, am_D] [] M = some res := uX10_rules ((gX10_rules_0 (rX10_rules n) x1 M).trans h)
set_option maxRecDepth 20000 in
theorem gX10_rules_5 (k : Nat → List am_V → List am_V → am_M → am_R) (x1 : Int32) (y0 : Int32) (M : am_M) : gX10_rules k 5 [.inr (10, 0), .inl (.int x1), am_D, am_D, am_D, am_D, am_D, am_D, am_D, am_D] [.inl (.int y0), .inr (10, 0)] M =
  if y0 = 0 then
   some (.inl (some (.inl (.int 0))), (am_put M 10 0 45 1))
  else if am_in x1 4 then
   if (M 36 0 (Int32.toNatClampNeg x1)) = 0 then
    some (.inl (some (.inl (.int 0))), (am_put M 10 0 45 0))
   else am_ret [] 38 [] (k 41 [.inr (10, 0), .inl (.int x1), am_D, am_D, am_D, am_D, am_D, am_D, am_D, am_D]) (fX10_of [.inr (10, 0), .inl (.int x1), .inl (.int 15)] (am_put M 10 0 45 0))
  else none := (rfl)
theorem eX10_rules_5 {n : Nat} {x1 : Int32} {y0 : Int32} {M : am_M} {res : am_O × am_M} (h : (if y0 = 0 then
   some (.inl (some (.inl (.int 0))), (am_put M 10 0 45 1))
  else if am_in x1 4 then
   if (M 36 0 (Int32.toNatClampNeg x1)) = 0 then
    some (.inl (some (.inl (.int 0))), (am_put M 10 0 45 0))
   else am_ret [] 38 [] (rX10_rules n 41 [.inr (10, 0), .inl (.int x1), am_D, am_D, am_D, am_D, am_D, am_D, am_D, am_D]) (fX10_of [.inr (10, 0), .inl (.int x1), .inl (.int 15)] (am_put M 10 0 45 0))
  else none) = some res) : rX10_rules (n + 100) 5 [.inr (10, 0), .inl (.int x1), am_D, am_D, am_D, am_D, am_D, am_D, am_D, am_D] [.inl (.int y0), .inr (10, 0)] M = some res := uX10_rules ((gX10_rules_5 (rX10_rules n) x1 y0 M).trans h)
set_option maxRecDepth 20000 in
theorem gX10_rules_41 (k : Nat → List am_V → List am_V → am_M → am_R) (x1 : Int32) (y0 : Int32) (M : am_M) : gX10_rules k 41 [.inr (10, 0), .inl (.int x1), am_D, am_D, am_D, am_D, am_D, am_D, am_D, am_D] [.inl (.int y0)] M =
  am_ret [] 46 [] (k 49 [.inr (10, 0), .inl (.int x1), .inl (.long (Int32.toInt64 y0)), am_D, am_D, am_D, am_D, am_D, am_D, am_D]) (fX10_above [.inr (10, 0), .inl (.int x1), .inl (.int 0)] M) := (rfl)
theorem eX10_rules_41 {n : Nat} {x1 : Int32} {y0 : Int32} {M : am_M} {res : am_O × am_M} (h : (am_ret [] 46 [] (rX10_rules n 49 [.inr (10, 0), .inl (.int x1), .inl (.long (Int32.toInt64 y0)), am_D, am_D, am_D, am_D, am_D, am_D, am_D]) (fX10_above [.inr (10, 0), .inl (.int x1), .inl (.int 0)] M)) = some res) : rX10_rules (n + 100) 41 [.inr (10, 0), .inl (.int x1), am_D, am_D, am_D, am_D, am_D, am_D, am_D, am_D] [.inl (.int y0)] M = some res := uX10_rules ((gX10_rules_41 (rX10_rules n) x1 y0 M).trans h)
set_option maxRecDepth 20000 in
theorem gX10_rules_49 (k : Nat → List am_V → List am_V → am_M → am_R) (x1 : Int32) (x2 : Int64) (y0 : Int64) (M : am_M) : gX10_rules k 49 [.inr (10, 0), .inl (.int x1), .inl (.long x2), am_D, am_D, am_D, am_D, am_D, am_D, am_D] [.inl (.long y0)] M =
  if 0 < (lg_cmp y0 (3 * x2)) then
   k 89 [.inr (10, 0), .inl (.int x1), .inl (.long x2), am_D, .inl (.int 1), .inl (.int 0), .inl (.int 0), .inl (.int 0), am_D, am_D] [] M
  else am_ret [] 61 [] (k 64 [.inr (10, 0), .inl (.int x1), .inl (.long x2), am_D, am_D, am_D, am_D, am_D, am_D, am_D]) (fX10_above [.inr (10, 0), .inl (.int x1), .inl (.int 0)] M) := (rfl)
theorem eX10_rules_49 {n : Nat} {x1 : Int32} {x2 : Int64} {y0 : Int64} {M : am_M} {res : am_O × am_M} (h : (if 0 < (lg_cmp y0 (3 * x2)) then
   rX10_rules n 89 [.inr (10, 0), .inl (.int x1), .inl (.long x2), am_D, .inl (.int 1), .inl (.int 0), .inl (.int 0), .inl (.int 0), am_D, am_D] [] M
  else am_ret [] 61 [] (rX10_rules n 64 [.inr (10, 0), .inl (.int x1), .inl (.long x2), am_D, am_D, am_D, am_D, am_D, am_D, am_D]) (fX10_above [.inr (10, 0), .inl (.int x1), .inl (.int 0)] M)) = some res) : rX10_rules (n + 100) 49 [.inr (10, 0), .inl (.int x1), .inl (.long x2), am_D, am_D, am_D, am_D, am_D, am_D, am_D] [.inl (.long y0)] M = some res := uX10_rules ((gX10_rules_49 (rX10_rules n) x1 x2 y0 M).trans h)
set_option maxRecDepth 20000 in
theorem gX10_rules_89 (k : Nat → List am_V → List am_V → am_M → am_R) (x1 : Int32) (x2 : Int64) (x4 : Int32) (x5 : Int32) (x6 : Int32) (x7 : Int32) (M : am_M) : gX10_rules k 89 [.inr (10, 0), .inl (.int x1), .inl (.long x2), am_D, .inl (.int x4), .inl (.int x5), .inl (.int x6), .inl (.int x7), am_D, am_D] [] M =
  if 3 ≤ x7 then
   if 2 ≤ x5 then
    k 174 [.inr (10, 0), .inl (.int x1), .inl (.long x2), am_D, .inl (.int (x4 + 2)), .inl (.int x5), .inl (.int x6), .inl (.int 0), .inl (.int 0), .inl (.int 0)] [] M
   else if x6 < 2 then
    k 174 [.inr (10, 0), .inl (.int x1), .inl (.long x2), am_D, .inl (.int x4), .inl (.int x5), .inl (.int x6), .inl (.int 0), .inl (.int 0), .inl (.int 0)] [] M
   else k 174 [.inr (10, 0), .inl (.int x1), .inl (.long x2), am_D, .inl (.int (x4 + 2)), .inl (.int x5), .inl (.int x6), .inl (.int 0), .inl (.int 0), .inl (.int 0)] [] M
  else if am_in x1 4 then
   if (M 36 0 (Int32.toNatClampNeg x1)) ≤ x7 then
    if 2 ≤ x5 then
     k 174 [.inr (10, 0), .inl (.int x1), .inl (.long x2), am_D, .inl (.int (x4 + 2)), .inl (.int x5), .inl (.int x6), .inl (.int 0), .inl (.int 0), .inl (.int 0)] [] M
    else if x6 < 2 then
     k 174 [.inr (10, 0), .inl (.int x1), .inl (.long x2), am_D, .inl (.int x4), .inl (.int x5), .inl (.int x6), .inl (.int 0), .inl (.int 0), .inl (.int 0)] [] M
    else k 174 [.inr (10, 0), .inl (.int x1), .inl (.long x2), am_D, .inl (.int (x4 + 2)), .inl (.int x5), .inl (.int x6), .inl (.int 0), .inl (.int 0), .inl (.int 0)] [] M
   else am_ret [] 110 [] (k 113 [.inr (10, 0), .inl (.int x1), .inl (.long x2), am_D, .inl (.int x4), .inl (.int x5), .inl (.int x6), .inl (.int x7), am_D, am_D]) (fX10_above [.inr (10, 0), .inl (.int x1), .inl (.int x7)] M)
  else none := (rfl)
theorem eX10_rules_89 {n : Nat} {x1 : Int32} {x2 : Int64} {x4 : Int32} {x5 : Int32} {x6 : Int32} {x7 : Int32} {M : am_M} {res : am_O × am_M} (h : (if 3 ≤ x7 then
   if 2 ≤ x5 then
    rX10_rules n 174 [.inr (10, 0), .inl (.int x1), .inl (.long x2), am_D, .inl (.int (x4 + 2)), .inl (.int x5), .inl (.int x6), .inl (.int 0), .inl (.int 0), .inl (.int 0)] [] M
   else if x6 < 2 then
    rX10_rules n 174 [.inr (10, 0), .inl (.int x1), .inl (.long x2), am_D, .inl (.int x4), .inl (.int x5), .inl (.int x6), .inl (.int 0), .inl (.int 0), .inl (.int 0)] [] M
   else rX10_rules n 174 [.inr (10, 0), .inl (.int x1), .inl (.long x2), am_D, .inl (.int (x4 + 2)), .inl (.int x5), .inl (.int x6), .inl (.int 0), .inl (.int 0), .inl (.int 0)] [] M
  else if am_in x1 4 then
   if (M 36 0 (Int32.toNatClampNeg x1)) ≤ x7 then
    if 2 ≤ x5 then
     rX10_rules n 174 [.inr (10, 0), .inl (.int x1), .inl (.long x2), am_D, .inl (.int (x4 + 2)), .inl (.int x5), .inl (.int x6), .inl (.int 0), .inl (.int 0), .inl (.int 0)] [] M
    else if x6 < 2 then
     rX10_rules n 174 [.inr (10, 0), .inl (.int x1), .inl (.long x2), am_D, .inl (.int x4), .inl (.int x5), .inl (.int x6), .inl (.int 0), .inl (.int 0), .inl (.int 0)] [] M
    else rX10_rules n 174 [.inr (10, 0), .inl (.int x1), .inl (.long x2), am_D, .inl (.int (x4 + 2)), .inl (.int x5), .inl (.int x6), .inl (.int 0), .inl (.int 0), .inl (.int 0)] [] M
   else am_ret [] 110 [] (rX10_rules n 113 [.inr (10, 0), .inl (.int x1), .inl (.long x2), am_D, .inl (.int x4), .inl (.int x5), .inl (.int x6), .inl (.int x7), am_D, am_D]) (fX10_above [.inr (10, 0), .inl (.int x1), .inl (.int x7)] M)
  else none) = some res) : rX10_rules (n + 100) 89 [.inr (10, 0), .inl (.int x1), .inl (.long x2), am_D, .inl (.int x4), .inl (.int x5), .inl (.int x6), .inl (.int x7), am_D, am_D] [] M = some res := uX10_rules ((gX10_rules_89 (rX10_rules n) x1 x2 x4 x5 x6 x7 M).trans h)
set_option maxRecDepth 20000 in
theorem gX10_rules_64 (k : Nat → List am_V → List am_V → am_M → am_R) (x1 : Int32) (x2 : Int64) (y0 : Int64) (M : am_M) : gX10_rules k 64 [.inr (10, 0), .inl (.int x1), .inl (.long x2), am_D, am_D, am_D, am_D, am_D, am_D, am_D] [.inl (.long y0)] M =
  if 0 ≤ (lg_cmp y0 ((-3) * x2)) then
   k 89 [.inr (10, 0), .inl (.int x1), .inl (.long x2), am_D, .inl (.int 0), .inl (.int 0), .inl (.int 0), .inl (.int 0), am_D, am_D] [] M
  else k 89 [.inr (10, 0), .inl (.int x1), .inl (.long x2), am_D, .inl (.int 1), .inl (.int 0), .inl (.int 0), .inl (.int 0), am_D, am_D] [] M := (rfl)
theorem eX10_rules_64 {n : Nat} {x1 : Int32} {x2 : Int64} {y0 : Int64} {M : am_M} {res : am_O × am_M} (h : (if 0 ≤ (lg_cmp y0 ((-3) * x2)) then
   rX10_rules n 89 [.inr (10, 0), .inl (.int x1), .inl (.long x2), am_D, .inl (.int 0), .inl (.int 0), .inl (.int 0), .inl (.int 0), am_D, am_D] [] M
  else rX10_rules n 89 [.inr (10, 0), .inl (.int x1), .inl (.long x2), am_D, .inl (.int 1), .inl (.int 0), .inl (.int 0), .inl (.int 0), am_D, am_D] [] M) = some res) : rX10_rules (n + 100) 64 [.inr (10, 0), .inl (.int x1), .inl (.long x2), am_D, am_D, am_D, am_D, am_D, am_D, am_D] [.inl (.long y0)] M = some res := uX10_rules ((gX10_rules_64 (rX10_rules n) x1 x2 y0 M).trans h)
set_option maxRecDepth 20000 in
theorem gX10_rules_174 (k : Nat → List am_V → List am_V → am_M → am_R) (x1 : Int32) (x2 : Int64) (x4 : Int32) (x5 : Int32) (x6 : Int32) (x7 : Int32) (x8 : Int32) (x9 : Int32) (M : am_M) : gX10_rules k 174 [.inr (10, 0), .inl (.int x1), .inl (.long x2), am_D, .inl (.int x4), .inl (.int x5), .inl (.int x6), .inl (.int x7), .inl (.int x8), .inl (.int x9)] [] M =
  if am_in x1 4 then
   if (M 36 0 (Int32.toNatClampNeg x1)) ≤ x9 then
    if x7 = 10 then
     some (.inl (some (.inl (.int (x4 + 4)))), M)
    else if x8 = 10 then
     some (.inl (some (.inl (.int (x4 + 4)))), M)
    else some (.inl (some (.inl (.int x4))), M)
   else am_ret [] 189 [] (k 192 [.inr (10, 0), .inl (.int x1), .inl (.long x2), am_D, .inl (.int x4), .inl (.int x5), .inl (.int x6), .inl (.int x7), .inl (.int x8), .inl (.int x9)]) (fX10_above [.inr (10, 0), .inl (.int x1), .inl (.int x9)] M)
  else none := (rfl)
theorem eX10_rules_174 {n : Nat} {x1 : Int32} {x2 : Int64} {x4 : Int32} {x5 : Int32} {x6 : Int32} {x7 : Int32} {x8 : Int32} {x9 : Int32} {M : am_M} {res : am_O × am_M} (h : (if am_in x1 4 then
   if (M 36 0 (Int32.toNatClampNeg x1)) ≤ x9 then
    if x7 = 10 then
     some (.inl (some (.inl (.int (x4 + 4)))), M)
    else if x8 = 10 then
     some (.inl (some (.inl (.int (x4 + 4)))), M)
    else some (.inl (some (.inl (.int x4))), M)
   else am_ret [] 189 [] (rX10_rules n 192 [.inr (10, 0), .inl (.int x1), .inl (.long x2), am_D, .inl (.int x4), .inl (.int x5), .inl (.int x6), .inl (.int x7), .inl (.int x8), .inl (.int x9)]) (fX10_above [.inr (10, 0), .inl (.int x1), .inl (.int x9)] M)
  else none) = some res) : rX10_rules (n + 100) 174 [.inr (10, 0), .inl (.int x1), .inl (.long x2), am_D, .inl (.int x4), .inl (.int x5), .inl (.int x6), .inl (.int x7), .inl (.int x8), .inl (.int x9)] [] M = some res := uX10_rules ((gX10_rules_174 (rX10_rules n) x1 x2 x4 x5 x6 x7 x8 x9 M).trans h)
set_option maxRecDepth 20000 in
theorem gX10_rules_113 (k : Nat → List am_V → List am_V → am_M → am_R) (x1 : Int32) (x2 : Int64) (x4 : Int32) (x5 : Int32) (x6 : Int32) (x7 : Int32) (y0 : Int64) (M : am_M) : gX10_rules k 113 [.inr (10, 0), .inl (.int x1), .inl (.long x2), am_D, .inl (.int x4), .inl (.int x5), .inl (.int x6), .inl (.int x7), am_D, am_D] [.inl (.long y0)] M =
  if (lg_cmp y0 (2 * x2)) ≤ 0 then
   am_ret [] 129 [] (k 132 [.inr (10, 0), .inl (.int x1), .inl (.long x2), am_D, .inl (.int x4), .inl (.int x5), .inl (.int x6), .inl (.int x7), am_D, am_D]) (fX10_above [.inr (10, 0), .inl (.int x1), .inl (.int x7)] M)
  else am_ret [] 129 [] (k 132 [.inr (10, 0), .inl (.int x1), .inl (.long x2), am_D, .inl (.int x4), .inl (.int (x5 + 1)), .inl (.int x6), .inl (.int x7), am_D, am_D]) (fX10_above [.inr (10, 0), .inl (.int x1), .inl (.int x7)] M) := (rfl)
theorem eX10_rules_113 {n : Nat} {x1 : Int32} {x2 : Int64} {x4 : Int32} {x5 : Int32} {x6 : Int32} {x7 : Int32} {y0 : Int64} {M : am_M} {res : am_O × am_M} (h : (if (lg_cmp y0 (2 * x2)) ≤ 0 then
   am_ret [] 129 [] (rX10_rules n 132 [.inr (10, 0), .inl (.int x1), .inl (.long x2), am_D, .inl (.int x4), .inl (.int x5), .inl (.int x6), .inl (.int x7), am_D, am_D]) (fX10_above [.inr (10, 0), .inl (.int x1), .inl (.int x7)] M)
  else am_ret [] 129 [] (rX10_rules n 132 [.inr (10, 0), .inl (.int x1), .inl (.long x2), am_D, .inl (.int x4), .inl (.int (x5 + 1)), .inl (.int x6), .inl (.int x7), am_D, am_D]) (fX10_above [.inr (10, 0), .inl (.int x1), .inl (.int x7)] M)) = some res) : rX10_rules (n + 100) 113 [.inr (10, 0), .inl (.int x1), .inl (.long x2), am_D, .inl (.int x4), .inl (.int x5), .inl (.int x6), .inl (.int x7), am_D, am_D] [.inl (.long y0)] M = some res := uX10_rules ((gX10_rules_113 (rX10_rules n) x1 x2 x4 x5 x6 x7 y0 M).trans h)
set_option maxRecDepth 20000 in
theorem gX10_rules_192 (k : Nat → List am_V → List am_V → am_M → am_R) (x1 : Int32) (x2 : Int64) (x4 : Int32) (x5 : Int32) (x6 : Int32) (x7 : Int32) (x8 : Int32) (x9 : Int32) (y0 : Int64) (M : am_M) : gX10_rules k 192 [.inr (10, 0), .inl (.int x1), .inl (.long x2), am_D, .inl (.int x4), .inl (.int x5), .inl (.int x6), .inl (.int x7), .inl (.int x8), .inl (.int x9)] [.inl (.long y0)] M =
  if (lg_cmp y0 0) ≤ 0 then
   am_ret [] 204 [] (k 207 [.inr (10, 0), .inl (.int x1), .inl (.long x2), am_D, .inl (.int x4), .inl (.int x5), .inl (.int x6), .inl (.int x7), .inl (.int x8), .inl (.int x9)]) (fX10_above [.inr (10, 0), .inl (.int x1), .inl (.int x9)] M)
  else am_ret [] 204 [] (k 207 [.inr (10, 0), .inl (.int x1), .inl (.long x2), am_D, .inl (.int x4), .inl (.int x5), .inl (.int x6), .inl (.int (x7 + 1)), .inl (.int x8), .inl (.int x9)]) (fX10_above [.inr (10, 0), .inl (.int x1), .inl (.int x9)] M) := (rfl)
theorem eX10_rules_192 {n : Nat} {x1 : Int32} {x2 : Int64} {x4 : Int32} {x5 : Int32} {x6 : Int32} {x7 : Int32} {x8 : Int32} {x9 : Int32} {y0 : Int64} {M : am_M} {res : am_O × am_M} (h : (if (lg_cmp y0 0) ≤ 0 then
   am_ret [] 204 [] (rX10_rules n 207 [.inr (10, 0), .inl (.int x1), .inl (.long x2), am_D, .inl (.int x4), .inl (.int x5), .inl (.int x6), .inl (.int x7), .inl (.int x8), .inl (.int x9)]) (fX10_above [.inr (10, 0), .inl (.int x1), .inl (.int x9)] M)
  else am_ret [] 204 [] (rX10_rules n 207 [.inr (10, 0), .inl (.int x1), .inl (.long x2), am_D, .inl (.int x4), .inl (.int x5), .inl (.int x6), .inl (.int (x7 + 1)), .inl (.int x8), .inl (.int x9)]) (fX10_above [.inr (10, 0), .inl (.int x1), .inl (.int x9)] M)) = some res) : rX10_rules (n + 100) 192 [.inr (10, 0), .inl (.int x1), .inl (.long x2), am_D, .inl (.int x4), .inl (.int x5), .inl (.int x6), .inl (.int x7), .inl (.int x8), .inl (.int x9)] [.inl (.long y0)] M = some res := uX10_rules ((gX10_rules_192 (rX10_rules n) x1 x2 x4 x5 x6 x7 x8 x9 y0 M).trans h)
set_option maxRecDepth 20000 in
theorem gX10_rules_132 (k : Nat → List am_V → List am_V → am_M → am_R) (x1 : Int32) (x2 : Int64) (x4 : Int32) (x5 : Int32) (x6 : Int32) (x7 : Int32) (y0 : Int64) (M : am_M) : gX10_rules k 132 [.inr (10, 0), .inl (.int x1), .inl (.long x2), am_D, .inl (.int x4), .inl (.int x5), .inl (.int x6), .inl (.int x7), am_D, am_D] [.inl (.long y0)] M =
  if 0 ≤ (lg_cmp y0 ((-2) * x2)) then
   k 89 [.inr (10, 0), .inl (.int x1), .inl (.long x2), am_D, .inl (.int x4), .inl (.int x5), .inl (.int x6), .inl (.int (x7 + 1)), am_D, am_D] [] M
  else k 89 [.inr (10, 0), .inl (.int x1), .inl (.long x2), am_D, .inl (.int x4), .inl (.int x5), .inl (.int (x6 + 1)), .inl (.int (x7 + 1)), am_D, am_D] [] M := (rfl)
theorem eX10_rules_132 {n : Nat} {x1 : Int32} {x2 : Int64} {x4 : Int32} {x5 : Int32} {x6 : Int32} {x7 : Int32} {y0 : Int64} {M : am_M} {res : am_O × am_M} (h : (if 0 ≤ (lg_cmp y0 ((-2) * x2)) then
   rX10_rules n 89 [.inr (10, 0), .inl (.int x1), .inl (.long x2), am_D, .inl (.int x4), .inl (.int x5), .inl (.int x6), .inl (.int (x7 + 1)), am_D, am_D] [] M
  else rX10_rules n 89 [.inr (10, 0), .inl (.int x1), .inl (.long x2), am_D, .inl (.int x4), .inl (.int x5), .inl (.int (x6 + 1)), .inl (.int (x7 + 1)), am_D, am_D] [] M) = some res) : rX10_rules (n + 100) 132 [.inr (10, 0), .inl (.int x1), .inl (.long x2), am_D, .inl (.int x4), .inl (.int x5), .inl (.int x6), .inl (.int x7), am_D, am_D] [.inl (.long y0)] M = some res := uX10_rules ((gX10_rules_132 (rX10_rules n) x1 x2 x4 x5 x6 x7 y0 M).trans h)
set_option maxRecDepth 20000 in
theorem gX10_rules_207 (k : Nat → List am_V → List am_V → am_M → am_R) (x1 : Int32) (x2 : Int64) (x4 : Int32) (x5 : Int32) (x6 : Int32) (x7 : Int32) (x8 : Int32) (x9 : Int32) (y0 : Int64) (M : am_M) : gX10_rules k 207 [.inr (10, 0), .inl (.int x1), .inl (.long x2), am_D, .inl (.int x4), .inl (.int x5), .inl (.int x6), .inl (.int x7), .inl (.int x8), .inl (.int x9)] [.inl (.long y0)] M =
  if 0 ≤ (lg_cmp y0 0) then
   k 174 [.inr (10, 0), .inl (.int x1), .inl (.long x2), am_D, .inl (.int x4), .inl (.int x5), .inl (.int x6), .inl (.int x7), .inl (.int x8), .inl (.int (x9 + 1))] [] M
  else k 174 [.inr (10, 0), .inl (.int x1), .inl (.long x2), am_D, .inl (.int x4), .inl (.int x5), .inl (.int x6), .inl (.int x7), .inl (.int (x8 + 1)), .inl (.int (x9 + 1))] [] M := (rfl)
theorem eX10_rules_207 {n : Nat} {x1 : Int32} {x2 : Int64} {x4 : Int32} {x5 : Int32} {x6 : Int32} {x7 : Int32} {x8 : Int32} {x9 : Int32} {y0 : Int64} {M : am_M} {res : am_O × am_M} (h : (if 0 ≤ (lg_cmp y0 0) then
   rX10_rules n 174 [.inr (10, 0), .inl (.int x1), .inl (.long x2), am_D, .inl (.int x4), .inl (.int x5), .inl (.int x6), .inl (.int x7), .inl (.int x8), .inl (.int (x9 + 1))] [] M
  else rX10_rules n 174 [.inr (10, 0), .inl (.int x1), .inl (.long x2), am_D, .inl (.int x4), .inl (.int x5), .inl (.int x6), .inl (.int x7), .inl (.int (x8 + 1)), .inl (.int (x9 + 1))] [] M) = some res) : rX10_rules (n + 100) 207 [.inr (10, 0), .inl (.int x1), .inl (.long x2), am_D, .inl (.int x4), .inl (.int x5), .inl (.int x6), .inl (.int x7), .inl (.int x8), .inl (.int x9)] [.inl (.long y0)] M = some res := uX10_rules ((gX10_rules_207 (rX10_rules n) x1 x2 x4 x5 x6 x7 x8 x9 y0 M).trans h)
def rX10_host (n pc : Nat) (ls st : List am_V) (M : am_M) : am_R := am_run [] [] 1 am_X0 pX10_host n pc ls st M
def gX10_host (k : Nat → List am_V → List am_V → am_M → am_R) (pc : Nat) (ls st : List am_V) (M : am_M) : am_R := am_go [] [] 1 am_X0 pX10_host [] k 100 pc ls st M
theorem uX10_host {n pc : Nat} {ls st : List am_V} {M : am_M} {res : am_O × am_M} (h : gX10_host (rX10_host n) pc ls st M = some res) : rX10_host (n + 100) pc ls st M = some res := am_go_ok h
theorem eX10_host (x1 : Int32) (M : am_M) : fX10_host [.inr (10, 0), .inl (.int x1)] M = rX10_host 100000 0 [.inr (10, 0), .inl (.int x1)] [] M := am_meth_eq rfl rfl
set_option maxRecDepth 20000 in
theorem gX10_host_0 (k : Nat → List am_V → List am_V → am_M → am_R) (x1 : Int32) (M : am_M) : gX10_host k 0 [.inr (10, 0), .inl (.int x1)] [] M =
  if x1 < 0 then
   some (.inl (some (.inl (.int 0))), (am_put M 10 0 45 1))
  else if x1 < (M 10 0 40) then
   if am_in x1 40 then
    some (.inl (some (.inl (.int (M 69 0 (Int32.toNatClampNeg x1))))), (am_put M 10 0 45 0))
   else none
  else some (.inl (some (.inl (.int 0))), (am_put M 10 0 45 1)) := (rfl)
theorem eX10_host_0 {n : Nat} {x1 : Int32} {M : am_M} {res : am_O × am_M} (h : (if x1 < 0 then
   some (.inl (some (.inl (.int 0))), (am_put M 10 0 45 1))
  else if x1 < (M 10 0 40) then
   if am_in x1 40 then
    some (.inl (some (.inl (.int (M 69 0 (Int32.toNatClampNeg x1))))), (am_put M 10 0 45 0))
   else none
  else some (.inl (some (.inl (.int 0))), (am_put M 10 0 45 1))) = some res) : rX10_host (n + 100) 0 [.inr (10, 0), .inl (.int x1)] [] M = some res := uX10_host ((gX10_host_0 (rX10_host n) x1 M).trans h)
def rX10_took (n pc : Nat) (ls st : List am_V) (M : am_M) : am_R := am_run [] [] 1 am_X0 pX10_took n pc ls st M
def gX10_took (k : Nat → List am_V → List am_V → am_M → am_R) (pc : Nat) (ls st : List am_V) (M : am_M) : am_R := am_go [] [] 1 am_X0 pX10_took [32] k 100 pc ls st M
theorem uX10_took {n pc : Nat} {ls st : List am_V} {M : am_M} {res : am_O × am_M} (h : gX10_took (rX10_took n) pc ls st M = some res) : rX10_took (n + 100) pc ls st M = some res := am_go_ok h
theorem eX10_took (x1 : Int32) (M : am_M) : fX10_took [.inr (10, 0), .inl (.int x1)] M = rX10_took 100000 0 [.inr (10, 0), .inl (.int x1), am_D] [] M := am_meth_eq rfl rfl
set_option maxRecDepth 20000 in
theorem gX10_took_0 (k : Nat → List am_V → List am_V → am_M → am_R) (x1 : Int32) (M : am_M) : gX10_took k 0 [.inr (10, 0), .inl (.int x1), am_D] [] M =
  if x1 < 0 then
   some (.inl (some (.inl (.int 0))), (am_put M 10 0 45 1))
  else if x1 ≤ (M 10 0 40) then
   k 32 [.inr (10, 0), .inl (.int x1), .inl (.int x1)] [] (am_put M 10 0 45 0)
  else some (.inl (some (.inl (.int 0))), (am_put M 10 0 45 1)) := (rfl)
theorem eX10_took_0 {n : Nat} {x1 : Int32} {M : am_M} {res : am_O × am_M} (h : (if x1 < 0 then
   some (.inl (some (.inl (.int 0))), (am_put M 10 0 45 1))
  else if x1 ≤ (M 10 0 40) then
   rX10_took n 32 [.inr (10, 0), .inl (.int x1), .inl (.int x1)] [] (am_put M 10 0 45 0)
  else some (.inl (some (.inl (.int 0))), (am_put M 10 0 45 1))) = some res) : rX10_took (n + 100) 0 [.inr (10, 0), .inl (.int x1), am_D] [] M = some res := uX10_took ((gX10_took_0 (rX10_took n) x1 M).trans h)
set_option maxRecDepth 20000 in
theorem gX10_took_32 (k : Nat → List am_V → List am_V → am_M → am_R) (x1 : Int32) (x2 : Int32) (M : am_M) : gX10_took k 32 [.inr (10, 0), .inl (.int x1), .inl (.int x2)] [] M =
  if (M 10 0 40) ≤ x2 then
   some (.inl (some (.inl (.int ((M 10 0 40) - x1)))), (am_put M 10 0 40 ((M 10 0 40) - x1)))
  else if am_in x2 40 then
   if am_in (x2 - x1) 40 then
    k 32 [.inr (10, 0), .inl (.int x1), .inl (.int (x2 + 1))] [] (am_put M 69 0 (Int32.toNatClampNeg (x2 - x1)) (M 69 0 (Int32.toNatClampNeg x2)))
   else none
  else none := (rfl)
theorem eX10_took_32 {n : Nat} {x1 : Int32} {x2 : Int32} {M : am_M} {res : am_O × am_M} (h : (if (M 10 0 40) ≤ x2 then
   some (.inl (some (.inl (.int ((M 10 0 40) - x1)))), (am_put M 10 0 40 ((M 10 0 40) - x1)))
  else if am_in x2 40 then
   if am_in (x2 - x1) 40 then
    rX10_took n 32 [.inr (10, 0), .inl (.int x1), .inl (.int (x2 + 1))] [] (am_put M 69 0 (Int32.toNatClampNeg (x2 - x1)) (M 69 0 (Int32.toNatClampNeg x2)))
   else none
  else none) = some res) : rX10_took (n + 100) 32 [.inr (10, 0), .inl (.int x1), .inl (.int x2)] [] M = some res := uX10_took ((gX10_took_32 (rX10_took n) x1 x2 M).trans h)
def rL_define (n pc : Nat) (ls st : List am_V) (M : am_M) : am_R := am_run [fX9_define] [(0, 7, "java/lang/IllegalArgumentException", .int 1), (0, 7, "java/lang/IllegalStateException", .int 2)] 1 am_X0 pL_define n pc ls st M
def gL_define (k : Nat → List am_V → List am_V → am_M → am_R) (pc : Nat) (ls st : List am_V) (M : am_M) : am_R := am_go [fX9_define] [(0, 7, "java/lang/IllegalArgumentException", .int 1), (0, 7, "java/lang/IllegalStateException", .int 2)] 1 am_X0 pL_define [7] k 100 pc ls st M
theorem uL_define {n pc : Nat} {ls st : List am_V} {M : am_M} {res : am_O × am_M} (h : gL_define (rL_define n) pc ls st M = some res) : rL_define (n + 100) pc ls st M = some res := am_go_ok h
theorem eL_define (x1 : Int32) (x2 : Int32) (x3 : Int32) (M : am_M) : fL_define [.inr (9, 0), .inl (.int x1), .inl (.int x2), .inl (.int x3)] M = rL_define 100000 0 [.inr (9, 0), .inl (.int x1), .inl (.int x2), .inl (.int x3), am_D] [] M := am_meth_eq rfl rfl
set_option maxRecDepth 20000 in
theorem gL_define_0 (k : Nat → List am_V → List am_V → am_M → am_R) (x1 : Int32) (x2 : Int32) (x3 : Int32) (M : am_M) : gL_define k 0 [.inr (9, 0), .inl (.int x1), .inl (.int x2), .inl (.int x3), am_D] [] M =
  am_ret [(0, 7, "java/lang/IllegalArgumentException", .int 1), (0, 7, "java/lang/IllegalStateException", .int 2)] 4 [] (k 7 [.inr (9, 0), .inl (.int x1), .inl (.int x2), .inl (.int x3), am_D]) (fX9_define [.inr (9, 0), .inl (.int x1), .inl (.int x2), .inl (.int x3)] M) := (rfl)
theorem eL_define_0 {n : Nat} {x1 : Int32} {x2 : Int32} {x3 : Int32} {M : am_M} {res : am_O × am_M} (h : (am_ret [(0, 7, "java/lang/IllegalArgumentException", .int 1), (0, 7, "java/lang/IllegalStateException", .int 2)] 4 [] (rL_define n 7 [.inr (9, 0), .inl (.int x1), .inl (.int x2), .inl (.int x3), am_D]) (fX9_define [.inr (9, 0), .inl (.int x1), .inl (.int x2), .inl (.int x3)] M)) = some res) : rL_define (n + 100) 0 [.inr (9, 0), .inl (.int x1), .inl (.int x2), .inl (.int x3), am_D] [] M = some res := uL_define ((gL_define_0 (rL_define n) x1 x2 x3 M).trans h)
set_option maxRecDepth 20000 in
theorem gL_define_7 (k : Nat → List am_V → List am_V → am_M → am_R) (x1 : Int32) (x2 : Int32) (x3 : Int32) (M : am_M) : gL_define k 7 [.inr (9, 0), .inl (.int x1), .inl (.int x2), .inl (.int x3), am_D] [] M =
  some (.inl (some (.inl (.int 0))), M) := (rfl)
theorem eL_define_7 {n : Nat} {x1 : Int32} {x2 : Int32} {x3 : Int32} {M : am_M} {res : am_O × am_M} (h : (some (.inl (some (.inl (.int 0))), M)) = some res) : rL_define (n + 100) 7 [.inr (9, 0), .inl (.int x1), .inl (.int x2), .inl (.int x3), am_D] [] M = some res := uL_define ((gL_define_7 (rL_define n) x1 x2 x3 M).trans h)
def rL_curve (n pc : Nat) (ls st : List am_V) (M : am_M) : am_R := am_run [fX9_curve] [(0, 12, "java/lang/IllegalArgumentException", .int 1), (0, 12, "java/lang/IllegalStateException", .int 2)] 1 am_X0 pL_curve n pc ls st M
def gL_curve (k : Nat → List am_V → List am_V → am_M → am_R) (pc : Nat) (ls st : List am_V) (M : am_M) : am_R := am_go [fX9_curve] [(0, 12, "java/lang/IllegalArgumentException", .int 1), (0, 12, "java/lang/IllegalStateException", .int 2)] 1 am_X0 pL_curve [10] k 100 pc ls st M
theorem uL_curve {n pc : Nat} {ls st : List am_V} {M : am_M} {res : am_O × am_M} (h : gL_curve (rL_curve n) pc ls st M = some res) : rL_curve (n + 100) pc ls st M = some res := am_go_ok h
theorem eL_curve (x1 : Int32) (x2 : Int32) (x3 : Int32) (M : am_M) : fL_curve [.inr (9, 0), .inl (.int x1), .inl (.int x2), .inl (.int x3), .inr (80, 0)] M = rL_curve 100000 0 [.inr (9, 0), .inl (.int x1), .inl (.int x2), .inl (.int x3), .inr (80, 0), am_D] [] M := am_meth_eq rfl rfl
set_option maxRecDepth 20000 in
theorem gL_curve_0 (k : Nat → List am_V → List am_V → am_M → am_R) (x1 : Int32) (x2 : Int32) (x3 : Int32) (M : am_M) : gL_curve k 0 [.inr (9, 0), .inl (.int x1), .inl (.int x2), .inl (.int x3), .inr (80, 0), am_D] [] M =
  am_ret [(0, 12, "java/lang/IllegalArgumentException", .int 1), (0, 12, "java/lang/IllegalStateException", .int 2)] 7 [.inl (.int 0), .inr (80, 0)] (k 10 [.inr (9, 0), .inl (.int x1), .inl (.int x2), .inl (.int x3), .inr (80, 0), am_D]) (fX9_curve [.inr (9, 0), .inl (.int x1), .inl (.int x2), .inl (.int x3)] M) := (rfl)
theorem eL_curve_0 {n : Nat} {x1 : Int32} {x2 : Int32} {x3 : Int32} {M : am_M} {res : am_O × am_M} (h : (am_ret [(0, 12, "java/lang/IllegalArgumentException", .int 1), (0, 12, "java/lang/IllegalStateException", .int 2)] 7 [.inl (.int 0), .inr (80, 0)] (rL_curve n 10 [.inr (9, 0), .inl (.int x1), .inl (.int x2), .inl (.int x3), .inr (80, 0), am_D]) (fX9_curve [.inr (9, 0), .inl (.int x1), .inl (.int x2), .inl (.int x3)] M)) = some res) : rL_curve (n + 100) 0 [.inr (9, 0), .inl (.int x1), .inl (.int x2), .inl (.int x3), .inr (80, 0), am_D] [] M = some res := uL_curve ((gL_curve_0 (rL_curve n) x1 x2 x3 M).trans h)
set_option maxRecDepth 20000 in
theorem gL_curve_10 (k : Nat → List am_V → List am_V → am_M → am_R) (x1 : Int32) (x2 : Int32) (x3 : Int32) (y0 : Int32) (y1 : Int32) (M : am_M) : gL_curve k 10 [.inr (9, 0), .inl (.int x1), .inl (.int x2), .inl (.int x3), .inr (80, 0), am_D] [.inl (.int y0), .inl (.int y1), .inr (80, 0)] M =
  if am_in y1 1 then
   some (.inl (some (.inl (.int 0))), (am_put (am_put M 80 0 (2 * (Int32.toNatClampNeg y1)) (am_hi (Int32.toInt64 y0))) 80 0 (2 * (Int32.toNatClampNeg y1) + 1) (am_lo (Int32.toInt64 y0))))
  else none := (rfl)
theorem eL_curve_10 {n : Nat} {x1 : Int32} {x2 : Int32} {x3 : Int32} {y0 : Int32} {y1 : Int32} {M : am_M} {res : am_O × am_M} (h : (if am_in y1 1 then
   some (.inl (some (.inl (.int 0))), (am_put (am_put M 80 0 (2 * (Int32.toNatClampNeg y1)) (am_hi (Int32.toInt64 y0))) 80 0 (2 * (Int32.toNatClampNeg y1) + 1) (am_lo (Int32.toInt64 y0))))
  else none) = some res) : rL_curve (n + 100) 10 [.inr (9, 0), .inl (.int x1), .inl (.int x2), .inl (.int x3), .inr (80, 0), am_D] [.inl (.int y0), .inl (.int y1), .inr (80, 0)] M = some res := uL_curve ((gL_curve_10 (rL_curve n) x1 x2 x3 y0 y1 M).trans h)
