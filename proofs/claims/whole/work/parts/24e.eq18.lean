/-! ===== the runs, piece by piece ===== -/
def rX10_clean (n pc : Nat) (ls st : List am_V) (M : am_M) : am_R := am_run [] [] 1 am_X0 pX10_clean n pc ls st M
def gX10_clean (k : Nat → List am_V → List am_V → am_M → am_R) (pc : Nat) (ls st : List am_V) (M : am_M) : am_R := am_go [] [] 1 am_X0 pX10_clean [2, 25] k 100 pc ls st M
theorem uX10_clean {n pc : Nat} {ls st : List am_V} {M : am_M} {res : am_O × am_M} (h : gX10_clean (rX10_clean n) pc ls st M = some res) : rX10_clean (n + 100) pc ls st M = some res := am_go_ok h
theorem eX10_clean (M : am_M) : fX10_clean [.inr (10, 0)] M = rX10_clean 100000 0 [.inr (10, 0), am_D, am_D, am_D] [] M := am_meth_eq rfl rfl
set_option maxRecDepth 20000 in
theorem gX10_clean_0 (k : Nat → List am_V → List am_V → am_M → am_R) (M : am_M) : gX10_clean k 0 [.inr (10, 0), am_D, am_D, am_D] [] M =
  k 2 [.inr (10, 0), .inl (.int 0), am_D, am_D] [] M := (rfl)
theorem eX10_clean_0 {n : Nat} {M : am_M} {res : am_O × am_M} (h : (rX10_clean n 2 [.inr (10, 0), .inl (.int 0), am_D, am_D] [] M) = some res) : rX10_clean (n + 100) 0 [.inr (10, 0), am_D, am_D, am_D] [] M = some res := uX10_clean ((gX10_clean_0 (rX10_clean n) M).trans h)
set_option maxRecDepth 20000 in
theorem gX10_clean_2 (k : Nat → List am_V → List am_V → am_M → am_R) (x1 : Int32) (M : am_M) : gX10_clean k 2 [.inr (10, 0), .inl (.int x1), am_D, am_D] [] M =
  if 10 ≤ x1 then
   some (.inl (some (.inl (.int (-1)))), M)
  else if am_in x1 10 then
   if (M 59 0 (Int32.toNatClampNeg x1)) = 0 then
    k 25 [.inr (10, 0), .inl (.int x1), .inl (.int 1), .inl (.int 0)] [] M
   else k 25 [.inr (10, 0), .inl (.int x1), .inl (.int 0), .inl (.int 0)] [] M
  else none := (rfl)
theorem eX10_clean_2 {n : Nat} {x1 : Int32} {M : am_M} {res : am_O × am_M} (h : (if 10 ≤ x1 then
   some (.inl (some (.inl (.int (-1)))), M)
  else if am_in x1 10 then
   if (M 59 0 (Int32.toNatClampNeg x1)) = 0 then
    rX10_clean n 25 [.inr (10, 0), .inl (.int x1), .inl (.int 1), .inl (.int 0)] [] M
   else rX10_clean n 25 [.inr (10, 0), .inl (.int x1), .inl (.int 0), .inl (.int 0)] [] M
  else none) = some res) : rX10_clean (n + 100) 2 [.inr (10, 0), .inl (.int x1), am_D, am_D] [] M = some res := uX10_clean ((gX10_clean_2 (rX10_clean n) x1 M).trans h)
set_option maxRecDepth 20000 in
theorem gX10_clean_25 (k : Nat → List am_V → List am_V → am_M → am_R) (x1 : Int32) (x2 : Int32) (x3 : Int32) (M : am_M) : gX10_clean k 25 [.inr (10, 0), .inl (.int x1), .inl (.int x2), .inl (.int x3)] [] M =
  if (M 10 0 14) ≤ x3 then
   if x2 = 0 then
    k 2 [.inr (10, 0), .inl (.int (x1 + 1)), .inl (.int x2), .inl (.int x3)] [] M
   else some (.inl (some (.inl (.int x1))), M)
  else if am_in x3 40 then
   if (M 51 0 (Int32.toNatClampNeg x3)) = x1 then
    k 25 [.inr (10, 0), .inl (.int x1), .inl (.int 0), .inl (.int (x3 + 1))] [] M
   else k 25 [.inr (10, 0), .inl (.int x1), .inl (.int x2), .inl (.int (x3 + 1))] [] M
  else none := (rfl)
theorem eX10_clean_25 {n : Nat} {x1 : Int32} {x2 : Int32} {x3 : Int32} {M : am_M} {res : am_O × am_M} (h : (if (M 10 0 14) ≤ x3 then
   if x2 = 0 then
    rX10_clean n 2 [.inr (10, 0), .inl (.int (x1 + 1)), .inl (.int x2), .inl (.int x3)] [] M
   else some (.inl (some (.inl (.int x1))), M)
  else if am_in x3 40 then
   if (M 51 0 (Int32.toNatClampNeg x3)) = x1 then
    rX10_clean n 25 [.inr (10, 0), .inl (.int x1), .inl (.int 0), .inl (.int (x3 + 1))] [] M
   else rX10_clean n 25 [.inr (10, 0), .inl (.int x1), .inl (.int x2), .inl (.int (x3 + 1))] [] M
  else none) = some res) : rX10_clean (n + 100) 25 [.inr (10, 0), .inl (.int x1), .inl (.int x2), .inl (.int x3)] [] M = some res := uX10_clean ((gX10_clean_25 (rX10_clean n) x1 x2 x3 M).trans h)
set_option maxRecDepth 20000 in
theorem gX10_clean_2a (k : Nat → List am_V → List am_V → am_M → am_R) (x1 : Int32) (x2 : Int32) (x3 : Int32) (M : am_M) : gX10_clean k 2 [.inr (10, 0), .inl (.int x1), .inl (.int x2), .inl (.int x3)] [] M =
  if 10 ≤ x1 then
   some (.inl (some (.inl (.int (-1)))), M)
  else if am_in x1 10 then
   if (M 59 0 (Int32.toNatClampNeg x1)) = 0 then
    k 25 [.inr (10, 0), .inl (.int x1), .inl (.int 1), .inl (.int 0)] [] M
   else k 25 [.inr (10, 0), .inl (.int x1), .inl (.int 0), .inl (.int 0)] [] M
  else none := (rfl)
theorem eX10_clean_2a {n : Nat} {x1 : Int32} {x2 : Int32} {x3 : Int32} {M : am_M} {res : am_O × am_M} (h : (if 10 ≤ x1 then
   some (.inl (some (.inl (.int (-1)))), M)
  else if am_in x1 10 then
   if (M 59 0 (Int32.toNatClampNeg x1)) = 0 then
    rX10_clean n 25 [.inr (10, 0), .inl (.int x1), .inl (.int 1), .inl (.int 0)] [] M
   else rX10_clean n 25 [.inr (10, 0), .inl (.int x1), .inl (.int 0), .inl (.int 0)] [] M
  else none) = some res) : rX10_clean (n + 100) 2 [.inr (10, 0), .inl (.int x1), .inl (.int x2), .inl (.int x3)] [] M = some res := uX10_clean ((gX10_clean_2a (rX10_clean n) x1 x2 x3 M).trans h)
def rX10_start (n pc : Nat) (ls st : List am_V) (M : am_M) : am_R := am_run [fX10_breaksOff] [] 0 am_X0 pX10_start n pc ls st M
def gX10_start (k : Nat → List am_V → List am_V → am_M → am_R) (pc : Nat) (ls st : List am_V) (M : am_M) : am_R := am_go [fX10_breaksOff] [] 0 am_X0 pX10_start [77] k 100 pc ls st M
theorem uX10_start {n pc : Nat} {ls st : List am_V} {M : am_M} {res : am_O × am_M} (h : gX10_start (rX10_start n) pc ls st M = some res) : rX10_start (n + 100) pc ls st M = some res := am_go_ok h
theorem eX10_start (x1 : Int32) (x2 : Int32) (x3 : Int32) (x4 : Int32) (M : am_M) : fX10_start [.inr (10, 0), .inl (.int x1), .inl (.int x2), .inl (.int x3), .inl (.int x4)] M = rX10_start 100000 0 [.inr (10, 0), .inl (.int x1), .inl (.int x2), .inl (.int x3), .inl (.int x4)] [] M := am_meth_eq rfl rfl
set_option maxRecDepth 20000 in
theorem gX10_start_0 (k : Nat → List am_V → List am_V → am_M → am_R) (x1 : Int32) (x2 : Int32) (x3 : Int32) (x4 : Int32) (M : am_M) : gX10_start k 0 [.inr (10, 0), .inl (.int x1), .inl (.int x2), .inl (.int x3), .inl (.int x4)] [] M =
  if am_in x1 40 then
   if am_in x1 40 then
    if am_in x1 40 then
     if am_in x1 40 then
      if am_in x1 40 then
       if am_in x1 40 then
        if am_in x2 6 then
         if (M 38 0 (Int32.toNatClampNeg x2)) = 1 then
          if am_in x1 40 ∧ am_b 1 = 1 then
           if (am_b (M 10 0 46)) = 0 then
            if am_in x2 6 then
             if am_in x2 6 then
              if am_in x3 10 then
               some (.inl none, (am_put (am_put (am_put (am_put (am_put (am_put (am_put (am_put M 48 0 (Int32.toNatClampNeg x1) 1) 50 0 (Int32.toNatClampNeg x1) ((M 50 0 (Int32.toNatClampNeg x1)) + 1)) 51 0 (Int32.toNatClampNeg x1) x3) 52 0 (Int32.toNatClampNeg x1) 0) 56 0 (Int32.toNatClampNeg x1) 0) 54 0 (Int32.toNatClampNeg x1) 1) 39 0 (Int32.toNatClampNeg x2) ((M 39 0 (Int32.toNatClampNeg x2)) - x4)) 60 0 (Int32.toNatClampNeg x3) x4))
              else none
             else none
            else none
           else am_ret [] 74 [] (k 77 [.inr (10, 0), .inl (.int x1), .inl (.int x2), .inl (.int x3), .inl (.int x4)]) (fX10_breaksOff [.inr (10, 0), .inl (.int x1), .inl (.int 3)] (am_put (am_put (am_put (am_put (am_put (am_put (am_put M 48 0 (Int32.toNatClampNeg x1) 1) 50 0 (Int32.toNatClampNeg x1) ((M 50 0 (Int32.toNatClampNeg x1)) + 1)) 51 0 (Int32.toNatClampNeg x1) x3) 52 0 (Int32.toNatClampNeg x1) 0) 56 0 (Int32.toNatClampNeg x1) 0) 54 0 (Int32.toNatClampNeg x1) 1) 10 0 46 0))
          else none
         else if am_in x1 40 ∧ am_b 0 = 0 then
          if (am_b (M 10 0 46)) = 0 then
           if am_in x2 6 then
            if am_in x2 6 then
             if am_in x3 10 then
              some (.inl none, (am_put (am_put (am_put (am_put (am_put (am_put (am_put (am_put M 48 0 (Int32.toNatClampNeg x1) 1) 50 0 (Int32.toNatClampNeg x1) ((M 50 0 (Int32.toNatClampNeg x1)) + 1)) 51 0 (Int32.toNatClampNeg x1) x3) 52 0 (Int32.toNatClampNeg x1) 0) 56 0 (Int32.toNatClampNeg x1) 0) 54 0 (Int32.toNatClampNeg x1) 0) 39 0 (Int32.toNatClampNeg x2) ((M 39 0 (Int32.toNatClampNeg x2)) - x4)) 60 0 (Int32.toNatClampNeg x3) x4))
             else none
            else none
           else none
          else am_ret [] 74 [] (k 77 [.inr (10, 0), .inl (.int x1), .inl (.int x2), .inl (.int x3), .inl (.int x4)]) (fX10_breaksOff [.inr (10, 0), .inl (.int x1), .inl (.int 3)] (am_put (am_put (am_put (am_put (am_put (am_put (am_put M 48 0 (Int32.toNatClampNeg x1) 1) 50 0 (Int32.toNatClampNeg x1) ((M 50 0 (Int32.toNatClampNeg x1)) + 1)) 51 0 (Int32.toNatClampNeg x1) x3) 52 0 (Int32.toNatClampNeg x1) 0) 56 0 (Int32.toNatClampNeg x1) 0) 54 0 (Int32.toNatClampNeg x1) 0) 10 0 46 0))
         else none
        else none
       else none
      else none
     else none
    else none
   else none
  else none := (rfl)
theorem eX10_start_0 {n : Nat} {x1 : Int32} {x2 : Int32} {x3 : Int32} {x4 : Int32} {M : am_M} {res : am_O × am_M} (h : (if am_in x1 40 then
   if am_in x1 40 then
    if am_in x1 40 then
     if am_in x1 40 then
      if am_in x1 40 then
       if am_in x1 40 then
        if am_in x2 6 then
         if (M 38 0 (Int32.toNatClampNeg x2)) = 1 then
          if am_in x1 40 ∧ am_b 1 = 1 then
           if (am_b (M 10 0 46)) = 0 then
            if am_in x2 6 then
             if am_in x2 6 then
              if am_in x3 10 then
               some (.inl none, (am_put (am_put (am_put (am_put (am_put (am_put (am_put (am_put M 48 0 (Int32.toNatClampNeg x1) 1) 50 0 (Int32.toNatClampNeg x1) ((M 50 0 (Int32.toNatClampNeg x1)) + 1)) 51 0 (Int32.toNatClampNeg x1) x3) 52 0 (Int32.toNatClampNeg x1) 0) 56 0 (Int32.toNatClampNeg x1) 0) 54 0 (Int32.toNatClampNeg x1) 1) 39 0 (Int32.toNatClampNeg x2) ((M 39 0 (Int32.toNatClampNeg x2)) - x4)) 60 0 (Int32.toNatClampNeg x3) x4))
              else none
             else none
            else none
           else am_ret [] 74 [] (rX10_start n 77 [.inr (10, 0), .inl (.int x1), .inl (.int x2), .inl (.int x3), .inl (.int x4)]) (fX10_breaksOff [.inr (10, 0), .inl (.int x1), .inl (.int 3)] (am_put (am_put (am_put (am_put (am_put (am_put (am_put M 48 0 (Int32.toNatClampNeg x1) 1) 50 0 (Int32.toNatClampNeg x1) ((M 50 0 (Int32.toNatClampNeg x1)) + 1)) 51 0 (Int32.toNatClampNeg x1) x3) 52 0 (Int32.toNatClampNeg x1) 0) 56 0 (Int32.toNatClampNeg x1) 0) 54 0 (Int32.toNatClampNeg x1) 1) 10 0 46 0))
          else none
         else if am_in x1 40 ∧ am_b 0 = 0 then
          if (am_b (M 10 0 46)) = 0 then
           if am_in x2 6 then
            if am_in x2 6 then
             if am_in x3 10 then
              some (.inl none, (am_put (am_put (am_put (am_put (am_put (am_put (am_put (am_put M 48 0 (Int32.toNatClampNeg x1) 1) 50 0 (Int32.toNatClampNeg x1) ((M 50 0 (Int32.toNatClampNeg x1)) + 1)) 51 0 (Int32.toNatClampNeg x1) x3) 52 0 (Int32.toNatClampNeg x1) 0) 56 0 (Int32.toNatClampNeg x1) 0) 54 0 (Int32.toNatClampNeg x1) 0) 39 0 (Int32.toNatClampNeg x2) ((M 39 0 (Int32.toNatClampNeg x2)) - x4)) 60 0 (Int32.toNatClampNeg x3) x4))
             else none
            else none
           else none
          else am_ret [] 74 [] (rX10_start n 77 [.inr (10, 0), .inl (.int x1), .inl (.int x2), .inl (.int x3), .inl (.int x4)]) (fX10_breaksOff [.inr (10, 0), .inl (.int x1), .inl (.int 3)] (am_put (am_put (am_put (am_put (am_put (am_put (am_put M 48 0 (Int32.toNatClampNeg x1) 1) 50 0 (Int32.toNatClampNeg x1) ((M 50 0 (Int32.toNatClampNeg x1)) + 1)) 51 0 (Int32.toNatClampNeg x1) x3) 52 0 (Int32.toNatClampNeg x1) 0) 56 0 (Int32.toNatClampNeg x1) 0) 54 0 (Int32.toNatClampNeg x1) 0) 10 0 46 0))
         else none
        else none
       else none
      else none
     else none
    else none
   else none
  else none) = some res) : rX10_start (n + 100) 0 [.inr (10, 0), .inl (.int x1), .inl (.int x2), .inl (.int x3), .inl (.int x4)] [] M = some res := uX10_start ((gX10_start_0 (rX10_start n) x1 x2 x3 x4 M).trans h)
set_option maxRecDepth 20000 in
theorem gX10_start_77 (k : Nat → List am_V → List am_V → am_M → am_R) (x1 : Int32) (x2 : Int32) (x3 : Int32) (x4 : Int32) (M : am_M) : gX10_start k 77 [.inr (10, 0), .inl (.int x1), .inl (.int x2), .inl (.int x3), .inl (.int x4)] [] M =
  some (.inl none, M) := (rfl)
theorem eX10_start_77 {n : Nat} {x1 : Int32} {x2 : Int32} {x3 : Int32} {x4 : Int32} {M : am_M} {res : am_O × am_M} (h : (some (.inl none, M)) = some res) : rX10_start (n + 100) 77 [.inr (10, 0), .inl (.int x1), .inl (.int x2), .inl (.int x3), .inl (.int x4)] [] M = some res := uX10_start ((gX10_start_77 (rX10_start n) x1 x2 x3 x4 M).trans h)
def rX10_tries (n pc : Nat) (ls st : List am_V) (M : am_M) : am_R := am_run [fX10_slotOf, fX10_of, fX10_fail, fX10_book, fX10_cancel, fX10_clean, fX10_allowed, fX10_start] [] 2 am_X0 pX10_tries n pc ls st M
def gX10_tries (k : Nat → List am_V → List am_V → am_M → am_R) (pc : Nat) (ls st : List am_V) (M : am_M) : am_R := am_go [fX10_slotOf, fX10_of, fX10_fail, fX10_book, fX10_cancel, fX10_clean, fX10_allowed, fX10_start] [] 2 am_X0 pX10_tries [10, 39, 46, 56, 75, 82, 90, 96, 102, 113, 121, 133] k 100 pc ls st M
theorem uX10_tries {n pc : Nat} {ls st : List am_V} {M : am_M} {res : am_O × am_M} (h : gX10_tries (rX10_tries n) pc ls st M = some res) : rX10_tries (n + 100) pc ls st M = some res := am_go_ok h
theorem eX10_tries (x1 : Int32) (M : am_M) : fX10_tries [.inr (10, 0), .inl (.int x1)] M = rX10_tries 100000 0 [.inr (10, 0), .inl (.int x1), am_D, am_D, am_D, am_D] [] M := am_meth_eq rfl rfl
set_option maxRecDepth 20000 in
theorem gX10_tries_0 (k : Nat → List am_V → List am_V → am_M → am_R) (x1 : Int32) (M : am_M) : gX10_tries k 0 [.inr (10, 0), .inl (.int x1), am_D, am_D, am_D, am_D] [] M =
  if am_in x1 40 then
   am_ret [] 7 [] (k 10 [.inr (10, 0), .inl (.int x1), am_D, am_D, am_D, am_D]) (fX10_slotOf [.inr (10, 0), .inl (.int (M 45 0 (Int32.toNatClampNeg x1)))] M)
  else none := (rfl)
theorem eX10_tries_0 {n : Nat} {x1 : Int32} {M : am_M} {res : am_O × am_M} (h : (if am_in x1 40 then
   am_ret [] 7 [] (rX10_tries n 10 [.inr (10, 0), .inl (.int x1), am_D, am_D, am_D, am_D]) (fX10_slotOf [.inr (10, 0), .inl (.int (M 45 0 (Int32.toNatClampNeg x1)))] M)
  else none) = some res) : rX10_tries (n + 100) 0 [.inr (10, 0), .inl (.int x1), am_D, am_D, am_D, am_D] [] M = some res := uX10_tries ((gX10_tries_0 (rX10_tries n) x1 M).trans h)
set_option maxRecDepth 20000 in
theorem gX10_tries_10 (k : Nat → List am_V → List am_V → am_M → am_R) (x1 : Int32) (y0 : Int32) (M : am_M) : gX10_tries k 10 [.inr (10, 0), .inl (.int x1), am_D, am_D, am_D, am_D] [.inl (.int y0)] M =
  if 0 ≤ y0 then
   if am_in x1 40 then
    if am_in x1 40 then
     if (am_b (M 53 0 (Int32.toNatClampNeg x1))) = 0 then
      am_ret [] 53 [] (k 56 [.inr (10, 0), .inl (.int x1), .inl (.int y0), .inl (.int (M 46 0 (Int32.toNatClampNeg x1))), am_D, am_D]) (fX10_of [.inr (10, 0), .inl (.int (M 46 0 (Int32.toNatClampNeg x1))), .inl (.int 0)] M)
     else am_ret [] 36 [] (k 39 [.inr (10, 0), .inl (.int x1), .inl (.int y0), .inl (.int (M 46 0 (Int32.toNatClampNeg x1))), am_D, am_D]) (fX10_of [.inr (10, 0), .inl (.int (M 46 0 (Int32.toNatClampNeg x1))), .inl (.int 0)] M)
    else none
   else none
  else some (.inl (some (.inl (.int 0))), M) := (rfl)
theorem eX10_tries_10 {n : Nat} {x1 : Int32} {y0 : Int32} {M : am_M} {res : am_O × am_M} (h : (if 0 ≤ y0 then
   if am_in x1 40 then
    if am_in x1 40 then
     if (am_b (M 53 0 (Int32.toNatClampNeg x1))) = 0 then
      am_ret [] 53 [] (rX10_tries n 56 [.inr (10, 0), .inl (.int x1), .inl (.int y0), .inl (.int (M 46 0 (Int32.toNatClampNeg x1))), am_D, am_D]) (fX10_of [.inr (10, 0), .inl (.int (M 46 0 (Int32.toNatClampNeg x1))), .inl (.int 0)] M)
     else am_ret [] 36 [] (rX10_tries n 39 [.inr (10, 0), .inl (.int x1), .inl (.int y0), .inl (.int (M 46 0 (Int32.toNatClampNeg x1))), am_D, am_D]) (fX10_of [.inr (10, 0), .inl (.int (M 46 0 (Int32.toNatClampNeg x1))), .inl (.int 0)] M)
    else none
   else none
  else some (.inl (some (.inl (.int 0))), M)) = some res) : rX10_tries (n + 100) 10 [.inr (10, 0), .inl (.int x1), am_D, am_D, am_D, am_D] [.inl (.int y0)] M = some res := uX10_tries ((gX10_tries_10 (rX10_tries n) x1 y0 M).trans h)
set_option maxRecDepth 20000 in
theorem gX10_tries_56 (k : Nat → List am_V → List am_V → am_M → am_R) (x1 : Int32) (x2 : Int32) (x3 : Int32) (y0 : Int32) (M : am_M) : gX10_tries k 56 [.inr (10, 0), .inl (.int x1), .inl (.int x2), .inl (.int x3), am_D, am_D] [.inl (.int y0)] M =
  if am_in x2 6 then
   if y0 ≤ (M 39 0 (Int32.toNatClampNeg x2)) then
    am_ret [] 79 [] (k 82 [.inr (10, 0), .inl (.int x1), .inl (.int x2), .inl (.int x3), .inl (.int y0), am_D]) (fX10_book [.inr (10, 0), .inl (.int x1)] M)
   else am_ret [] 72 [] (k 75 [.inr (10, 0), .inl (.int x1), .inl (.int x2), .inl (.int x3), .inl (.int y0), am_D]) (fX10_fail [.inr (10, 0), .inl (.int x1), .inl (.int 1)] M)
  else none := (rfl)
theorem eX10_tries_56 {n : Nat} {x1 : Int32} {x2 : Int32} {x3 : Int32} {y0 : Int32} {M : am_M} {res : am_O × am_M} (h : (if am_in x2 6 then
   if y0 ≤ (M 39 0 (Int32.toNatClampNeg x2)) then
    am_ret [] 79 [] (rX10_tries n 82 [.inr (10, 0), .inl (.int x1), .inl (.int x2), .inl (.int x3), .inl (.int y0), am_D]) (fX10_book [.inr (10, 0), .inl (.int x1)] M)
   else am_ret [] 72 [] (rX10_tries n 75 [.inr (10, 0), .inl (.int x1), .inl (.int x2), .inl (.int x3), .inl (.int y0), am_D]) (fX10_fail [.inr (10, 0), .inl (.int x1), .inl (.int 1)] M)
  else none) = some res) : rX10_tries (n + 100) 56 [.inr (10, 0), .inl (.int x1), .inl (.int x2), .inl (.int x3), am_D, am_D] [.inl (.int y0)] M = some res := uX10_tries ((gX10_tries_56 (rX10_tries n) x1 x2 x3 y0 M).trans h)
set_option maxRecDepth 20000 in
theorem gX10_tries_39 (k : Nat → List am_V → List am_V → am_M → am_R) (x1 : Int32) (x2 : Int32) (x3 : Int32) (y0 : Int32) (M : am_M) : gX10_tries k 39 [.inr (10, 0), .inl (.int x1), .inl (.int x2), .inl (.int x3), am_D, am_D] [.inl (.int y0)] M =
  am_ret [] 43 [.inl (.int y0)] (k 46 [.inr (10, 0), .inl (.int x1), .inl (.int x2), .inl (.int x3), am_D, am_D]) (fX10_of [.inr (10, 0), .inl (.int x3), .inl (.int 13)] M) := (rfl)
theorem eX10_tries_39 {n : Nat} {x1 : Int32} {x2 : Int32} {x3 : Int32} {y0 : Int32} {M : am_M} {res : am_O × am_M} (h : (am_ret [] 43 [.inl (.int y0)] (rX10_tries n 46 [.inr (10, 0), .inl (.int x1), .inl (.int x2), .inl (.int x3), am_D, am_D]) (fX10_of [.inr (10, 0), .inl (.int x3), .inl (.int 13)] M)) = some res) : rX10_tries (n + 100) 39 [.inr (10, 0), .inl (.int x1), .inl (.int x2), .inl (.int x3), am_D, am_D] [.inl (.int y0)] M = some res := uX10_tries ((gX10_tries_39 (rX10_tries n) x1 x2 x3 y0 M).trans h)
set_option maxRecDepth 20000 in
theorem gX10_tries_82 (k : Nat → List am_V → List am_V → am_M → am_R) (x1 : Int32) (x2 : Int32) (x3 : Int32) (x4 : Int32) (y0 : Int32) (M : am_M) : gX10_tries k 82 [.inr (10, 0), .inl (.int x1), .inl (.int x2), .inl (.int x3), .inl (.int x4), am_D] [.inl (.int y0)] M =
  if y0 = 0 then
   am_ret [] 87 [] (k 90 [.inr (10, 0), .inl (.int x1), .inl (.int x2), .inl (.int x3), .inl (.int x4), am_D]) (fX10_cancel [.inr (10, 0), .inl (.int x1)] M)
  else am_ret [] 99 [] (k 102 [.inr (10, 0), .inl (.int x1), .inl (.int x2), .inl (.int x3), .inl (.int x4), am_D]) (fX10_clean [.inr (10, 0)] M) := (rfl)
theorem eX10_tries_82 {n : Nat} {x1 : Int32} {x2 : Int32} {x3 : Int32} {x4 : Int32} {y0 : Int32} {M : am_M} {res : am_O × am_M} (h : (if y0 = 0 then
   am_ret [] 87 [] (rX10_tries n 90 [.inr (10, 0), .inl (.int x1), .inl (.int x2), .inl (.int x3), .inl (.int x4), am_D]) (fX10_cancel [.inr (10, 0), .inl (.int x1)] M)
  else am_ret [] 99 [] (rX10_tries n 102 [.inr (10, 0), .inl (.int x1), .inl (.int x2), .inl (.int x3), .inl (.int x4), am_D]) (fX10_clean [.inr (10, 0)] M)) = some res) : rX10_tries (n + 100) 82 [.inr (10, 0), .inl (.int x1), .inl (.int x2), .inl (.int x3), .inl (.int x4), am_D] [.inl (.int y0)] M = some res := uX10_tries ((gX10_tries_82 (rX10_tries n) x1 x2 x3 x4 y0 M).trans h)
set_option maxRecDepth 20000 in
theorem gX10_tries_75 (k : Nat → List am_V → List am_V → am_M → am_R) (x1 : Int32) (x2 : Int32) (x3 : Int32) (x4 : Int32) (M : am_M) : gX10_tries k 75 [.inr (10, 0), .inl (.int x1), .inl (.int x2), .inl (.int x3), .inl (.int x4), am_D] [] M =
  some (.inl (some (.inl (.int 0))), M) := (rfl)
theorem eX10_tries_75 {n : Nat} {x1 : Int32} {x2 : Int32} {x3 : Int32} {x4 : Int32} {M : am_M} {res : am_O × am_M} (h : (some (.inl (some (.inl (.int 0))), M)) = some res) : rX10_tries (n + 100) 75 [.inr (10, 0), .inl (.int x1), .inl (.int x2), .inl (.int x3), .inl (.int x4), am_D] [] M = some res := uX10_tries ((gX10_tries_75 (rX10_tries n) x1 x2 x3 x4 M).trans h)
set_option maxRecDepth 20000 in
theorem gX10_tries_46 (k : Nat → List am_V → List am_V → am_M → am_R) (x1 : Int32) (x2 : Int32) (x3 : Int32) (y0 : Int32) (y1 : Int32) (M : am_M) : gX10_tries k 46 [.inr (10, 0), .inl (.int x1), .inl (.int x2), .inl (.int x3), am_D, am_D] [.inl (.int y0), .inl (.int y1)] M =
  if y0 = 0 then
   none
  else if am_in x2 6 then
   if (y1 / y0) ≤ (M 39 0 (Int32.toNatClampNeg x2)) then
    am_ret [] 79 [] (k 82 [.inr (10, 0), .inl (.int x1), .inl (.int x2), .inl (.int x3), .inl (.int (y1 / y0)), am_D]) (fX10_book [.inr (10, 0), .inl (.int x1)] M)
   else am_ret [] 72 [] (k 75 [.inr (10, 0), .inl (.int x1), .inl (.int x2), .inl (.int x3), .inl (.int (y1 / y0)), am_D]) (fX10_fail [.inr (10, 0), .inl (.int x1), .inl (.int 1)] M)
  else none := (rfl)
theorem eX10_tries_46 {n : Nat} {x1 : Int32} {x2 : Int32} {x3 : Int32} {y0 : Int32} {y1 : Int32} {M : am_M} {res : am_O × am_M} (h : (if y0 = 0 then
   none
  else if am_in x2 6 then
   if (y1 / y0) ≤ (M 39 0 (Int32.toNatClampNeg x2)) then
    am_ret [] 79 [] (rX10_tries n 82 [.inr (10, 0), .inl (.int x1), .inl (.int x2), .inl (.int x3), .inl (.int (y1 / y0)), am_D]) (fX10_book [.inr (10, 0), .inl (.int x1)] M)
   else am_ret [] 72 [] (rX10_tries n 75 [.inr (10, 0), .inl (.int x1), .inl (.int x2), .inl (.int x3), .inl (.int (y1 / y0)), am_D]) (fX10_fail [.inr (10, 0), .inl (.int x1), .inl (.int 1)] M)
  else none) = some res) : rX10_tries (n + 100) 46 [.inr (10, 0), .inl (.int x1), .inl (.int x2), .inl (.int x3), am_D, am_D] [.inl (.int y0), .inl (.int y1)] M = some res := uX10_tries ((gX10_tries_46 (rX10_tries n) x1 x2 x3 y0 y1 M).trans h)
set_option maxRecDepth 20000 in
theorem gX10_tries_90 (k : Nat → List am_V → List am_V → am_M → am_R) (x1 : Int32) (x2 : Int32) (x3 : Int32) (x4 : Int32) (M : am_M) : gX10_tries k 90 [.inr (10, 0), .inl (.int x1), .inl (.int x2), .inl (.int x3), .inl (.int x4), am_D] [] M =
  am_ret [] 93 [] (k 96 [.inr (10, 0), .inl (.int x1), .inl (.int x2), .inl (.int x3), .inl (.int x4), am_D]) (fX10_fail [.inr (10, 0), .inl (.int x1), .inl (.int 2)] M) := (rfl)
theorem eX10_tries_90 {n : Nat} {x1 : Int32} {x2 : Int32} {x3 : Int32} {x4 : Int32} {M : am_M} {res : am_O × am_M} (h : (am_ret [] 93 [] (rX10_tries n 96 [.inr (10, 0), .inl (.int x1), .inl (.int x2), .inl (.int x3), .inl (.int x4), am_D]) (fX10_fail [.inr (10, 0), .inl (.int x1), .inl (.int 2)] M)) = some res) : rX10_tries (n + 100) 90 [.inr (10, 0), .inl (.int x1), .inl (.int x2), .inl (.int x3), .inl (.int x4), am_D] [] M = some res := uX10_tries ((gX10_tries_90 (rX10_tries n) x1 x2 x3 x4 M).trans h)
set_option maxRecDepth 20000 in
theorem gX10_tries_102 (k : Nat → List am_V → List am_V → am_M → am_R) (x1 : Int32) (x2 : Int32) (x3 : Int32) (x4 : Int32) (y0 : Int32) (M : am_M) : gX10_tries k 102 [.inr (10, 0), .inl (.int x1), .inl (.int x2), .inl (.int x3), .inl (.int x4), am_D] [.inl (.int y0)] M =
  if y0 < 0 then
   am_ret [] 118 [] (k 121 [.inr (10, 0), .inl (.int x1), .inl (.int x2), .inl (.int x3), .inl (.int x4), .inl (.int y0)]) (fX10_cancel [.inr (10, 0), .inl (.int x1)] M)
  else am_ret [] 110 [] (k 113 [.inr (10, 0), .inl (.int x1), .inl (.int x2), .inl (.int x3), .inl (.int x4), .inl (.int y0)]) (fX10_allowed [.inr (10, 0)] M) := (rfl)
theorem eX10_tries_102 {n : Nat} {x1 : Int32} {x2 : Int32} {x3 : Int32} {x4 : Int32} {y0 : Int32} {M : am_M} {res : am_O × am_M} (h : (if y0 < 0 then
   am_ret [] 118 [] (rX10_tries n 121 [.inr (10, 0), .inl (.int x1), .inl (.int x2), .inl (.int x3), .inl (.int x4), .inl (.int y0)]) (fX10_cancel [.inr (10, 0), .inl (.int x1)] M)
  else am_ret [] 110 [] (rX10_tries n 113 [.inr (10, 0), .inl (.int x1), .inl (.int x2), .inl (.int x3), .inl (.int x4), .inl (.int y0)]) (fX10_allowed [.inr (10, 0)] M)) = some res) : rX10_tries (n + 100) 102 [.inr (10, 0), .inl (.int x1), .inl (.int x2), .inl (.int x3), .inl (.int x4), am_D] [.inl (.int y0)] M = some res := uX10_tries ((gX10_tries_102 (rX10_tries n) x1 x2 x3 x4 y0 M).trans h)
set_option maxRecDepth 20000 in
theorem gX10_tries_96 (k : Nat → List am_V → List am_V → am_M → am_R) (x1 : Int32) (x2 : Int32) (x3 : Int32) (x4 : Int32) (M : am_M) : gX10_tries k 96 [.inr (10, 0), .inl (.int x1), .inl (.int x2), .inl (.int x3), .inl (.int x4), am_D] [] M =
  some (.inl (some (.inl (.int 0))), M) := (rfl)
theorem eX10_tries_96 {n : Nat} {x1 : Int32} {x2 : Int32} {x3 : Int32} {x4 : Int32} {M : am_M} {res : am_O × am_M} (h : (some (.inl (some (.inl (.int 0))), M)) = some res) : rX10_tries (n + 100) 96 [.inr (10, 0), .inl (.int x1), .inl (.int x2), .inl (.int x3), .inl (.int x4), am_D] [] M = some res := uX10_tries ((gX10_tries_96 (rX10_tries n) x1 x2 x3 x4 M).trans h)
set_option maxRecDepth 20000 in
theorem gX10_tries_121 (k : Nat → List am_V → List am_V → am_M → am_R) (x1 : Int32) (x2 : Int32) (x3 : Int32) (x4 : Int32) (x5 : Int32) (M : am_M) : gX10_tries k 121 [.inr (10, 0), .inl (.int x1), .inl (.int x2), .inl (.int x3), .inl (.int x4), .inl (.int x5)] [] M =
  some (.inl (some (.inl (.int 0))), M) := (rfl)
theorem eX10_tries_121 {n : Nat} {x1 : Int32} {x2 : Int32} {x3 : Int32} {x4 : Int32} {x5 : Int32} {M : am_M} {res : am_O × am_M} (h : (some (.inl (some (.inl (.int 0))), M)) = some res) : rX10_tries (n + 100) 121 [.inr (10, 0), .inl (.int x1), .inl (.int x2), .inl (.int x3), .inl (.int x4), .inl (.int x5)] [] M = some res := uX10_tries ((gX10_tries_121 (rX10_tries n) x1 x2 x3 x4 x5 M).trans h)
set_option maxRecDepth 20000 in
theorem gX10_tries_113 (k : Nat → List am_V → List am_V → am_M → am_R) (x1 : Int32) (x2 : Int32) (x3 : Int32) (x4 : Int32) (x5 : Int32) (y0 : Int32) (M : am_M) : gX10_tries k 113 [.inr (10, 0), .inl (.int x1), .inl (.int x2), .inl (.int x3), .inl (.int x4), .inl (.int x5)] [.inl (.int y0)] M =
  if y0 = 0 then
   am_ret [] 118 [] (k 121 [.inr (10, 0), .inl (.int x1), .inl (.int x2), .inl (.int x3), .inl (.int x4), .inl (.int x5)]) (fX10_cancel [.inr (10, 0), .inl (.int x1)] M)
  else am_ret [] 130 [] (k 133 [.inr (10, 0), .inl (.int x1), .inl (.int x2), .inl (.int x3), .inl (.int x4), .inl (.int x5)]) (fX10_start [.inr (10, 0), .inl (.int x1), .inl (.int x2), .inl (.int x5), .inl (.int x4)] M) := (rfl)
theorem eX10_tries_113 {n : Nat} {x1 : Int32} {x2 : Int32} {x3 : Int32} {x4 : Int32} {x5 : Int32} {y0 : Int32} {M : am_M} {res : am_O × am_M} (h : (if y0 = 0 then
   am_ret [] 118 [] (rX10_tries n 121 [.inr (10, 0), .inl (.int x1), .inl (.int x2), .inl (.int x3), .inl (.int x4), .inl (.int x5)]) (fX10_cancel [.inr (10, 0), .inl (.int x1)] M)
  else am_ret [] 130 [] (rX10_tries n 133 [.inr (10, 0), .inl (.int x1), .inl (.int x2), .inl (.int x3), .inl (.int x4), .inl (.int x5)]) (fX10_start [.inr (10, 0), .inl (.int x1), .inl (.int x2), .inl (.int x5), .inl (.int x4)] M)) = some res) : rX10_tries (n + 100) 113 [.inr (10, 0), .inl (.int x1), .inl (.int x2), .inl (.int x3), .inl (.int x4), .inl (.int x5)] [.inl (.int y0)] M = some res := uX10_tries ((gX10_tries_113 (rX10_tries n) x1 x2 x3 x4 x5 y0 M).trans h)
set_option maxRecDepth 20000 in
theorem gX10_tries_133 (k : Nat → List am_V → List am_V → am_M → am_R) (x1 : Int32) (x2 : Int32) (x3 : Int32) (x4 : Int32) (x5 : Int32) (M : am_M) : gX10_tries k 133 [.inr (10, 0), .inl (.int x1), .inl (.int x2), .inl (.int x3), .inl (.int x4), .inl (.int x5)] [] M =
  some (.inl (some (.inl (.int 1))), M) := (rfl)
theorem eX10_tries_133 {n : Nat} {x1 : Int32} {x2 : Int32} {x3 : Int32} {x4 : Int32} {x5 : Int32} {M : am_M} {res : am_O × am_M} (h : (some (.inl (some (.inl (.int 1))), M)) = some res) : rX10_tries (n + 100) 133 [.inr (10, 0), .inl (.int x1), .inl (.int x2), .inl (.int x3), .inl (.int x4), .inl (.int x5)] [] M = some res := uX10_tries ((gX10_tries_133 (rX10_tries n) x1 x2 x3 x4 x5 M).trans h)
def rX10_startOne (n pc : Nat) (ls st : List am_V) (M : am_M) : am_R := am_run [fX10_tries] [] 1 am_X0 pX10_startOne n pc ls st M
def gX10_startOne (k : Nat → List am_V → List am_V → am_M → am_R) (pc : Nat) (ls st : List am_V) (M : am_M) : am_R := am_go [fX10_tries] [] 1 am_X0 pX10_startOne [2, 8, 49] k 100 pc ls st M
theorem uX10_startOne {n pc : Nat} {ls st : List am_V} {M : am_M} {res : am_O × am_M} (h : gX10_startOne (rX10_startOne n) pc ls st M = some res) : rX10_startOne (n + 100) pc ls st M = some res := am_go_ok h
theorem eX10_startOne (M : am_M) : fX10_startOne [.inr (10, 0)] M = rX10_startOne 100000 0 [.inr (10, 0), am_D, am_D] [] M := am_meth_eq rfl rfl
set_option maxRecDepth 20000 in
theorem gX10_startOne_0 (k : Nat → List am_V → List am_V → am_M → am_R) (M : am_M) : gX10_startOne k 0 [.inr (10, 0), am_D, am_D] [] M =
  k 2 [.inr (10, 0), .inl (.int 1), am_D] [] M := (rfl)
theorem eX10_startOne_0 {n : Nat} {M : am_M} {res : am_O × am_M} (h : (rX10_startOne n 2 [.inr (10, 0), .inl (.int 1), am_D] [] M) = some res) : rX10_startOne (n + 100) 0 [.inr (10, 0), am_D, am_D] [] M = some res := uX10_startOne ((gX10_startOne_0 (rX10_startOne n) M).trans h)
set_option maxRecDepth 20000 in
theorem gX10_startOne_2 (k : Nat → List am_V → List am_V → am_M → am_R) (x1 : Int32) (M : am_M) : gX10_startOne k 2 [.inr (10, 0), .inl (.int x1), am_D] [] M =
  if x1 < 0 then
   some (.inl (some (.inl (.int (-1)))), M)
  else k 8 [.inr (10, 0), .inl (.int x1), .inl (.int 0)] [] M := (rfl)
theorem eX10_startOne_2 {n : Nat} {x1 : Int32} {M : am_M} {res : am_O × am_M} (h : (if x1 < 0 then
   some (.inl (some (.inl (.int (-1)))), M)
  else rX10_startOne n 8 [.inr (10, 0), .inl (.int x1), .inl (.int 0)] [] M) = some res) : rX10_startOne (n + 100) 2 [.inr (10, 0), .inl (.int x1), am_D] [] M = some res := uX10_startOne ((gX10_startOne_2 (rX10_startOne n) x1 M).trans h)
set_option maxRecDepth 20000 in
theorem gX10_startOne_8 (k : Nat → List am_V → List am_V → am_M → am_R) (x1 : Int32) (x2 : Int32) (M : am_M) : gX10_startOne k 8 [.inr (10, 0), .inl (.int x1), .inl (.int x2)] [] M =
  if (M 10 0 14) ≤ x2 then
   k 2 [.inr (10, 0), .inl (.int (x1 + (-1))), .inl (.int x2)] [] M
  else if am_in x2 40 then
   if (M 48 0 (Int32.toNatClampNeg x2)) = 0 then
    if am_in x2 40 then
     if x1 = 1 then
      if (am_b (M 47 0 (Int32.toNatClampNeg x2))) = 1 then
       am_ret [] 46 [] (k 49 [.inr (10, 0), .inl (.int x1), .inl (.int x2)]) (fX10_tries [.inr (10, 0), .inl (.int x2)] M)
      else k 8 [.inr (10, 0), .inl (.int x1), .inl (.int (x2 + 1))] [] M
     else if (am_b (M 47 0 (Int32.toNatClampNeg x2))) = 0 then
      am_ret [] 46 [] (k 49 [.inr (10, 0), .inl (.int x1), .inl (.int x2)]) (fX10_tries [.inr (10, 0), .inl (.int x2)] M)
     else k 8 [.inr (10, 0), .inl (.int x1), .inl (.int (x2 + 1))] [] M
    else none
   else k 8 [.inr (10, 0), .inl (.int x1), .inl (.int (x2 + 1))] [] M
  else none := (rfl)
theorem eX10_startOne_8 {n : Nat} {x1 : Int32} {x2 : Int32} {M : am_M} {res : am_O × am_M} (h : (if (M 10 0 14) ≤ x2 then
   rX10_startOne n 2 [.inr (10, 0), .inl (.int (x1 + (-1))), .inl (.int x2)] [] M
  else if am_in x2 40 then
   if (M 48 0 (Int32.toNatClampNeg x2)) = 0 then
    if am_in x2 40 then
     if x1 = 1 then
      if (am_b (M 47 0 (Int32.toNatClampNeg x2))) = 1 then
       am_ret [] 46 [] (rX10_startOne n 49 [.inr (10, 0), .inl (.int x1), .inl (.int x2)]) (fX10_tries [.inr (10, 0), .inl (.int x2)] M)
      else rX10_startOne n 8 [.inr (10, 0), .inl (.int x1), .inl (.int (x2 + 1))] [] M
     else if (am_b (M 47 0 (Int32.toNatClampNeg x2))) = 0 then
      am_ret [] 46 [] (rX10_startOne n 49 [.inr (10, 0), .inl (.int x1), .inl (.int x2)]) (fX10_tries [.inr (10, 0), .inl (.int x2)] M)
     else rX10_startOne n 8 [.inr (10, 0), .inl (.int x1), .inl (.int (x2 + 1))] [] M
    else none
   else rX10_startOne n 8 [.inr (10, 0), .inl (.int x1), .inl (.int (x2 + 1))] [] M
  else none) = some res) : rX10_startOne (n + 100) 8 [.inr (10, 0), .inl (.int x1), .inl (.int x2)] [] M = some res := uX10_startOne ((gX10_startOne_8 (rX10_startOne n) x1 x2 M).trans h)
set_option maxRecDepth 20000 in
theorem gX10_startOne_2a (k : Nat → List am_V → List am_V → am_M → am_R) (x1 : Int32) (x2 : Int32) (M : am_M) : gX10_startOne k 2 [.inr (10, 0), .inl (.int x1), .inl (.int x2)] [] M =
  if x1 < 0 then
   some (.inl (some (.inl (.int (-1)))), M)
  else k 8 [.inr (10, 0), .inl (.int x1), .inl (.int 0)] [] M := (rfl)
theorem eX10_startOne_2a {n : Nat} {x1 : Int32} {x2 : Int32} {M : am_M} {res : am_O × am_M} (h : (if x1 < 0 then
   some (.inl (some (.inl (.int (-1)))), M)
  else rX10_startOne n 8 [.inr (10, 0), .inl (.int x1), .inl (.int 0)] [] M) = some res) : rX10_startOne (n + 100) 2 [.inr (10, 0), .inl (.int x1), .inl (.int x2)] [] M = some res := uX10_startOne ((gX10_startOne_2a (rX10_startOne n) x1 x2 M).trans h)
set_option maxRecDepth 20000 in
theorem gX10_startOne_49 (k : Nat → List am_V → List am_V → am_M → am_R) (x1 : Int32) (x2 : Int32) (y0 : Int32) (M : am_M) : gX10_startOne k 49 [.inr (10, 0), .inl (.int x1), .inl (.int x2)] [.inl (.int y0)] M =
  if y0 = 0 then
   k 8 [.inr (10, 0), .inl (.int x1), .inl (.int (x2 + 1))] [] M
  else some (.inl (some (.inl (.int x2))), M) := (rfl)
theorem eX10_startOne_49 {n : Nat} {x1 : Int32} {x2 : Int32} {y0 : Int32} {M : am_M} {res : am_O × am_M} (h : (if y0 = 0 then
   rX10_startOne n 8 [.inr (10, 0), .inl (.int x1), .inl (.int (x2 + 1))] [] M
  else some (.inl (some (.inl (.int x2))), M)) = some res) : rX10_startOne (n + 100) 49 [.inr (10, 0), .inl (.int x1), .inl (.int x2)] [.inl (.int y0)] M = some res := uX10_startOne ((gX10_startOne_49 (rX10_startOne n) x1 x2 y0 M).trans h)
def rX10_step (n pc : Nat) (ls st : List am_V) (M : am_M) : am_R := am_run [fX10_goOn, fX10_give, fX10_measure, fX10_of, fX10_judge, fX10_startOne] [] 1 am_X0 pX10_step n pc ls st M
def gX10_step (k : Nat → List am_V → List am_V → am_M → am_R) (pc : Nat) (ls st : List am_V) (M : am_M) : am_R := am_go [fX10_goOn, fX10_give, fX10_measure, fX10_of, fX10_judge, fX10_startOne] [] 1 am_X0 pX10_step [19, 23, 27, 29, 65, 73, 83] k 100 pc ls st M
theorem uX10_step {n pc : Nat} {ls st : List am_V} {M : am_M} {res : am_O × am_M} (h : gX10_step (rX10_step n) pc ls st M = some res) : rX10_step (n + 100) pc ls st M = some res := am_go_ok h
theorem eX10_step (M : am_M) : fX10_step [.inr (10, 0)] M = rX10_step 100000 0 [.inr (10, 0), am_D] [] M := am_meth_eq rfl rfl
set_option maxRecDepth 20000 in
theorem gX10_step_0 (k : Nat → List am_V → List am_V → am_M → am_R) (M : am_M) : gX10_step k 0 [.inr (10, 0), am_D] [] M =
  am_ret [] 16 [] (k 19 [.inr (10, 0), am_D]) (fX10_goOn [.inr (10, 0)] (am_put (am_put M 10 0 45 0) 10 0 42 ((M 10 0 42) + 1))) := (rfl)
theorem eX10_step_0 {n : Nat} {M : am_M} {res : am_O × am_M} (h : (am_ret [] 16 [] (rX10_step n 19 [.inr (10, 0), am_D]) (fX10_goOn [.inr (10, 0)] (am_put (am_put M 10 0 45 0) 10 0 42 ((M 10 0 42) + 1)))) = some res) : rX10_step (n + 100) 0 [.inr (10, 0), am_D] [] M = some res := uX10_step ((gX10_step_0 (rX10_step n) M).trans h)
set_option maxRecDepth 20000 in
theorem gX10_step_19 (k : Nat → List am_V → List am_V → am_M → am_R) (M : am_M) : gX10_step k 19 [.inr (10, 0), am_D] [] M =
  am_ret [] 20 [] (k 23 [.inr (10, 0), am_D]) (fX10_give [.inr (10, 0)] M) := (rfl)
theorem eX10_step_19 {n : Nat} {M : am_M} {res : am_O × am_M} (h : (am_ret [] 20 [] (rX10_step n 23 [.inr (10, 0), am_D]) (fX10_give [.inr (10, 0)] M)) = some res) : rX10_step (n + 100) 19 [.inr (10, 0), am_D] [] M = some res := uX10_step ((gX10_step_19 (rX10_step n) M).trans h)
set_option maxRecDepth 20000 in
theorem gX10_step_23 (k : Nat → List am_V → List am_V → am_M → am_R) (M : am_M) : gX10_step k 23 [.inr (10, 0), am_D] [] M =
  am_ret [] 24 [] (k 27 [.inr (10, 0), am_D]) (fX10_measure [.inr (10, 0)] M) := (rfl)
theorem eX10_step_23 {n : Nat} {M : am_M} {res : am_O × am_M} (h : (am_ret [] 24 [] (rX10_step n 27 [.inr (10, 0), am_D]) (fX10_measure [.inr (10, 0)] M)) = some res) : rX10_step (n + 100) 23 [.inr (10, 0), am_D] [] M = some res := uX10_step ((gX10_step_23 (rX10_step n) M).trans h)
set_option maxRecDepth 20000 in
theorem gX10_step_27 (k : Nat → List am_V → List am_V → am_M → am_R) (M : am_M) : gX10_step k 27 [.inr (10, 0), am_D] [] M =
  k 29 [.inr (10, 0), .inl (.int 0)] [] M := (rfl)
theorem eX10_step_27 {n : Nat} {M : am_M} {res : am_O × am_M} (h : (rX10_step n 29 [.inr (10, 0), .inl (.int 0)] [] M) = some res) : rX10_step (n + 100) 27 [.inr (10, 0), am_D] [] M = some res := uX10_step ((gX10_step_27 (rX10_step n) M).trans h)
set_option maxRecDepth 20000 in
theorem gX10_step_29 (k : Nat → List am_V → List am_V → am_M → am_R) (x1 : Int32) (M : am_M) : gX10_step k 29 [.inr (10, 0), .inl (.int x1)] [] M =
  if (M 10 0 14) ≤ x1 then
   am_ret [] 80 [] (k 83 [.inr (10, 0), .inl (.int x1)]) (fX10_startOne [.inr (10, 0)] M)
  else if am_in x1 40 then
   if (M 48 0 (Int32.toNatClampNeg x1)) = 1 then
    if am_in x1 40 then
     if am_in x1 40 then
      am_ret [] 62 [.inl (.int (M 52 0 (Int32.toNatClampNeg x1)))] (k 65 [.inr (10, 0), .inl (.int x1)]) (fX10_of [.inr (10, 0), .inl (.int (M 46 0 (Int32.toNatClampNeg x1))), .inl (.int 8)] M)
     else none
    else none
   else k 29 [.inr (10, 0), .inl (.int (x1 + 1))] [] M
  else none := (rfl)
theorem eX10_step_29 {n : Nat} {x1 : Int32} {M : am_M} {res : am_O × am_M} (h : (if (M 10 0 14) ≤ x1 then
   am_ret [] 80 [] (rX10_step n 83 [.inr (10, 0), .inl (.int x1)]) (fX10_startOne [.inr (10, 0)] M)
  else if am_in x1 40 then
   if (M 48 0 (Int32.toNatClampNeg x1)) = 1 then
    if am_in x1 40 then
     if am_in x1 40 then
      am_ret [] 62 [.inl (.int (M 52 0 (Int32.toNatClampNeg x1)))] (rX10_step n 65 [.inr (10, 0), .inl (.int x1)]) (fX10_of [.inr (10, 0), .inl (.int (M 46 0 (Int32.toNatClampNeg x1))), .inl (.int 8)] M)
     else none
    else none
   else rX10_step n 29 [.inr (10, 0), .inl (.int (x1 + 1))] [] M
  else none) = some res) : rX10_step (n + 100) 29 [.inr (10, 0), .inl (.int x1)] [] M = some res := uX10_step ((gX10_step_29 (rX10_step n) x1 M).trans h)
set_option maxRecDepth 20000 in
theorem gX10_step_83 (k : Nat → List am_V → List am_V → am_M → am_R) (x1 : Int32) (y0 : Int32) (M : am_M) : gX10_step k 83 [.inr (10, 0), .inl (.int x1)] [.inl (.int y0)] M =
  if 0 ≤ y0 then
   some (.inl (some (.inl (.int y0))), M)
  else some (.inl (some (.inl (.int y0))), (am_put M 10 0 43 ((M 10 0 43) + 1))) := (rfl)
theorem eX10_step_83 {n : Nat} {x1 : Int32} {y0 : Int32} {M : am_M} {res : am_O × am_M} (h : (if 0 ≤ y0 then
   some (.inl (some (.inl (.int y0))), M)
  else some (.inl (some (.inl (.int y0))), (am_put M 10 0 43 ((M 10 0 43) + 1)))) = some res) : rX10_step (n + 100) 83 [.inr (10, 0), .inl (.int x1)] [.inl (.int y0)] M = some res := uX10_step ((gX10_step_83 (rX10_step n) x1 y0 M).trans h)
set_option maxRecDepth 20000 in
theorem gX10_step_65 (k : Nat → List am_V → List am_V → am_M → am_R) (x1 : Int32) (y0 : Int32) (y1 : Int32) (M : am_M) : gX10_step k 65 [.inr (10, 0), .inl (.int x1)] [.inl (.int y0), .inl (.int y1)] M =
  if y1 ≤ y0 then
   k 29 [.inr (10, 0), .inl (.int (x1 + 1))] [] M
  else am_ret [] 70 [] (k 73 [.inr (10, 0), .inl (.int x1)]) (fX10_judge [.inr (10, 0), .inl (.int x1)] M) := (rfl)
theorem eX10_step_65 {n : Nat} {x1 : Int32} {y0 : Int32} {y1 : Int32} {M : am_M} {res : am_O × am_M} (h : (if y1 ≤ y0 then
   rX10_step n 29 [.inr (10, 0), .inl (.int (x1 + 1))] [] M
  else am_ret [] 70 [] (rX10_step n 73 [.inr (10, 0), .inl (.int x1)]) (fX10_judge [.inr (10, 0), .inl (.int x1)] M)) = some res) : rX10_step (n + 100) 65 [.inr (10, 0), .inl (.int x1)] [.inl (.int y0), .inl (.int y1)] M = some res := uX10_step ((gX10_step_65 (rX10_step n) x1 y0 y1 M).trans h)
set_option maxRecDepth 20000 in
theorem gX10_step_73 (k : Nat → List am_V → List am_V → am_M → am_R) (x1 : Int32) (M : am_M) : gX10_step k 73 [.inr (10, 0), .inl (.int x1)] [] M =
  k 29 [.inr (10, 0), .inl (.int (x1 + 1))] [] M := (rfl)
theorem eX10_step_73 {n : Nat} {x1 : Int32} {M : am_M} {res : am_O × am_M} (h : (rX10_step n 29 [.inr (10, 0), .inl (.int (x1 + 1))] [] M) = some res) : rX10_step (n + 100) 73 [.inr (10, 0), .inl (.int x1)] [] M = some res := uX10_step ((gX10_step_73 (rX10_step n) x1 M).trans h)
def rX10_idle (n pc : Nat) (ls st : List am_V) (M : am_M) : am_R := am_run [] [] 1 am_X0 pX10_idle n pc ls st M
def gX10_idle (k : Nat → List am_V → List am_V → am_M → am_R) (pc : Nat) (ls st : List am_V) (M : am_M) : am_R := am_go [] [] 1 am_X0 pX10_idle [] k 100 pc ls st M
theorem uX10_idle {n pc : Nat} {ls st : List am_V} {M : am_M} {res : am_O × am_M} (h : gX10_idle (rX10_idle n) pc ls st M = some res) : rX10_idle (n + 100) pc ls st M = some res := am_go_ok h
theorem eX10_idle (M : am_M) : fX10_idle [.inr (10, 0)] M = rX10_idle 100000 0 [.inr (10, 0)] [] M := am_meth_eq rfl rfl
set_option maxRecDepth 20000 in
theorem gX10_idle_0 (k : Nat → List am_V → List am_V → am_M → am_R) (M : am_M) : gX10_idle k 0 [.inr (10, 0)] [] M =
  some (.inl (some (.inl (.int (M 10 0 43)))), (am_put M 10 0 45 0)) := (rfl)
theorem eX10_idle_0 {n : Nat} {M : am_M} {res : am_O × am_M} (h : (some (.inl (some (.inl (.int (M 10 0 43)))), (am_put M 10 0 45 0))) = some res) : rX10_idle (n + 100) 0 [.inr (10, 0)] [] M = some res := uX10_idle ((gX10_idle_0 (rX10_idle n) M).trans h)
def rX10_state (n pc : Nat) (ls st : List am_V) (M : am_M) : am_R := am_run [fX10_within] [] 1 am_X0 pX10_state n pc ls st M
def gX10_state (k : Nat → List am_V → List am_V → am_M → am_R) (pc : Nat) (ls st : List am_V) (M : am_M) : am_R := am_go [fX10_within] [] 1 am_X0 pX10_state [20] k 100 pc ls st M
theorem uX10_state {n pc : Nat} {ls st : List am_V} {M : am_M} {res : am_O × am_M} (h : gX10_state (rX10_state n) pc ls st M = some res) : rX10_state (n + 100) pc ls st M = some res := am_go_ok h
theorem eX10_state (x1 : Int32) (x2 : Int32) (M : am_M) : fX10_state [.inr (10, 0), .inl (.int x1), .inl (.int x2)] M = rX10_state 100000 0 [.inr (10, 0), .inl (.int x1), .inl (.int x2)] [] M := am_meth_eq rfl rfl
set_option maxRecDepth 20000 in
theorem gX10_state_0 (k : Nat → List am_V → List am_V → am_M → am_R) (x1 : Int32) (x2 : Int32) (M : am_M) : gX10_state k 0 [.inr (10, 0), .inl (.int x1), .inl (.int x2)] [] M =
  if x1 < 0 then
   some (.inl (some (.inl (.int 0))), (am_put M 10 0 45 1))
  else if (M 10 0 14) ≤ x1 then
   some (.inl (some (.inl (.int 0))), (am_put M 10 0 45 1))
  else am_ret [] 17 [.inr (10, 0)] (k 20 [.inr (10, 0), .inl (.int x1), .inl (.int x2)]) (fX10_within [.inl (.int x2), .inl (.int 0), .inl (.int 6)] M) := (rfl)
theorem eX10_state_0 {n : Nat} {x1 : Int32} {x2 : Int32} {M : am_M} {res : am_O × am_M} (h : (if x1 < 0 then
   some (.inl (some (.inl (.int 0))), (am_put M 10 0 45 1))
  else if (M 10 0 14) ≤ x1 then
   some (.inl (some (.inl (.int 0))), (am_put M 10 0 45 1))
  else am_ret [] 17 [.inr (10, 0)] (rX10_state n 20 [.inr (10, 0), .inl (.int x1), .inl (.int x2)]) (fX10_within [.inl (.int x2), .inl (.int 0), .inl (.int 6)] M)) = some res) : rX10_state (n + 100) 0 [.inr (10, 0), .inl (.int x1), .inl (.int x2)] [] M = some res := uX10_state ((gX10_state_0 (rX10_state n) x1 x2 M).trans h)
set_option maxRecDepth 20000 in
theorem gX10_state_20 (k : Nat → List am_V → List am_V → am_M → am_R) (x1 : Int32) (x2 : Int32) (y0 : Int32) (M : am_M) : gX10_state k 20 [.inr (10, 0), .inl (.int x1), .inl (.int x2)] [.inl (.int y0), .inr (10, 0)] M =
  if y0 = 0 then
   some (.inl (some (.inl (.int 0))), (am_put M 10 0 45 1))
  else if x2 = 0 then
   if am_in x1 40 then
    some (.inl (some (.inl (.int (M 48 0 (Int32.toNatClampNeg x1))))), (am_put M 10 0 45 0))
   else none
  else if x2 = 1 then
   if am_in x1 40 then
    some (.inl (some (.inl (.int (M 49 0 (Int32.toNatClampNeg x1))))), (am_put M 10 0 45 0))
   else none
  else if x2 = 2 then
   if am_in x1 40 then
    some (.inl (some (.inl (.int (M 50 0 (Int32.toNatClampNeg x1))))), (am_put M 10 0 45 0))
   else none
  else if x2 = 3 then
   if am_in x1 40 then
    some (.inl (some (.inl (.int (M 51 0 (Int32.toNatClampNeg x1))))), (am_put M 10 0 45 0))
   else none
  else if x2 = 4 then
   if am_in x1 40 then
    if (M 48 0 (Int32.toNatClampNeg x1)) = 1 then
     if am_in x1 40 then
      some (.inl (some (.inl (.int (M 52 0 (Int32.toNatClampNeg x1))))), (am_put M 10 0 45 0))
     else none
    else some (.inl (some (.inl (.int (-1)))), (am_put M 10 0 45 0))
   else none
  else if x2 = 5 then
   if am_in x1 40 then
    some (.inl (some (.inl (.int (M 57 0 (Int32.toNatClampNeg x1))))), (am_put M 10 0 45 0))
   else none
  else if am_in x1 40 then
   some (.inl (some (.inl (.int (M 58 0 (Int32.toNatClampNeg x1))))), (am_put M 10 0 45 0))
  else none := (rfl)
theorem eX10_state_20 {n : Nat} {x1 : Int32} {x2 : Int32} {y0 : Int32} {M : am_M} {res : am_O × am_M} (h : (if y0 = 0 then
   some (.inl (some (.inl (.int 0))), (am_put M 10 0 45 1))
  else if x2 = 0 then
   if am_in x1 40 then
    some (.inl (some (.inl (.int (M 48 0 (Int32.toNatClampNeg x1))))), (am_put M 10 0 45 0))
   else none
  else if x2 = 1 then
   if am_in x1 40 then
    some (.inl (some (.inl (.int (M 49 0 (Int32.toNatClampNeg x1))))), (am_put M 10 0 45 0))
   else none
  else if x2 = 2 then
   if am_in x1 40 then
    some (.inl (some (.inl (.int (M 50 0 (Int32.toNatClampNeg x1))))), (am_put M 10 0 45 0))
   else none
  else if x2 = 3 then
   if am_in x1 40 then
    some (.inl (some (.inl (.int (M 51 0 (Int32.toNatClampNeg x1))))), (am_put M 10 0 45 0))
   else none
  else if x2 = 4 then
   if am_in x1 40 then
    if (M 48 0 (Int32.toNatClampNeg x1)) = 1 then
     if am_in x1 40 then
      some (.inl (some (.inl (.int (M 52 0 (Int32.toNatClampNeg x1))))), (am_put M 10 0 45 0))
     else none
    else some (.inl (some (.inl (.int (-1)))), (am_put M 10 0 45 0))
   else none
  else if x2 = 5 then
   if am_in x1 40 then
    some (.inl (some (.inl (.int (M 57 0 (Int32.toNatClampNeg x1))))), (am_put M 10 0 45 0))
   else none
  else if am_in x1 40 then
   some (.inl (some (.inl (.int (M 58 0 (Int32.toNatClampNeg x1))))), (am_put M 10 0 45 0))
  else none) = some res) : rX10_state (n + 100) 20 [.inr (10, 0), .inl (.int x1), .inl (.int x2)] [.inl (.int y0), .inr (10, 0)] M = some res := uX10_state ((gX10_state_20 (rX10_state n) x1 x2 y0 M).trans h)
def rX10_cuvette (n pc : Nat) (ls st : List am_V) (M : am_M) : am_R := am_run [fX10_within] [] 1 am_X0 pX10_cuvette n pc ls st M
def gX10_cuvette (k : Nat → List am_V → List am_V → am_M → am_R) (pc : Nat) (ls st : List am_V) (M : am_M) : am_R := am_go [fX10_within] [] 1 am_X0 pX10_cuvette [8, 17, 63] k 100 pc ls st M
theorem uX10_cuvette {n pc : Nat} {ls st : List am_V} {M : am_M} {res : am_O × am_M} (h : gX10_cuvette (rX10_cuvette n) pc ls st M = some res) : rX10_cuvette (n + 100) pc ls st M = some res := am_go_ok h
theorem eX10_cuvette (x1 : Int32) (x2 : Int32) (M : am_M) : fX10_cuvette [.inr (10, 0), .inl (.int x1), .inl (.int x2)] M = rX10_cuvette 100000 0 [.inr (10, 0), .inl (.int x1), .inl (.int x2), am_D] [] M := am_meth_eq rfl rfl
set_option maxRecDepth 20000 in
theorem gX10_cuvette_0 (k : Nat → List am_V → List am_V → am_M → am_R) (x1 : Int32) (x2 : Int32) (M : am_M) : gX10_cuvette k 0 [.inr (10, 0), .inl (.int x1), .inl (.int x2), am_D] [] M =
  am_ret [] 5 [.inr (10, 0)] (k 8 [.inr (10, 0), .inl (.int x1), .inl (.int x2), am_D]) (fX10_within [.inl (.int x1), .inl (.int 0), .inl (.int 9)] M) := (rfl)
theorem eX10_cuvette_0 {n : Nat} {x1 : Int32} {x2 : Int32} {M : am_M} {res : am_O × am_M} (h : (am_ret [] 5 [.inr (10, 0)] (rX10_cuvette n 8 [.inr (10, 0), .inl (.int x1), .inl (.int x2), am_D]) (fX10_within [.inl (.int x1), .inl (.int 0), .inl (.int 9)] M)) = some res) : rX10_cuvette (n + 100) 0 [.inr (10, 0), .inl (.int x1), .inl (.int x2), am_D] [] M = some res := uX10_cuvette ((gX10_cuvette_0 (rX10_cuvette n) x1 x2 M).trans h)
set_option maxRecDepth 20000 in
theorem gX10_cuvette_8 (k : Nat → List am_V → List am_V → am_M → am_R) (x1 : Int32) (x2 : Int32) (y0 : Int32) (M : am_M) : gX10_cuvette k 8 [.inr (10, 0), .inl (.int x1), .inl (.int x2), am_D] [.inl (.int y0), .inr (10, 0)] M =
  if y0 = 0 then
   some (.inl (some (.inl (.int 0))), (am_put M 10 0 45 1))
  else am_ret [] 14 [.inr (10, 0)] (k 17 [.inr (10, 0), .inl (.int x1), .inl (.int x2), am_D]) (fX10_within [.inl (.int x2), .inl (.int 0), .inl (.int 2)] M) := (rfl)
theorem eX10_cuvette_8 {n : Nat} {x1 : Int32} {x2 : Int32} {y0 : Int32} {M : am_M} {res : am_O × am_M} (h : (if y0 = 0 then
   some (.inl (some (.inl (.int 0))), (am_put M 10 0 45 1))
  else am_ret [] 14 [.inr (10, 0)] (rX10_cuvette n 17 [.inr (10, 0), .inl (.int x1), .inl (.int x2), am_D]) (fX10_within [.inl (.int x2), .inl (.int 0), .inl (.int 2)] M)) = some res) : rX10_cuvette (n + 100) 8 [.inr (10, 0), .inl (.int x1), .inl (.int x2), am_D] [.inl (.int y0), .inr (10, 0)] M = some res := uX10_cuvette ((gX10_cuvette_8 (rX10_cuvette n) x1 x2 y0 M).trans h)
set_option maxRecDepth 20000 in
theorem gX10_cuvette_17 (k : Nat → List am_V → List am_V → am_M → am_R) (x1 : Int32) (x2 : Int32) (y0 : Int32) (M : am_M) : gX10_cuvette k 17 [.inr (10, 0), .inl (.int x1), .inl (.int x2), am_D] [.inl (.int y0), .inr (10, 0)] M =
  if y0 = 0 then
   some (.inl (some (.inl (.int 0))), (am_put M 10 0 45 1))
  else if x2 = 1 then
   if am_in x1 10 then
    some (.inl (some (.inl (.int (M 59 0 (Int32.toNatClampNeg x1))))), (am_put M 10 0 45 0))
   else none
  else if x2 = 2 then
   if am_in x1 10 then
    some (.inl (some (.inl (.int (M 60 0 (Int32.toNatClampNeg x1))))), (am_put M 10 0 45 0))
   else none
  else k 63 [.inr (10, 0), .inl (.int x1), .inl (.int x2), .inl (.int 0)] [] (am_put M 10 0 45 0) := (rfl)
theorem eX10_cuvette_17 {n : Nat} {x1 : Int32} {x2 : Int32} {y0 : Int32} {M : am_M} {res : am_O × am_M} (h : (if y0 = 0 then
   some (.inl (some (.inl (.int 0))), (am_put M 10 0 45 1))
  else if x2 = 1 then
   if am_in x1 10 then
    some (.inl (some (.inl (.int (M 59 0 (Int32.toNatClampNeg x1))))), (am_put M 10 0 45 0))
   else none
  else if x2 = 2 then
   if am_in x1 10 then
    some (.inl (some (.inl (.int (M 60 0 (Int32.toNatClampNeg x1))))), (am_put M 10 0 45 0))
   else none
  else rX10_cuvette n 63 [.inr (10, 0), .inl (.int x1), .inl (.int x2), .inl (.int 0)] [] (am_put M 10 0 45 0)) = some res) : rX10_cuvette (n + 100) 17 [.inr (10, 0), .inl (.int x1), .inl (.int x2), am_D] [.inl (.int y0), .inr (10, 0)] M = some res := uX10_cuvette ((gX10_cuvette_17 (rX10_cuvette n) x1 x2 y0 M).trans h)
set_option maxRecDepth 20000 in
theorem gX10_cuvette_63 (k : Nat → List am_V → List am_V → am_M → am_R) (x1 : Int32) (x2 : Int32) (x3 : Int32) (M : am_M) : gX10_cuvette k 63 [.inr (10, 0), .inl (.int x1), .inl (.int x2), .inl (.int x3)] [] M =
  if (M 10 0 14) ≤ x3 then
   some (.inl (some (.inl (.int (-1)))), M)
  else if am_in x3 40 then
   if (M 51 0 (Int32.toNatClampNeg x3)) = x1 then
    some (.inl (some (.inl (.int x3))), M)
   else k 63 [.inr (10, 0), .inl (.int x1), .inl (.int x2), .inl (.int (x3 + 1))] [] M
  else none := (rfl)
theorem eX10_cuvette_63 {n : Nat} {x1 : Int32} {x2 : Int32} {x3 : Int32} {M : am_M} {res : am_O × am_M} (h : (if (M 10 0 14) ≤ x3 then
   some (.inl (some (.inl (.int (-1)))), M)
  else if am_in x3 40 then
   if (M 51 0 (Int32.toNatClampNeg x3)) = x1 then
    some (.inl (some (.inl (.int x3))), M)
   else rX10_cuvette n 63 [.inr (10, 0), .inl (.int x1), .inl (.int x2), .inl (.int (x3 + 1))] [] M
  else none) = some res) : rX10_cuvette (n + 100) 63 [.inr (10, 0), .inl (.int x1), .inl (.int x2), .inl (.int x3)] [] M = some res := uX10_cuvette ((gX10_cuvette_63 (rX10_cuvette n) x1 x2 x3 M).trans h)
