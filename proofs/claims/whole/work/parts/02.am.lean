/-! ===== the small machine: values, memory, rows, one step, a run ===== -/
/-- a value: a number or null as it is, a reference as (kind, place) -/
abbrev am_V : Type := Value ⊕ (Nat × Nat)
/-- what all cells hold: kind, place, slot -/
abbrev am_M : Type := Nat → Nat → Nat → Int32
/-- returned (with what), or thrown (of which class) -/
abbrev am_O : Type := Option am_V ⊕ String
abbrev am_R : Type := Option (am_O × am_M)
abbrev am_F : Type := List am_V → am_M → am_R
/-- instruction, length, two numbers, a constant -/
abbrev am_Row : Type := Instr × Nat × Nat × Nat × Value
abbrev am_P : Type := List (List (Nat × am_Row))
def am_find : List (Nat × am_Row) → Nat → Option am_Row
  | [], _ => none
  | q :: l, pc => cond (Nat.beq q.1 pc) (some q.2) (am_find l pc)
def am_at (P : am_P) (pc : Nat) : Option am_Row := match P[pc / 16]? with
  | none => none
  | some l => am_find l pc
def am_D : am_V := .inl (.float 0)
def am_isD : am_V → Bool
  | .inl (.float _) => true
  | _ => false
def am_kill (ls : List am_V) (i : Nat) : List am_V := match i with
  | 0 => ls
  | j + 1 => match ls[j]? with
    | some (.inl (.long _)) => ls.set j am_D
    | _ => ls
def am_set1 (ls : List am_V) (i : Nat) (v : am_V) : List am_V := (am_kill ls i).set i v
def am_set2 (ls : List am_V) (i : Nat) (v : am_V) : List am_V := ((am_kill ls i).set i v).set (i + 1) am_D
def am_put (M : am_M) (k i f : Nat) (v : Int32) : am_M := fun k' i' f' => if k' = k ∧ i' = i ∧ f' = f then v else M k' i' f'
/-- a number as a boolean cell holds it -/
def am_b (x : Int32) : Int32 := if x = 0 then 0 else 1
/-- a long as two cells -/
def am_hi (x : Int64) : Int32 := Int32.ofNat (x.toBitVec.toNat / 4294967296)
def am_lo (x : Int64) : Int32 := Int32.ofNat (x.toBitVec.toNat % 4294967296)
def am_jn (h l : Int32) : Int64 := Int64.ofNat (h.toBitVec.toNat * 4294967296 + l.toBitVec.toNat)
abbrev am_in (x : Int32) (n : Nat) : Prop := 0 ≤ x.toInt ∧ x.toInt < n
/-- a switch by ifs -/
def am_sw {R : Type} (K : Nat → R) (d : Nat) (x : Int32) : List (Int32 × Nat) → R
  | [] => K d
  | q :: l => if x = q.1 then K q.2 else am_sw K d x l
/-- which handler catches at a pc, by the class's name: the constant that is then returned -/
def am_catch (hs : List (Nat × Nat × String × Value)) (pc : Nat) (E : String) : Option Value := match hs with
  | [] => none
  | h :: l => if h.1 ≤ pc ∧ pc < h.2.1 ∧ h.2.2.1 = E then some h.2.2.2 else am_catch l pc E
def am_wt : List am_V → Nat
  | [] => 0
  | .inl (.long _) :: l => 2 + am_wt l
  | _ :: l => 1 + am_wt l
/-- reference fields: which kind they lead to (at the same place); none: a number -/
def am_ftl : List (List (Option Nat)) := [
  [some 11, some 12, none],
  [some 13, none, some 14, some 15, none, none, none, none, none, none],
  [some 16, none],
  [some 17, none],
  [none, none, none, none, none, none, none, none, none, none],
  [none, none, none, none],
  [some 18, some 0, some 2, none],
  [some 19, some 20, some 21],
  [none, none, none],
  [some 22, some 23, some 24, some 25, some 26, some 7, some 3, none, none, none, none, none, none],
  [some 30, some 31, some 32, some 33, some 34, some 35, some 36, some 37, some 38, some 39, some 40, some 41, some 42, some 43, none, some 45, some 46, some 47, some 48, some 49, some 50, some 51, some 52, some 53, some 54, some 55, some 56, some 57, some 58, some 59, some 60, some 61, some 62, some 63, some 64, some 65, none, none, none, some 69, none, none, none, none, none, none, none, none]]
def am_ft (c f : Nat) : Option Nat := ((am_ftl.getD c []).getD f none)
/-- boolean fields -/
def am_fzl : List (List Bool) := [
  [false, false, false],
  [false, false, false, false, false, false, true, false, false, false],
  [false, false],
  [false, false],
  [false, false, true, false, false, false, true, false, false, false],
  [false, false, false, false],
  [false, false, false, true],
  [false, false, false],
  [false, true, false],
  [false, false, false, false, false, false, false, false, false, false, true, true, false],
  [false, false, false, false, false, false, false, false, false, false, false, false, false, false, false, false, false, false, false, false, false, false, false, false, false, false, false, false, false, false, false, false, false, false, false, false, false, false, false, false, false, false, false, false, false, false, true, true]]
def am_fz (c f : Nat) : Bool := ((am_fzl.getD c []).getD f false)
/-- how many fields a class has -/
def am_nf (c : Nat) : Nat := (am_ftl.getD c []).length
/-- arrays: what they hold (0 int, 1 boolean, 2 long, 3 + k: references to kind k), how many -/
def am_arl : List (Option (Nat × Nat)) := [none, none, none, none, none, none, none, none, none, none, none, some (0, 5), some (0, 5), some (0, 6), some (0, 2), some (0, 2), some (0, 10), some (0, 40), some (0, 16), some (0, 13), some (0, 13), some (1, 36), some (9, 4), some (11, 6), some (8, 8), some (4, 10), some (7, 40), none, none, none, some (0, 64), some (1, 4), some (0, 20), some (0, 20), some (0, 4), some (0, 40), some (0, 4), some (0, 6), some (0, 6), some (0, 6), some (0, 8), some (0, 8), some (0, 8), some (1, 36), none, some (0, 40), some (0, 40), some (1, 40), some (0, 40), some (0, 40), some (0, 40), some (0, 40), some (0, 40), some (1, 40), some (1, 40), some (0, 240), some (0, 40), some (0, 40), some (0, 40), some (0, 10), some (0, 10), some (0, 24), some (0, 24), some (0, 24), some (0, 24), some (0, 24), none, none, none, some (0, 40), none, none, none, none, none, none, none, none, none, none, some (2, 1)]
def am_ar (k : Nat) : Option (Nat × Nat) := am_arl.getD k none
/-- how many cells of a kind there are -/
def am_ctl : List Nat := [4, 10, 4, 1, 40, 8, 4, 1, 6, 1, 1, 4, 4, 10, 10, 10, 4, 1, 4, 1, 1, 1, 1, 1, 1, 1, 1, 0, 0, 0, 1, 1, 1, 1, 1, 1, 1, 1, 1, 1, 1, 1, 1, 1, 0, 1, 1, 1, 1, 1, 1, 1, 1, 1, 1, 1, 1, 1, 1, 1, 1, 1, 1, 1, 1, 1, 0, 0, 0, 1, 0, 0, 0, 0, 0, 0, 0, 0, 0, 0, 1]
def am_ct (k : Nat) : Nat := am_ctl.getD k 0
/-- the class's two rows of constants, kinds 27 and 28 -/
def am_st (k j : Nat) : Int32 := (if k = 27 then [0, -1, 0, 0, -1, 0, 0, 0, 0, 0, -2147483648, -2147483648, 0, 2, -2147483648, 1] else [500, 5, 2000, 12, 5, 2000, 12, 12, 12, 2, 2147483647, 2147483647, 2, 10, 2147483647, 1000000] : List Int32).getD j 0
/-- a method's end by a return (rt: 0 nothing, 1 int, 2 boolean, 3 long, 4 reference, 5: the law) -/
def am_fin (rt : Nat) (i : Instr) (_ls st : List am_V) : Option am_O := match i with
  | .return_ => match st with
    | [] => cond (Nat.beq rt 0) (some (.inl none)) none
    | _ => none
  | .ireturn => match st with
    | [.inl (.int x)] => cond (Nat.beq rt 1 || Nat.beq rt 5) (some (.inl (some (.inl (.int x))))) (cond (Nat.beq rt 2) (if am_b x = x then some (.inl (some (.inl (.int x)))) else none) none)
    | _ => none
  | .lreturn => match st with
    | [.inl (.long x)] => cond (Nat.beq rt 3) (some (.inl (some (.inl (.long x))))) none
    | _ => none
  | .areturn => match st with
    | [.inr q] => cond (Nat.beq rt 4) (some (.inl (some (.inr q)))) none
    | [.inl .null] => cond (Nat.beq rt 4) (some (.inl (some (.inl .null)))) none
    | _ => none
  | _ => none
/-- an answer that its caller may use -/
def am_okv : Option am_V → Bool
  | none => true
  | some (.inl (.int _)) => true
  | some (.inl (.long _)) => true
  | some (.inl .null) => true
  | some (.inr (k, j)) => Nat.blt j (am_ct k)
  | _ => false
/-- behind a call -/
def am_ret (hs : List (Nat × Nat × String × Value)) (pc : Nat) (rest : List am_V) (K : List am_V → am_M → am_R) (r : am_R) : am_R := match r with
  | none => none
  | some (.inl v, M) => cond (am_okv v) (K (v.toList ++ rest) M) none
  | some (.inr E, M) => match am_catch hs pc E with
    | none => some (.inr E, M)
    | some v => some (.inl (some (.inl v)), M)
def am_call (cs : List am_F) (a : Nat) (av : List am_V) (M : am_M) : am_R := match cs[a]? with
  | none => none
  | some F => F av M
def am_step (cs : List am_F) (hs : List (Nat × Nat × String × Value)) (rt : Nat) (X : Nat × (Nat → Int32)) (P : am_P) (K : Nat → List am_V → List am_V → am_M → am_R) (pc : Nat) (ls st : List am_V) (M : am_M) : am_R :=
  match am_at P pc with
  | none => none
  | some (i, len, a, b, z) => match i with
    | .iconst _ => K (pc + len) ls (.inl z :: st) M
    | .bipush _ => K (pc + len) ls (.inl z :: st) M
    | .sipush _ => K (pc + len) ls (.inl z :: st) M
    | .ldc _ => K (pc + len) ls (.inl z :: st) M
    | .lconst _ => K (pc + len) ls (.inl z :: st) M
    | .ldc2_w _ => K (pc + len) ls (.inl z :: st) M
    | .aconst_null => K (pc + len) ls (.inl .null :: st) M
    | .iload_n _ => match ls[a]? with
      | some (.inl (.int x)) => K (pc + len) ls (.inl (.int x) :: st) M
      | _ => none
    | .iload _ => match ls[a]? with
      | some (.inl (.int x)) => K (pc + len) ls (.inl (.int x) :: st) M
      | _ => none
    | .lload_n _ => match ls[a]? with
      | some (.inl (.long x)) => K (pc + len) ls (.inl (.long x) :: st) M
      | _ => none
    | .lload _ => match ls[a]? with
      | some (.inl (.long x)) => K (pc + len) ls (.inl (.long x) :: st) M
      | _ => none
    | .aload_n _ => match ls[a]? with
      | some (.inr q) => K (pc + len) ls (.inr q :: st) M
      | some (.inl .null) => K (pc + len) ls (.inl .null :: st) M
      | _ => none
    | .aload _ => match ls[a]? with
      | some (.inr q) => K (pc + len) ls (.inr q :: st) M
      | some (.inl .null) => K (pc + len) ls (.inl .null :: st) M
      | _ => none
    | .istore_n _ => match st with
      | .inl (.int x) :: r => K (pc + len) (am_set1 ls a (.inl (.int x))) r M
      | _ => none
    | .istore _ => match st with
      | .inl (.int x) :: r => K (pc + len) (am_set1 ls a (.inl (.int x))) r M
      | _ => none
    | .lstore_n _ => match st with
      | .inl (.long x) :: r => K (pc + len) (am_set2 ls a (.inl (.long x))) r M
      | _ => none
    | .lstore _ => match st with
      | .inl (.long x) :: r => K (pc + len) (am_set2 ls a (.inl (.long x))) r M
      | _ => none
    | .astore_n _ => match st with
      | .inr q :: r => K (pc + len) (am_set1 ls a (.inr q)) r M
      | .inl .null :: r => K (pc + len) (am_set1 ls a (.inl .null)) r M
      | _ => none
    | .astore _ => match st with
      | .inr q :: r => K (pc + len) (am_set1 ls a (.inr q)) r M
      | .inl .null :: r => K (pc + len) (am_set1 ls a (.inl .null)) r M
      | _ => none
    | .iinc _ _ => match ls[a]?, z with
      | some (.inl (.int x)), .int v => K (pc + len) (am_set1 ls a (.inl (.int (x + v)))) st M
      | _, _ => none
    | .iadd => match st with
      | .inl (.int y) :: .inl (.int x) :: r => K (pc + len) ls (.inl (.int (x + y)) :: r) M
      | _ => none
    | .isub => match st with
      | .inl (.int y) :: .inl (.int x) :: r => K (pc + len) ls (.inl (.int (x - y)) :: r) M
      | _ => none
    | .imul => match st with
      | .inl (.int y) :: .inl (.int x) :: r => K (pc + len) ls (.inl (.int (x * y)) :: r) M
      | _ => none
    | .iand => match st with
      | .inl (.int y) :: .inl (.int x) :: r => K (pc + len) ls (.inl (.int (x &&& y)) :: r) M
      | _ => none
    | .ior => match st with
      | .inl (.int y) :: .inl (.int x) :: r => K (pc + len) ls (.inl (.int (x ||| y)) :: r) M
      | _ => none
    | .ishr => match st with
      | .inl (.int y) :: .inl (.int x) :: r => K (pc + len) ls (.inl (.int (x >>> (y &&& 31))) :: r) M
      | _ => none
    | .idiv => match st with
      | .inl (.int y) :: .inl (.int x) :: r => if y = 0 then none else K (pc + len) ls (.inl (.int (x / y)) :: r) M
      | _ => none
    | .irem => match st with
      | .inl (.int y) :: .inl (.int x) :: r => if y = 0 then none else K (pc + len) ls (.inl (.int (x - x / y * y)) :: r) M
      | _ => none
    | .ladd => match st with
      | .inl (.long y) :: .inl (.long x) :: r => K (pc + len) ls (.inl (.long (x + y)) :: r) M
      | _ => none
    | .lsub => match st with
      | .inl (.long y) :: .inl (.long x) :: r => K (pc + len) ls (.inl (.long (x - y)) :: r) M
      | _ => none
    | .lmul => match st with
      | .inl (.long y) :: .inl (.long x) :: r => K (pc + len) ls (.inl (.long (x * y)) :: r) M
      | _ => none
    | .lxor => match st with
      | .inl (.long y) :: .inl (.long x) :: r => K (pc + len) ls (.inl (.long (x ^^^ y)) :: r) M
      | _ => none
    | .ldiv => match st with
      | .inl (.long y) :: .inl (.long x) :: r => if y = 0 then none else K (pc + len) ls (.inl (.long (x / y)) :: r) M
      | _ => none
    | .lrem => match st with
      | .inl (.long y) :: .inl (.long x) :: r => if y = 0 then none else K (pc + len) ls (.inl (.long (x - x / y * y)) :: r) M
      | _ => none
    | .lshl => match st with
      | .inl (.int y) :: .inl (.long x) :: r => K (pc + len) ls (.inl (.long (x <<< (y.toInt64 &&& 63))) :: r) M
      | _ => none
    | .lcmp => match st with
      | .inl (.long y) :: .inl (.long x) :: r => K (pc + len) ls (.inl (.int (lg_cmp x y)) :: r) M
      | _ => none
    | .i2l => match st with
      | .inl (.int x) :: r => K (pc + len) ls (.inl (.long x.toInt64) :: r) M
      | _ => none
    | .l2i => match st with
      | .inl (.long x) :: r => K (pc + len) ls (.inl (.int x.toInt32) :: r) M
      | _ => none
    | .dup => match st with
      | .inl (.int x) :: r => K (pc + len) ls (.inl (.int x) :: .inl (.int x) :: r) M
      | .inr q :: r => K (pc + len) ls (.inr q :: .inr q :: r) M
      | _ => none
    | .dup2 => match st with
      | .inl (.int x) :: .inr q :: r => K (pc + len) ls (.inl (.int x) :: .inr q :: .inl (.int x) :: .inr q :: r) M
      | _ => none
    | .pop => match st with
      | .inl (.int _) :: r => K (pc + len) ls r M
      | .inr _ :: r => K (pc + len) ls r M
      | _ => none
    | .goto _ => K a ls st M
    | .ifCond c _ => match st with
      | .inl (.int x) :: r => match c with
        | .eq => if x = 0 then K a ls r M else K (pc + len) ls r M
        | .ne => if x = 0 then K (pc + len) ls r M else K a ls r M
        | .lt => if x < 0 then K a ls r M else K (pc + len) ls r M
        | .ge => if 0 ≤ x then K a ls r M else K (pc + len) ls r M
        | .gt => if 0 < x then K a ls r M else K (pc + len) ls r M
        | .le => if x ≤ 0 then K a ls r M else K (pc + len) ls r M
      | _ => none
    | .if_icmp c _ => match st with
      | .inl (.int y) :: .inl (.int x) :: r => match c with
        | .eq => if x = y then K a ls r M else K (pc + len) ls r M
        | .ne => if x = y then K (pc + len) ls r M else K a ls r M
        | .lt => if x < y then K a ls r M else K (pc + len) ls r M
        | .ge => if y ≤ x then K a ls r M else K (pc + len) ls r M
        | .gt => if y < x then K a ls r M else K (pc + len) ls r M
        | .le => if x ≤ y then K a ls r M else K (pc + len) ls r M
      | _ => none
    | .ifnull _ => match st with
      | .inr _ :: r => K (pc + len) ls r M
      | .inl .null :: r => K a ls r M
      | _ => none
    | .ifnonnull _ => match st with
      | .inr _ :: r => K a ls r M
      | .inl .null :: r => K (pc + len) ls r M
      | _ => none
    | .tableswitch d lo _ os => match st with
      | .inl (.int x) :: r => am_sw (fun t => K t ls r M) (((pc : Int) + d).toNat) x ((List.range os.size).map (fun (j : Nat) => (Int32.ofInt (lo + (j : Int)), ((pc : Int) + os.getD j 0).toNat)))
      | _ => none
    | .lookupswitch d ps => match st with
      | .inl (.int x) :: r => am_sw (fun t => K t ls r M) (((pc : Int) + d).toNat) x (ps.toList.map (fun q => (Int32.ofInt q.1, ((pc : Int) + q.2).toNat)))
      | _ => none
    | .getfield _ => match st with
      | .inr (k, j) :: r => cond (Nat.beq k b) (match am_ft b a with
        | some k' => K (pc + len) ls (.inr (k', j) :: r) M
        | none => cond (am_fz b a) (K (pc + len) ls (.inl (.int (am_b (M k j a))) :: r) M) (K (pc + len) ls (.inl (.int (M k j a)) :: r) M)) none
      | _ => none
    | .putfield _ => match st with
      | .inl (.int x) :: .inr (k, j) :: r => cond (Nat.beq k b) (match am_ft b a with
        | some _ => none
        | none => cond (am_fz b a) (if am_b x = x then K (pc + len) ls r (am_put M k j a x) else none) (K (pc + len) ls r (am_put M k j a x))) none
      | _ => none
    | .getstatic _ => K (pc + len) ls (.inr (a, 0) :: st) M
    | .arraylength => match st with
      | .inr (k, _) :: r => cond (Nat.beq k 29 && Nat.beq rt 5) (K (pc + len) ls (.inl (.int (Int32.ofNat X.1)) :: r) M) (match am_ar k with
        | some (_, n) => K (pc + len) ls (.inl (.int (Int32.ofNat n)) :: r) M
        | none => none)
      | _ => none
    | .iaload => match st with
      | .inl (.int x) :: .inr (k, j) :: r => cond (Nat.beq k 27 || Nat.beq k 28) (if am_in x 16 then K (pc + len) ls (.inl (.int (am_st k x.toNatClampNeg)) :: r) M else none)
        (cond (Nat.beq k 29 && Nat.beq rt 5) (if am_in x X.1 then K (pc + len) ls (.inl (.int (X.2 x.toNatClampNeg)) :: r) M else none) (match am_ar k with
        | some (0, n) => if am_in x n then K (pc + len) ls (.inl (.int (M k j x.toNatClampNeg)) :: r) M else none
        | _ => none))
      | _ => none
    | .iastore => match st with
      | .inl (.int y) :: .inl (.int x) :: .inr (k, j) :: r => match am_ar k with
        | some (0, n) => if am_in x n then K (pc + len) ls r (am_put M k j x.toNatClampNeg y) else none
        | _ => none
      | _ => none
    | .baload => match st with
      | .inl (.int x) :: .inr (k, j) :: r => match am_ar k with
        | some (1, n) => if am_in x n then K (pc + len) ls (.inl (.int (am_b (M k j x.toNatClampNeg))) :: r) M else none
        | _ => none
      | _ => none
    | .bastore => match st with
      | .inl (.int y) :: .inl (.int x) :: .inr (k, j) :: r => match am_ar k with
        | some (1, n) => if am_in x n ∧ am_b y = y then K (pc + len) ls r (am_put M k j x.toNatClampNeg y) else none
        | _ => none
      | _ => none
    | .laload => match st with
      | .inl (.int x) :: .inr (k, j) :: r => match am_ar k with
        | some (2, n) => if am_in x n then K (pc + len) ls (.inl (.long (am_jn (M k j (2 * x.toNatClampNeg)) (M k j (2 * x.toNatClampNeg + 1)))) :: r) M else none
        | _ => none
      | _ => none
    | .lastore => match st with
      | .inl (.long y) :: .inl (.int x) :: .inr (k, j) :: r => match am_ar k with
        | some (2, n) => if am_in x n then K (pc + len) ls r (am_put (am_put M k j (2 * x.toNatClampNeg) (am_hi y)) k j (2 * x.toNatClampNeg + 1) (am_lo y)) else none
        | _ => none
      | _ => none
    | .aaload => match st with
      | .inl (.int x) :: .inr (k, _) :: r => match am_ar k with
        | some (e + 3, n) => if am_in x n then K (pc + len) ls (.inr (e, x.toNatClampNeg) :: r) M else none
        | _ => none
      | _ => none
    | .invokestatic _ => cond (Nat.beq (st.take b).length b && Nat.ble (am_wt (st.drop b)) 8) (am_ret hs pc (st.drop b) (K (pc + len) ls) (am_call cs a (st.take b).reverse M)) none
    | .invokevirtual _ => match z, (st.take b).reverse with
      | .ref c, .inr (k, j) :: as => cond (Nat.beq k c && Nat.beq (st.take b).length b && Nat.ble (am_wt (st.drop b)) 8) (am_ret hs pc (st.drop b) (K (pc + len) ls) (am_call cs a (.inr (k, j) :: as) M)) none
      | _, _ => none
    | i => (am_fin rt i ls st).map (fun o => (o, M))
def am_run (cs : List am_F) (hs : List (Nat × Nat × String × Value)) (rt : Nat) (X : Nat × (Nat → Int32)) (P : am_P) : Nat → Nat → List am_V → List am_V → am_M → am_R
  | 0 => fun _ _ _ _ => none
  | n + 1 => am_step cs hs rt X P (am_run cs hs rt X P n)
def am_lay : List am_V → List am_V
  | [] => []
  | .inl (.long x) :: l => .inl (.long x) :: am_D :: am_lay l
  | v :: l => v :: am_lay l
def am_ent (n : Nat) (av : List am_V) : List am_V := am_lay av ++ List.replicate (n - (am_lay av).length) am_D
def am_X0 : Nat × (Nat → Int32) := (0, fun _ => 0)
/-- a method of the program: its callees, handlers, the code of its answer's type, its locals, its rows -/
def am_meth (cs : List am_F) (hs : List (Nat × Nat × String × Value)) (rt nL N : Nat) (P : am_P) : am_F := fun av M => cond (Nat.ble (am_lay av).length nL) (am_run cs hs rt am_X0 P N 0 (am_ent nL av) [] M) none
