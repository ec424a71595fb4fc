/-! ===== the second small machine: constructors; every cell is made in order, at base + number ===== -/
/-- a cell: the class's number, or 100 + what an array holds; its values -/
abbrev bm_O : Type := Nat × List am_V
abbrev bm_M : Type := List bm_O
abbrev bm_R : Type := Option (bm_M × Nat × Nat)
abbrev bm_F : Type := Nat → bm_M → Option bm_M
def bm_dv (c : Nat) : List am_V := (List.range (am_nf c)).map (fun f => match am_ft c f with
  | some _ => .inl .null
  | none => .inl (.int 0))
def bm_fin (i : Instr) (st : List am_V) (M : bm_M) (nc ns : Nat) : bm_R := match i with
  | .return_ => match st with
    | [] => some (M, nc, ns)
    | _ => none
  | _ => none
def bm_step (cs : List (bm_F × Nat × Nat)) (mc ms : Nat) (P : am_P) (K : Nat → List am_V → List am_V → bm_M → Nat → Nat → bm_R) (pc : Nat) (ls st : List am_V) (M : bm_M) (nc ns : Nat) : bm_R :=
  match am_at P pc with
  | none => none
  | some (i, len, a, b, z) => match i with
    | .iconst _ => K (pc + len) ls (.inl z :: st) M nc ns
    | .bipush _ => K (pc + len) ls (.inl z :: st) M nc ns
    | .sipush _ => K (pc + len) ls (.inl z :: st) M nc ns
    | .ldc _ => K (pc + len) ls (.inl z :: st) M nc ns
    | .iload_n _ => match ls[a]? with
      | some (.inl (.int x)) => K (pc + len) ls (.inl (.int x) :: st) M nc ns
      | _ => none
    | .aload_n _ => match ls[a]? with
      | some (.inr q) => K (pc + len) ls (.inr q :: st) M nc ns
      | _ => none
    | .istore_n _ => match st with
      | .inl (.int x) :: r => K (pc + len) (am_set1 ls a (.inl (.int x))) r M nc ns
      | _ => none
    | .iinc _ _ => match ls[a]?, z with
      | some (.inl (.int x)), .int v => K (pc + len) (am_set1 ls a (.inl (.int (x + v)))) st M nc ns
      | _, _ => none
    | .iadd => match st with
      | .inl (.int y) :: .inl (.int x) :: r => K (pc + len) ls (.inl (.int (x + y)) :: r) M nc ns
      | _ => none
    | .imul => match st with
      | .inl (.int y) :: .inl (.int x) :: r => K (pc + len) ls (.inl (.int (x * y)) :: r) M nc ns
      | _ => none
    | .dup => match st with
      | .inr q :: r => K (pc + len) ls (.inr q :: .inr q :: r) M nc ns
      | _ => none
    | .goto _ => K a ls st M nc ns
    | .if_icmp c _ => match st with
      | .inl (.int y) :: .inl (.int x) :: r => match c with
        | .ge => if y ≤ x then K a ls r M nc ns else K (pc + len) ls r M nc ns
        | .gt => if y < x then K a ls r M nc ns else K (pc + len) ls r M nc ns
        | _ => none
      | _ => none
    | .new _ => cond (Nat.ble (nc + 1) mc && Nat.ble (ns + am_nf a) ms) (K (pc + len) ls (.inr (0, M.length) :: st) (M ++ [(a, bm_dv a)]) (nc + 1) (ns + am_nf a)) none
    | .newarray _ => match st with
      | .inl (.int n) :: r => if 0 ≤ n.toInt ∧ n.toInt < 1000 ∧ nc + 1 ≤ mc ∧ ns + n.toNatClampNeg ≤ ms then K (pc + len) ls (.inr (0, M.length) :: r) (M ++ [(100 + a, List.replicate n.toNatClampNeg (.inl (.int 0)))]) (nc + 1) (ns + n.toNatClampNeg) else none
      | _ => none
    | .anewarray _ => match st with
      | .inl (.int n) :: r => if 0 ≤ n.toInt ∧ n.toInt < 1000 ∧ nc + 1 ≤ mc ∧ ns + n.toNatClampNeg ≤ ms then K (pc + len) ls (.inr (0, M.length) :: r) (M ++ [(103 + a, List.replicate n.toNatClampNeg (.inl .null))]) (nc + 1) (ns + n.toNatClampNeg) else none
      | _ => none
    | .getfield _ => match st with
      | .inr q :: r => match M[q.2]? with
        | some (c, vs) => cond (Nat.beq c b) (match vs[a]? with
          | some (.inr q2) => K (pc + len) ls (.inr q2 :: r) M nc ns
          | _ => none) none
        | none => none
      | _ => none
    | .putfield _ => match st with
      | .inr q2 :: .inr q :: r => match M[q.2]?, am_ft b a with
        | some (c, vs), some _ => cond (Nat.beq c b && Nat.blt a vs.length) (K (pc + len) ls r (M.set q.2 (c, vs.set a (.inr q2))) nc ns) none
        | _, _ => none
      | .inl (.int x) :: .inr q :: r => match M[q.2]?, am_ft b a with
        | some (c, vs), none => cond (Nat.beq c b && Nat.blt a vs.length) (if am_fz b a = true → am_b x = x then K (pc + len) ls r (M.set q.2 (c, vs.set a (.inl (.int x)))) nc ns else none) none
        | _, _ => none
      | _ => none
    | .iastore => match st with
      | .inl (.int y) :: .inl (.int x) :: .inr q :: r => match M[q.2]? with
        | some (100, vs) => if am_in x vs.length then K (pc + len) ls r (M.set q.2 (100, vs.set x.toNatClampNeg (.inl (.int y)))) nc ns else none
        | _ => none
      | _ => none
    | .aastore => match st with
      | .inr q2 :: .inl (.int x) :: .inr q :: r => match M[q.2]?, M[q2.2]? with
        | some (c, vs), some (c2, _) => if c = 103 + c2 ∧ (c2 = 1 ∨ c2 = 4 ∨ c2 = 5 ∨ c2 = 6 ∨ c2 = 8) ∧ am_in x vs.length then K (pc + len) ls r (M.set q.2 (c, vs.set x.toNatClampNeg (.inr q2))) nc ns else none
        | _, _ => none
      | _ => none
    | .invokespecial _ => match st with
      | .inr q :: r => cond (Nat.ble (am_wt r) 8) (cond (Nat.beq b 0) (K (pc + len) ls r M nc ns) (match cs[a]? with
        | some (F, mc', ms') => cond (Nat.ble (nc + mc') mc && Nat.ble (ns + ms') ms) (match F q.2 M with
          | some M' => K (pc + len) ls r M' (nc + mc') (ns + ms')
          | none => none) none
        | none => none)) none
      | _ => none
    | i => bm_fin i st M nc ns
def bm_run (cs : List (bm_F × Nat × Nat)) (mc ms : Nat) (P : am_P) : Nat → Nat → List am_V → List am_V → bm_M → Nat → Nat → bm_R
  | 0 => fun _ _ _ _ _ _ => none
  | n + 1 => bm_step cs mc ms P (bm_run cs mc ms P n)
def bm_meth (cs : List (bm_F × Nat × Nat)) (mc ms nL N : Nat) (P : am_P) : bm_F := fun j M => match bm_run cs mc ms P N 0 (am_ent nL [.inr (0, j)]) [] M 0 0 with
  | some (M', nc, ns) => cond (Nat.ble nc mc && Nat.ble ns ms && Nat.blt 0 nL) (some M') none
  | none => none
/-! the world of such a memory -/
def bm_ad (B : Nat) : Nat → Nat → Nat := fun _ j => B + j
def bm_iv (vs : List am_V) (j : Nat) : Int32 := match vs[j]? with
  | some (.inl (.int x)) => x
  | _ => 0
def bm_rv (B : Nat) (vs : List am_V) (j : Nat) : Option Nat := match vs[j]? with
  | some (.inr q) => some (B + q.2)
  | _ => none
def bm_en (B : Nat) (cy : Nat → ClassId) (o : bm_O) : va_E := match o.1 with
  | 100 => .inl (cy 0, o.2.length, .inl (bm_iv o.2))
  | 101 => .inl (cy 1, o.2.length, .inl (bm_iv o.2))
  | 102 => .inl (cy 2, o.2.length, .inr (.inl (fun _ => 0)))
  | c => cond (Nat.blt c 100) (.inr (c, o.2.map (am_co (bm_ad B)))) (.inl (cy (c - 100), o.2.length, .inr (.inr (.inr (.inr (bm_rv B o.2))))))
def bm_W (B : Nat) (cy : Nat → ClassId) (M : bm_M) : va_W := M.mapIdx (fun j o => (B + j, bm_en B cy o))
def bm_A (B : Nat) : Nat → Prop := fun q => B ≤ q
theorem bm_W_at {B : Nat} {cy : Nat → ClassId} {M : bm_M} {j : Nat} {o : bm_O} (h : M[j]? = some o) : (bm_W B cy M)[j]? = some (B + j, bm_en B cy o) := by
  unfold bm_W
  rw [List.getElem?_mapIdx, h]
  rfl
theorem bm_W_inv {B : Nat} {cy : Nat → ClassId} {M : bm_M} {j : Nat} {x : Nat × va_E} (h : (bm_W B cy M)[j]? = some x) : ∃ o, M[j]? = some o ∧ x = (B + j, bm_en B cy o) := by
  unfold bm_W at h
  rw [List.getElem?_mapIdx] at h
  cases hq : M[j]? with
  | none => rw [hq] at h; cases h
  | some o => rw [hq] at h; cases h; exact ⟨o, rfl, rfl⟩
theorem bm_W_D {B : Nat} {cy : Nat → ClassId} (M : bm_M) : va_D (bm_A B) (bm_W B cy M) := by
  refine ⟨fun i j p q hp hq hpq => ?_, fun k q hq => ?_⟩
  · obtain ⟨_, -, rfl⟩ := bm_W_inv hp
    obtain ⟨_, -, rfl⟩ := bm_W_inv hq
    simp only at hpq
    omega
  · obtain ⟨_, -, rfl⟩ := bm_W_inv hq
    exact Nat.le_add_right _ _
theorem bm_W_set {B : Nat} {cy : Nat → ClassId} (M : bm_M) (j : Nat) (o : bm_O) : (bm_W B cy M).set j (B + j, bm_en B cy o) = bm_W B cy (M.set j o) := by
  unfold bm_W
  apply List.ext_getElem?
  intro i
  by_cases hi : i = j
  · subst hi
    by_cases hl : i < M.length
    · rw [List.getElem?_set_self (by simpa using hl), List.getElem?_mapIdx, List.getElem?_set_self hl]
      rfl
    · rw [List.getElem?_eq_none (by simpa using hl), List.getElem?_eq_none (by simpa using hl)]
  · rw [List.getElem?_set_ne (Ne.symm hi), List.getElem?_mapIdx, List.getElem?_mapIdx, List.getElem?_set_ne (Ne.symm hi)]
theorem bm_W_app {B : Nat} {cy : Nat → ClassId} (M : bm_M) (o : bm_O) : bm_W B cy M ++ [(B + M.length, bm_en B cy o)] = bm_W B cy (M ++ [o]) := by
  unfold bm_W
  rw [List.mapIdx_append]
  simp
theorem bm_en_c {B : Nat} {cy : Nat → ClassId} {c : Nat} {vs : List am_V} (h : c < 100) : bm_en B cy (c, vs) = .inr (c, vs.map (am_co (bm_ad B))) := by
  unfold bm_en
  split
  · rename_i e; simp only at e; omega
  · rename_i e; simp only at e; omega
  · rename_i e; simp only at e; omega
  · rw [show Nat.blt c 100 = true from Nat.blt_eq.mpr h]; rfl
theorem bm_en_r {B : Nat} {cy : Nat → ClassId} {k : Nat} {vs : List am_V} : bm_en B cy (103 + k, vs) = .inl (cy (3 + k), vs.length, .inr (.inr (.inr (.inr (bm_rv B vs))))) := by
  unfold bm_en
  split
  · rename_i e; simp only at e; omega
  · rename_i e; simp only at e; omega
  · rename_i e; simp only at e; omega
  · have : Nat.blt (103 + k) 100 = false := by
      cases hq : Nat.blt (103 + k) 100 with
      | false => rfl
      | true => have := Nat.blt_eq.mp hq; omega
    simp only
    rw [this, show 103 + k - 100 = 3 + k by omega]
    rfl
theorem bm_iv_set {vs : List am_V} {x : Nat} {y : Int32} (h : x < vs.length) : bm_iv (vs.set x (.inl (.int y))) = upd (bm_iv vs) x y := by
  funext j
  unfold bm_iv upd
  by_cases hj : j = x
  · subst hj
    rw [List.getElem?_set_self h, if_pos rfl]
  · rw [List.getElem?_set_ne (Ne.symm hj), if_neg hj]
theorem bm_rv_set {B : Nat} {vs : List am_V} {x : Nat} {q : Nat × Nat} (h : x < vs.length) : bm_rv B (vs.set x (.inr q)) = va_up (bm_rv B vs) x (some (B + q.2)) := by
  funext j
  unfold bm_rv va_up
  by_cases hj : j = x
  · subst hj
    rw [List.getElem?_set_self h, if_pos rfl]
  · rw [List.getElem?_set_ne (Ne.symm hj), if_neg hj]
theorem bm_iv_rep (n : Nat) : bm_iv (List.replicate n (.inl (.int 0))) = fun _ => 0 := by
  funext j
  unfold bm_iv
  by_cases h : j < n
  · rw [List.getElem?_replicate, if_pos h]
  · rw [List.getElem?_replicate, if_neg h]
theorem bm_rv_rep (B n : Nat) : bm_rv B (List.replicate n (.inl .null)) = fun _ => none := by
  funext j
  unfold bm_rv
  by_cases h : j < n
  · rw [List.getElem?_replicate, if_pos h]
  · rw [List.getElem?_replicate, if_neg h]
