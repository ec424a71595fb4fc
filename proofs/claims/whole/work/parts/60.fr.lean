/-! ===== a run changes only cells of the kinds that it can reach ===== -/
def fr_ok (S : Nat → Bool) : am_V → Prop
  | .inr q => S q.1 = true
  | .inl _ => True
def fr_all (S : Nat → Bool) (l : List am_V) : Prop := ∀ v ∈ l, fr_ok S v
def fr_out (S : Nat → Bool) (o : am_O) (M M' : am_M) : Prop := (∀ v, o = .inl (some v) → fr_ok S v) ∧ ∀ k, S k = false → M' k = M k
def fr_F (S : Nat → Bool) (F : am_F) : Prop := ∀ av M o M', fr_all S av → F av M = some (o, M') → fr_out S o M M'
def fr_cl (S : Nat → Bool) : Prop := (∀ c f k, am_ft c f = some k → S c = true → S k = true) ∧ ∀ k e n, am_ar k = some (e + 3, n) → S k = true → S e = true
theorem fr_i {S : Nat → Bool} {x : Value} : fr_ok S (.inl x) := True.intro
theorem fr_r {S : Nat → Bool} {k j : Nat} (h : S k = true) : fr_ok S (.inr (k, j)) := h
theorem fr_nil {S : Nat → Bool} : fr_all S [] := fun _ h => nomatch h
theorem fr_c {S : Nat → Bool} {v : am_V} {l : List am_V} (h : fr_ok S v) (t : fr_all S l) : fr_all S (v :: l) := List.forall_mem_cons.mpr ⟨h, t⟩
theorem fr_h {S : Nat → Bool} {v : am_V} {l : List am_V} (h : fr_all S (v :: l)) : fr_ok S v := h v List.mem_cons_self
theorem fr_t {S : Nat → Bool} {v : am_V} {l : List am_V} (h : fr_all S (v :: l)) : fr_all S l := fun w hw => h w (List.mem_cons_of_mem _ hw)
theorem fr_get {S : Nat → Bool} {l : List am_V} {i : Nat} {v : am_V} (h : fr_all S l) (e : l[i]? = some v) : fr_ok S v := h v (List.mem_of_getElem? e)
theorem fr_set {S : Nat → Bool} {l : List am_V} {i : Nat} {v : am_V} (h : fr_all S l) (hv : fr_ok S v) : fr_all S (l.set i v) := fun w hw => (List.mem_or_eq_of_mem_set hw).elim (h w) (fun e => e ▸ hv)
theorem fr_kill {S : Nat → Bool} {l : List am_V} {i : Nat} (h : fr_all S l) : fr_all S (am_kill l i) := by
  unfold am_kill
  cases i with
  | zero => exact h
  | succ j =>
    dsimp only
    split
    · exact fr_set h fr_i
    · exact h
theorem fr_set1 {S : Nat → Bool} {l : List am_V} {i : Nat} {v : am_V} (h : fr_all S l) (hv : fr_ok S v) : fr_all S (am_set1 l i v) := fr_set (fr_kill h) hv
theorem fr_set2 {S : Nat → Bool} {l : List am_V} {i : Nat} {v : am_V} (h : fr_all S l) (hv : fr_ok S v) : fr_all S (am_set2 l i v) := fr_set (fr_set (fr_kill h) hv) fr_i
theorem fr_app {S : Nat → Bool} {l r : List am_V} (h : fr_all S l) (t : fr_all S r) : fr_all S (l ++ r) := fun w hw => (List.mem_append.mp hw).elim (h w) (t w)
theorem fr_trans {S : Nat → Bool} {o : am_O} {M M1 M2 : am_M} (h : ∀ k, S k = false → M1 k = M k) (t : fr_out S o M1 M2) : fr_out S o M M2 := ⟨t.1, fun k hk => (t.2 k hk).trans (h k hk)⟩
theorem fr_put {S : Nat → Bool} {M : am_M} {k j f : Nat} {v : Int32} (h : S k = true) : ∀ k', S k' = false → am_put M k j f v k' = M k' := by
  intro k' hk
  funext i g
  unfold am_put
  rw [if_neg]
  intro e
  rw [e.1, h] at hk
  cases hk
theorem fr_put2 {S : Nat → Bool} {M : am_M} {k j f g : Nat} {v w : Int32} (h : S k = true) : ∀ k', S k' = false → am_put (am_put M k j f v) k j g w k' = M k' := fun k' hk => (fr_put h k' hk).trans (fr_put h k' hk)
theorem fr_ret {S : Nat → Bool} {cs : List am_F} {hs : List (Nat × Nat × String × Value)} {pc a : Nat} {rest av : List am_V} {M : am_M} {K2 : List am_V → am_M → am_R} {o : am_O} {Mf : am_M} (hc : ∀ F ∈ cs, fr_F S F) (hav : fr_all S av) (hre : fr_all S rest) (h : am_ret hs pc rest K2 (am_call cs a av M) = some (o, Mf)) (hK : ∀ st M', fr_all S st → K2 st M' = some (o, Mf) → fr_out S o M' Mf) : fr_out S o M Mf := by
  unfold am_ret at h
  cases hq : am_call cs a av M with
  | none => rw [hq] at h; cases h
  | some res =>
    obtain ⟨ro, M1⟩ := res
    rw [hq] at h
    have hF : fr_out S ro M M1 := by
      unfold am_call at hq
      cases hF : cs[a]? with
      | none => rw [hF] at hq; cases hq
      | some F => rw [hF] at hq; exact hc F (List.mem_of_getElem? hF) av M ro M1 hav hq
    cases ro with
    | inl r =>
      simp only at h
      cases hv : am_okv r with
      | false => rw [hv] at h; cases h
      | true =>
        rw [hv] at h
        refine fr_trans hF.2 (hK _ _ (fr_app ?_ hre) h)
        cases r with
        | none => exact fr_nil
        | some v => exact fr_c (hF.1 v rfl) fr_nil
    | inr E =>
      simp only at h
      split at h
      · cases h; exact ⟨fun v hv => (by cases hv), hF.2⟩
      · cases h; exact ⟨fun v hv => (by cases hv; exact fr_i), hF.2⟩
theorem fr_fin {S : Nat → Bool} {rt : Nat} {i : Instr} {ls st : List am_V} {o : am_O} (hs : fr_all S st) (h : am_fin rt i ls st = some o) : ∀ v, o = .inl (some v) → fr_ok S v := by
  intro v hv
  subst hv
  cases i with
  | return_ => simp only [am_fin] at h; split at h <;> first | (cases hq : Nat.beq rt 0 <;> rw [hq] at h <;> cases h) | cases h
  | ireturn =>
    simp only [am_fin] at h
    split at h
    · cases hq : (Nat.beq rt 1 || Nat.beq rt 5) with
      | true => rw [hq] at h; cases h; exact fr_i
      | false =>
        rw [hq] at h
        simp only [cond_false] at h
        cases hq2 : Nat.beq rt 2 with
        | true => rw [hq2] at h; simp only [cond_true] at h; split at h <;> cases h; exact fr_i
        | false => rw [hq2] at h; cases h
    · cases h
  | lreturn => simp only [am_fin] at h; split at h <;> first | (cases hq : Nat.beq rt 3 <;> rw [hq] at h <;> cases h; exact fr_i) | cases h
  | areturn => simp only [am_fin] at h; split at h <;> first | (cases hq : Nat.beq rt 4 <;> rw [hq] at h <;> cases h; first | exact fr_i | exact fr_h hs) | cases h
  | _ => simp [am_fin] at h
set_option maxHeartbeats 4000000 in
theorem am_step_fr {S : Nat → Bool} (hcl : fr_cl S) {cs : List am_F} {hs : List (Nat × Nat × String × Value)} {rt : Nat} {X : Nat × (Nat → Int32)} {P : am_P} (hsta : ∀ pc idx len a b z, am_at P pc = some (.getstatic idx, len, a, b, z) → S a = true) (hc : ∀ F ∈ cs, fr_F S F) {K : Nat → List am_V → List am_V → am_M → am_R} {pc : Nat} {ls st : List am_V} {M Mf : am_M} {o : am_O} (hl : fr_all S ls) (hx : fr_all S st) (h : am_step cs hs rt X P K pc ls st M = some (o, Mf))
    (hK : ∀ pc ls st M, fr_all S ls → fr_all S st → K pc ls st M = some (o, Mf) → fr_out S o M Mf) : fr_out S o M Mf := by
  unfold am_step at h
  cases hat : am_at P pc with
  | none => rw [hat] at h; cases h
  | some row =>
    obtain ⟨i, len, a, b, z⟩ := row
    rw [hat] at h
    simp only at h
    cases i with
    | iconst v =>
      dsimp only at h
      exact hK _ _ _ _ hl (fr_c fr_i hx) h
    | bipush v =>
      dsimp only at h
      exact hK _ _ _ _ hl (fr_c fr_i hx) h
    | sipush v =>
      dsimp only at h
      exact hK _ _ _ _ hl (fr_c fr_i hx) h
    | ldc v =>
      dsimp only at h
      exact hK _ _ _ _ hl (fr_c fr_i hx) h
    | lconst v =>
      dsimp only at h
      exact hK _ _ _ _ hl (fr_c fr_i hx) h
    | ldc2_w v =>
      dsimp only at h
      exact hK _ _ _ _ hl (fr_c fr_i hx) h
    | aconst_null =>
      dsimp only at h
      exact hK _ _ _ _ hl (fr_c fr_i hx) h
    | iload_n k =>
      dsimp only at h
      split at h
      · exact hK _ _ _ _ hl (fr_c fr_i hx) h
      · cases h
    | iload k =>
      dsimp only at h
      split at h
      · exact hK _ _ _ _ hl (fr_c fr_i hx) h
      · cases h
    | lload_n k =>
      dsimp only at h
      split at h
      · exact hK _ _ _ _ hl (fr_c fr_i hx) h
      · cases h
    | lload k =>
      dsimp only at h
      split at h
      · exact hK _ _ _ _ hl (fr_c fr_i hx) h
      · cases h
    | aload_n k =>
      dsimp only at h
      split at h
      · rename_i q hq
        exact hK _ _ _ _ hl (fr_c (fr_get hl hq) hx) h
      · exact hK _ _ _ _ hl (fr_c fr_i hx) h
      · cases h
    | aload k =>
      dsimp only at h
      split at h
      · rename_i q hq
        exact hK _ _ _ _ hl (fr_c (fr_get hl hq) hx) h
      · exact hK _ _ _ _ hl (fr_c fr_i hx) h
      · cases h
    | istore_n k =>
      dsimp only at h
      split at h
      · exact hK _ _ _ _ (fr_set1 hl fr_i) (fr_t hx) h
      · cases h
    | istore k =>
      dsimp only at h
      split at h
      · exact hK _ _ _ _ (fr_set1 hl fr_i) (fr_t hx) h
      · cases h
    | lstore_n k =>
      dsimp only at h
      split at h
      · exact hK _ _ _ _ (fr_set2 hl fr_i) (fr_t hx) h
      · cases h
    | lstore k =>
      dsimp only at h
      split at h
      · exact hK _ _ _ _ (fr_set2 hl fr_i) (fr_t hx) h
      · cases h
    | astore_n k =>
      dsimp only at h
      split at h
      · exact hK _ _ _ _ (fr_set1 hl (fr_h hx)) (fr_t hx) h
      · exact hK _ _ _ _ (fr_set1 hl fr_i) (fr_t hx) h
      · cases h
    | astore k =>
      dsimp only at h
      split at h
      · exact hK _ _ _ _ (fr_set1 hl (fr_h hx)) (fr_t hx) h
      · exact hK _ _ _ _ (fr_set1 hl fr_i) (fr_t hx) h
      · cases h
    | iinc k v =>
      dsimp only at h
      split at h
      · exact hK _ _ _ _ (fr_set1 hl fr_i) hx h
      · cases h
    | iadd =>
      dsimp only at h
      split at h
      · exact hK _ _ _ _ hl (fr_c fr_i (fr_t (fr_t hx))) h
      · cases h
    | isub =>
      dsimp only at h
      split at h
      · exact hK _ _ _ _ hl (fr_c fr_i (fr_t (fr_t hx))) h
      · cases h
    | imul =>
      dsimp only at h
      split at h
      · exact hK _ _ _ _ hl (fr_c fr_i (fr_t (fr_t hx))) h
      · cases h
    | iand =>
      dsimp only at h
      split at h
      · exact hK _ _ _ _ hl (fr_c fr_i (fr_t (fr_t hx))) h
      · cases h
    | ior =>
      dsimp only at h
      split at h
      · exact hK _ _ _ _ hl (fr_c fr_i (fr_t (fr_t hx))) h
      · cases h
    | ishr =>
      dsimp only at h
      split at h
      · exact hK _ _ _ _ hl (fr_c fr_i (fr_t (fr_t hx))) h
      · cases h
    | ladd =>
      dsimp only at h
      split at h
      · exact hK _ _ _ _ hl (fr_c fr_i (fr_t (fr_t hx))) h
      · cases h
    | lsub =>
      dsimp only at h
      split at h
      · exact hK _ _ _ _ hl (fr_c fr_i (fr_t (fr_t hx))) h
      · cases h
    | lmul =>
      dsimp only at h
      split at h
      · exact hK _ _ _ _ hl (fr_c fr_i (fr_t (fr_t hx))) h
      · cases h
    | lxor =>
      dsimp only at h
      split at h
      · exact hK _ _ _ _ hl (fr_c fr_i (fr_t (fr_t hx))) h
      · cases h
    | lcmp =>
      dsimp only at h
      split at h
      · exact hK _ _ _ _ hl (fr_c fr_i (fr_t (fr_t hx))) h
      · cases h
    | lshl =>
      dsimp only at h
      split at h
      · exact hK _ _ _ _ hl (fr_c fr_i (fr_t (fr_t hx))) h
      · cases h
    | i2l =>
      dsimp only at h
      split at h
      · exact hK _ _ _ _ hl (fr_c fr_i (fr_t hx)) h
      · cases h
    | l2i =>
      dsimp only at h
      split at h
      · exact hK _ _ _ _ hl (fr_c fr_i (fr_t hx)) h
      · cases h
    | dup2 =>
      dsimp only at h
      split at h
      · exact hK _ _ _ _ hl (fr_c fr_i (fr_c (fr_h (fr_t hx)) hx)) h
      · cases h
    | idiv =>
      dsimp only at h
      split at h
      · split at h
        · cases h
        · exact hK _ _ _ _ hl (fr_c fr_i (fr_t (fr_t hx))) h
      · cases h
    | irem =>
      dsimp only at h
      split at h
      · split at h
        · cases h
        · exact hK _ _ _ _ hl (fr_c fr_i (fr_t (fr_t hx))) h
      · cases h
    | ldiv =>
      dsimp only at h
      split at h
      · split at h
        · cases h
        · exact hK _ _ _ _ hl (fr_c fr_i (fr_t (fr_t hx))) h
      · cases h
    | lrem =>
      dsimp only at h
      split at h
      · split at h
        · cases h
        · exact hK _ _ _ _ hl (fr_c fr_i (fr_t (fr_t hx))) h
      · cases h
    | dup =>
      dsimp only at h
      split at h
      · exact hK _ _ _ _ hl (fr_c fr_i hx) h
      · exact hK _ _ _ _ hl (fr_c (fr_h hx) hx) h
      · cases h
    | pop =>
      dsimp only at h
      split at h
      · exact hK _ _ _ _ hl (fr_t hx) h
      · exact hK _ _ _ _ hl (fr_t hx) h
      · cases h
    | goto o2 =>
      dsimp only at h
      exact hK _ _ _ _ hl hx h
    | ifCond cn o2 =>
      dsimp only at h
      split at h
      · cases cn with
        | eq => simp only at h; split at h <;> exact hK _ _ _ _ hl (fr_t hx) h
        | ne => simp only at h; split at h <;> exact hK _ _ _ _ hl (fr_t hx) h
        | lt => simp only at h; split at h <;> exact hK _ _ _ _ hl (fr_t hx) h
        | ge => simp only at h; split at h <;> exact hK _ _ _ _ hl (fr_t hx) h
        | gt => simp only at h; split at h <;> exact hK _ _ _ _ hl (fr_t hx) h
        | le => simp only at h; split at h <;> exact hK _ _ _ _ hl (fr_t hx) h
      · cases h
    | if_icmp cn o2 =>
      dsimp only at h
      split at h
      · cases cn with
        | eq => simp only at h; split at h <;> exact hK _ _ _ _ hl (fr_t (fr_t hx)) h
        | ne => simp only at h; split at h <;> exact hK _ _ _ _ hl (fr_t (fr_t hx)) h
        | lt => simp only at h; split at h <;> exact hK _ _ _ _ hl (fr_t (fr_t hx)) h
        | ge => simp only at h; split at h <;> exact hK _ _ _ _ hl (fr_t (fr_t hx)) h
        | gt => simp only at h; split at h <;> exact hK _ _ _ _ hl (fr_t (fr_t hx)) h
        | le => simp only at h; split at h <;> exact hK _ _ _ _ hl (fr_t (fr_t hx)) h
      · cases h
    | ifnull o2 =>
      dsimp only at h
      split at h
      · exact hK _ _ _ _ hl (fr_t hx) h
      · exact hK _ _ _ _ hl (fr_t hx) h
      · cases h
    | ifnonnull o2 =>
      dsimp only at h
      split at h
      · exact hK _ _ _ _ hl (fr_t hx) h
      · exact hK _ _ _ _ hl (fr_t hx) h
      · cases h
    | tableswitch a1 a2 a3 a4 =>
      dsimp only at h
      split at h
      · obtain ⟨t, ht⟩ := am_sw_inv h
        exact hK _ _ _ _ hl (fr_t hx) ht
      · cases h
    | lookupswitch a1 a2 =>
      dsimp only at h
      split at h
      · obtain ⟨t, ht⟩ := am_sw_inv h
        exact hK _ _ _ _ hl (fr_t hx) ht
      · cases h
    | getfield idx =>
      dsimp only at h
      split at h
      · rename_i k j r
        cases hk : Nat.beq k b with
        | false => rw [hk] at h; cases h
        | true =>
          have hkb := Nat.eq_of_beq_eq_true hk
          rw [hk] at h
          simp only [cond_true] at h
          split at h
          · rename_i k2 hk2
            exact hK _ _ _ _ hl (fr_c (fr_r (hcl.1 b a k2 hk2 (hkb ▸ fr_h hx))) (fr_t hx)) h
          · cases hz : am_fz b a <;> rw [hz] at h <;> exact hK _ _ _ _ hl (fr_c fr_i (fr_t hx)) h
      · cases h
    | putfield idx =>
      dsimp only at h
      split at h
      · rename_i x k j r
        cases hk : Nat.beq k b with
        | false => rw [hk] at h; cases h
        | true =>
          rw [hk] at h
          simp only [cond_true] at h
          split at h
          · cases h
          · cases hz : am_fz b a with
            | true => rw [hz] at h; simp only [cond_true] at h; split at h
                      · exact fr_trans (fr_put (fr_h (fr_t hx))) (hK _ _ _ _ hl (fr_t (fr_t hx)) h)
                      · cases h
            | false => rw [hz] at h; exact fr_trans (fr_put (fr_h (fr_t hx))) (hK _ _ _ _ hl (fr_t (fr_t hx)) h)
      · cases h
    | getstatic idx =>
      dsimp only at h
      exact hK _ _ _ _ hl (fr_c (fr_r (hsta pc _ _ _ _ _ hat)) hx) h
    | arraylength =>
      dsimp only at h
      split at h
      · rename_i k j r
        cases hk : (Nat.beq k 29 && Nat.beq rt 5) with
        | true => rw [hk] at h; exact hK _ _ _ _ hl (fr_c fr_i (fr_t hx)) h
        | false =>
          rw [hk] at h
          simp only [cond_false] at h
          split at h
          · exact hK _ _ _ _ hl (fr_c fr_i (fr_t hx)) h
          · cases h
      · cases h
    | iaload =>
      dsimp only at h
      split at h
      · rename_i x k j r
        cases hk : (Nat.beq k 27 || Nat.beq k 28) with
        | true =>
          rw [hk] at h
          simp only [cond_true] at h
          split at h
          · exact hK _ _ _ _ hl (fr_c fr_i (fr_t (fr_t hx))) h
          · cases h
        | false =>
          rw [hk] at h
          simp only [cond_false] at h
          cases hk9 : (Nat.beq k 29 && Nat.beq rt 5) with
          | true =>
            rw [hk9] at h
            simp only [cond_true] at h
            split at h
            · exact hK _ _ _ _ hl (fr_c fr_i (fr_t (fr_t hx))) h
            · cases h
          | false =>
            rw [hk9] at h
            simp only [cond_false] at h
            split at h
            · split at h
              · exact hK _ _ _ _ hl (fr_c fr_i (fr_t (fr_t hx))) h
              · cases h
            · cases h
      · cases h
    | iastore =>
      dsimp only at h
      split at h
      · split at h
        · split at h
          · exact fr_trans (fr_put (fr_h (fr_t (fr_t hx)))) (hK _ _ _ _ hl (fr_t (fr_t (fr_t hx))) h)
          · cases h
        · cases h
      · cases h
    | bastore =>
      dsimp only at h
      split at h
      · split at h
        · split at h
          · exact fr_trans (fr_put (fr_h (fr_t (fr_t hx)))) (hK _ _ _ _ hl (fr_t (fr_t (fr_t hx))) h)
          · cases h
        · cases h
      · cases h
    | lastore =>
      dsimp only at h
      split at h
      · split at h
        · split at h
          · exact fr_trans (fr_put2 (fr_h (fr_t (fr_t hx)))) (hK _ _ _ _ hl (fr_t (fr_t (fr_t hx))) h)
          · cases h
        · cases h
      · cases h
    | baload =>
      dsimp only at h
      split at h
      · split at h
        · split at h
          · exact hK _ _ _ _ hl (fr_c fr_i (fr_t (fr_t hx))) h
          · cases h
        · cases h
      · cases h
    | laload =>
      dsimp only at h
      split at h
      · split at h
        · split at h
          · exact hK _ _ _ _ hl (fr_c fr_i (fr_t (fr_t hx))) h
          · cases h
        · cases h
      · cases h
    | aaload =>
      dsimp only at h
      split at h
      · split at h
        · rename_i e n2 hk2
          split at h
          · exact hK _ _ _ _ hl (fr_c (fr_r (hcl.2 _ _ _ hk2 (fr_h (fr_t hx)))) (fr_t (fr_t hx))) h
          · cases h
        · cases h
      · cases h
    | invokestatic idx =>
      dsimp only at h
      cases hq : (Nat.beq (st.take b).length b && Nat.ble (am_wt (st.drop b)) 8) with
      | false => rw [hq] at h; cases h
      | true =>
        rw [hq] at h
        exact fr_ret hc (fun w hw => hx w (List.mem_of_mem_take (List.mem_reverse.mp hw))) (fun w hw => hx w (List.mem_of_mem_drop hw)) h (fun st M hst => hK _ _ st M hl hst)
    | invokevirtual idx =>
      dsimp only at h
      split at h
      · rename_i k2 k j as hta
        cases hq : (Nat.beq k k2 && Nat.beq (st.take b).length b && Nat.ble (am_wt (st.drop b)) 8) with
        | false => rw [hq] at h; cases h
        | true =>
          rw [hq] at h
          exact fr_ret hc (fun w hw => hx w (List.mem_of_mem_take (List.mem_reverse.mp (hta ▸ hw)))) (fun w hw => hx w (List.mem_of_mem_drop hw)) h (fun st M hst => hK _ _ st M hl hst)
      · cases h
    | return_ =>
      dsimp only at h
      cases hq : am_fin rt .return_ ls st with
      | none => rw [hq] at h; cases h
      | some o2 => rw [hq] at h; cases h; exact ⟨fr_fin hx hq, fun _ _ => rfl⟩
    | ireturn =>
      dsimp only at h
      cases hq : am_fin rt .ireturn ls st with
      | none => rw [hq] at h; cases h
      | some o2 => rw [hq] at h; cases h; exact ⟨fr_fin hx hq, fun _ _ => rfl⟩
    | lreturn =>
      dsimp only at h
      cases hq : am_fin rt .lreturn ls st with
      | none => rw [hq] at h; cases h
      | some o2 => rw [hq] at h; cases h; exact ⟨fr_fin hx hq, fun _ _ => rfl⟩
    | areturn =>
      dsimp only at h
      cases hq : am_fin rt .areturn ls st with
      | none => rw [hq] at h; cases h
      | some o2 => rw [hq] at h; cases h; exact ⟨fr_fin hx hq, fun _ _ => rfl⟩
    | _ => simp [am_fin] at h
theorem am_run_fr {S : Nat → Bool} (hcl : fr_cl S) {cs : List am_F} {hs : List (Nat × Nat × String × Value)} {rt : Nat} {X : Nat × (Nat → Int32)} {P : am_P} (hsta : ∀ pc idx len a b z, am_at P pc = some (.getstatic idx, len, a, b, z) → S a = true) (hc : ∀ F ∈ cs, fr_F S F) : ∀ (n pc : Nat) (ls st : List am_V) (M : am_M) (o : am_O) (M' : am_M), fr_all S ls → fr_all S st → am_run cs hs rt X P n pc ls st M = some (o, M') → fr_out S o M M' := by
  intro n
  induction n with
  | zero => intro pc ls st M o M' _ _ h; cases h
  | succ n ih =>
    intro pc ls st M o M' hl hx h
    exact am_step_fr hcl hsta hc hl hx h (fun pc' ls' st' M2 h1 h2 h3 => ih pc' ls' st' M2 o M' h1 h2 h3)
theorem fr_lay {S : Nat → Bool} : ∀ {av : List am_V}, fr_all S av → fr_all S (am_lay av)
  | [], _ => fr_nil
  | .inl v :: l, h => by
    have ih := fr_lay (fr_t h)
    cases v <;> first | exact fr_c fr_i (fr_c fr_i ih) | exact fr_c fr_i ih
  | .inr q :: l, h => fr_c (fr_h h) (fr_lay (fr_t h))
theorem am_meth_fr {S : Nat → Bool} (hcl : fr_cl S) {cs : List am_F} {hs : List (Nat × Nat × String × Value)} {rt nL N : Nat} {P : am_P} (hsta : P.all (fun l => l.all (fun q => match q.2 with | (.getstatic _, _, a, _, _) => S a | _ => true)) = true) (hc : ∀ F ∈ cs, fr_F S F) : fr_F S (am_meth cs hs rt nL N P) := by
  intro av M o M' hav h
  unfold am_meth at h
  cases hq : Nat.ble (am_lay av).length nL with
  | false => rw [hq] at h; cases h
  | true =>
    rw [hq] at h
    refine am_run_fr hcl ?_ hc _ _ _ _ _ _ _ (fr_app (fr_lay hav) (fun v hv => by rw [List.eq_of_mem_replicate hv]; exact fr_i)) fr_nil h
    intro pc idx len a b z hr
    obtain ⟨l, h1, h2⟩ := am_at_mem hr
    exact List.all_eq_true.mp (List.all_eq_true.mp hsta l h1) _ h2
theorem fr_cs_nil {S : Nat → Bool} : ∀ F ∈ ([] : List am_F), fr_F S F := fun _ h => nomatch h
theorem fr_cs_cons {S : Nat → Bool} {F0' : am_F} {cs : List am_F} (h : fr_F S F0') (t : ∀ F ∈ cs, fr_F S F) : ∀ F ∈ F0' :: cs, fr_F S F := fun F hF => (List.mem_cons.mp hF).elim (fun e => e ▸ h) (t F)
/-- the class's kinds (and the law's long[1]); the reference's -/
def fr_C (k : Nat) : Bool := (Nat.blt k 29 && !Nat.beq k 10) || Nat.beq k 80
def fr_D (k : Nat) : Bool := Nat.beq k 10 || (Nat.ble 30 k && Nat.blt k 70)
theorem fr_len {k : Nat} {e n : Nat} (h : am_ar k = some (e, n)) : k < 81 := by
  rcases Nat.lt_or_ge k 81 with q | q
  · exact q
  · exfalso
    unfold am_ar at h
    rw [List.getD_eq_getElem?_getD, List.getElem?_eq_none (by show 81 ≤ k; exact q)] at h
    cases h
theorem fr_ftl {c f k : Nat} (h : am_ft c f = some k) : c < 11 ∧ f < 48 := by
  unfold am_ft at h
  rcases Nat.lt_or_ge c 11 with q | q
  · refine ⟨q, ?_⟩
    rcases Nat.lt_or_ge f 48 with q2 | q2
    · exact q2
    · exfalso
      have hlen : ∀ c, c < 11 → (am_ftl.getD c []).length ≤ 48 := by decide +kernel
      rw [List.getD_eq_getElem?_getD (i := f), List.getElem?_eq_none (Nat.le_trans (hlen c q) q2)] at h
      cases h
  · exfalso
    rw [List.getD_eq_getElem?_getD (i := c), List.getElem?_eq_none (by show 11 ≤ c; exact q)] at h
    cases h
theorem fr_cl_C : fr_cl fr_C := by
  refine ⟨fun c f k h hc => ?_, fun k e n h hk => ?_⟩
  · have key : ∀ c, c < 11 → ∀ f, f < 48 → (match am_ft c f with | some k => !fr_C c || fr_C k | none => true) = true := by decide +kernel
    have := key c (fr_ftl h).1 f (fr_ftl h).2
    rw [h, hc] at this
    exact this
  · have key : ∀ k, k < 81 → (match am_ar k with | some (e + 3, n) => !fr_C k || fr_C e | _ => true) = true := by decide +kernel
    have := key k (fr_len h)
    rw [h, hk] at this
    exact this
theorem fr_cl_D : fr_cl fr_D := by
  refine ⟨fun c f k h hc => ?_, fun k e n h hk => ?_⟩
  · have key : ∀ c, c < 11 → ∀ f, f < 48 → (match am_ft c f with | some k => !fr_D c || fr_D k | none => true) = true := by decide +kernel
    have := key c (fr_ftl h).1 f (fr_ftl h).2
    rw [h, hc] at this
    exact this
  · have key : ∀ k, k < 81 → (match am_ar k with | some (e + 3, n) => !fr_D k || fr_D e | _ => true) = true := by decide +kernel
    have := key k (fr_len h)
    rw [h, hk] at this
    exact this
theorem fr_dem {S : Nat → Bool} {E : String} : fr_F S (fun av M => match av with | [.inl (.int x)] => if x = 0 then some (.inr E, M) else some (.inl none, M) | _ => none) := by
  intro av M o M' _ h
  dsimp only at h
  split at h
  · split at h
    · cases h; exact ⟨fun v hv => (by cases hv), fun _ _ => rfl⟩
    · cases h; exact ⟨fun v hv => (by cases hv), fun _ _ => rfl⟩
  · cases h
theorem frX9_isWithin : fr_F fr_C fX9_isWithin := am_meth_fr fr_cl_C (by decide) fr_cs_nil
theorem frX0_accepts : fr_F fr_C fX0_accepts := am_meth_fr fr_cl_C (by decide) (fr_cs_cons frX9_isWithin fr_cs_nil)
theorem frX0_takes : fr_F fr_C fX0_takes := am_meth_fr fr_cl_C (by decide) fr_cs_nil
theorem frX0_add : fr_F fr_C fX0_add := am_meth_fr fr_cl_C (by decide) fr_cs_nil
theorem frX0_isMonotone : fr_F fr_C fX0_isMonotone := am_meth_fr fr_cl_C (by decide) fr_cs_nil
theorem frX0_isComplete : fr_F fr_C fX0_isComplete := am_meth_fr fr_cl_C (by decide) (fr_cs_cons frX0_isMonotone fr_cs_nil)
theorem frJ9_floorDiv_f86c9 : fr_F fr_C fJ9_floorDiv_f86c9 := am_meth_fr fr_cl_C (by decide) fr_cs_nil
theorem frX9_rounded : fr_F fr_C fX9_rounded := am_meth_fr fr_cl_C (by decide) (fr_cs_cons frJ9_floorDiv_f86c9 fr_cs_nil)
theorem frX0_valueAt : fr_F fr_C fX0_valueAt := am_meth_fr fr_cl_C (by decide) (fr_cs_cons frX9_rounded fr_cs_nil)
theorem frX1_isClean : fr_F fr_C fX1_isClean := am_meth_fr fr_cl_C (by decide) fr_cs_nil
theorem frX1_turn : fr_F fr_C fX1_turn := am_meth_fr fr_cl_C (by decide) fr_cs_nil
theorem frX1_start : fr_F fr_C fX1_start := am_meth_fr fr_cl_C (by decide) fr_cs_nil
theorem frX1_addReading : fr_F fr_C fX1_addReading := am_meth_fr fr_cl_C (by decide) fr_cs_nil
theorem frX1_sendToWash : fr_F fr_C fX1_sendToWash := am_meth_fr fr_cl_C (by decide) fr_cs_nil
theorem frX2_append : fr_F fr_C fX2_append := am_meth_fr fr_cl_C (by decide) fr_cs_nil
theorem frX2_fromLatest : fr_F fr_C fX2_fromLatest := am_meth_fr fr_cl_C (by decide) (fr_cs_cons frX9_isWithin fr_cs_nil)
theorem frX2_above : fr_F fr_C fX2_above := am_meth_fr fr_cl_C (by decide) (fr_cs_cons frX2_fromLatest fr_cs_nil)
theorem frX2_below : fr_F fr_C fX2_below := am_meth_fr fr_cl_C (by decide) (fr_cs_cons frX2_fromLatest fr_cs_nil)
theorem frX3_append : fr_F fr_C fX3_append := am_meth_fr fr_cl_C (by decide) fr_cs_nil
theorem frX3_dropFirst : fr_F fr_C fX3_dropFirst := am_meth_fr fr_cl_C (by decide) fr_cs_nil
theorem frX4_place : fr_F fr_C fX4_place := am_meth_fr fr_cl_C (by decide) fr_cs_nil
theorem frX4_isOpen : fr_F fr_C fX4_isOpen := am_meth_fr fr_cl_C (by decide) fr_cs_nil
theorem frX4_startRun : fr_F fr_C fX4_startRun := am_meth_fr fr_cl_C (by decide) fr_cs_nil
theorem frX4_waitAgain : fr_F fr_C fX4_waitAgain := am_meth_fr fr_cl_C (by decide) fr_cs_nil
theorem frX4_fail : fr_F fr_C fX4_fail := am_meth_fr fr_cl_C (by decide) fr_cs_nil
theorem frX4_breakOff : fr_F fr_C fX4_breakOff := am_meth_fr fr_cl_C (by decide) (fr_cs_cons frX4_waitAgain (fr_cs_cons frX4_fail fr_cs_nil))
theorem frX4_release : fr_F fr_C fX4_release := am_meth_fr fr_cl_C (by decide) fr_cs_nil
theorem frX4_runFlags : fr_F fr_C fX4_runFlags := am_meth_fr fr_cl_C (by decide) fr_cs_nil
theorem frX5_isEmpty : fr_F fr_C fX5_isEmpty := am_meth_fr fr_cl_C (by decide) fr_cs_nil
theorem frX5_fill : fr_F fr_C fX5_fill := am_meth_fr fr_cl_C (by decide) fr_cs_nil
theorem frX5_canGive : fr_F fr_C fX5_canGive := am_meth_fr fr_cl_C (by decide) fr_cs_nil
theorem frX6_accepts : fr_F fr_C fX6_accepts := am_meth_fr fr_cl_C (by decide) (fr_cs_cons frX9_isWithin fr_cs_nil)
theorem frX6_kindOf : fr_F fr_C fX6_kindOf := am_meth_fr fr_cl_C (by decide) fr_cs_nil
theorem frX6_doseOf : fr_F fr_C fX6_doseOf := am_meth_fr fr_cl_C (by decide) fr_cs_nil
theorem frX6_ageOf : fr_F fr_C fX6_ageOf := am_meth_fr fr_cl_C (by decide) fr_cs_nil
theorem frX6_lacks : fr_F fr_C fX6_lacks := am_meth_fr fr_cl_C (by decide) (fr_cs_cons frX6_kindOf fr_cs_nil)
theorem frX6_sampleVolume : fr_F fr_C fX6_sampleVolume := am_meth_fr fr_cl_C (by decide) fr_cs_nil
theorem frX6_isReagentRight : fr_F fr_C fX6_isReagentRight := am_meth_fr fr_cl_C (by decide) (fr_cs_cons frX6_doseOf (fr_cs_cons frX6_ageOf fr_cs_nil))
theorem frX6_areReagentsRight : fr_F fr_C fX6_areReagentsRight := am_meth_fr fr_cl_C (by decide) (fr_cs_cons frX6_kindOf (fr_cs_cons frX6_isReagentRight (fr_cs_cons frX6_ageOf fr_cs_nil)))
theorem frX6_areReadingsRight : fr_F fr_C fX6_areReadingsRight := am_meth_fr fr_cl_C (by decide) (fr_cs_cons frX9_isWithin fr_cs_nil)
theorem frX6_dilutes : fr_F fr_C fX6_dilutes := am_meth_fr fr_cl_C (by decide) fr_cs_nil
theorem frX6_isDilutionRight : fr_F fr_C fX6_isDilutionRight := am_meth_fr fr_cl_C (by decide) (fr_cs_cons frX6_dilutes fr_cs_nil)
theorem frX6_isComplete : fr_F fr_C fX6_isComplete := am_meth_fr fr_cl_C (by decide) (fr_cs_cons frX6_areReagentsRight (fr_cs_cons frX6_areReadingsRight (fr_cs_cons frX6_isDilutionRight (fr_cs_cons frX0_isComplete fr_cs_nil))))
theorem frX6_isReadAt : fr_F fr_C fX6_isReadAt := am_meth_fr fr_cl_C (by decide) (fr_cs_cons frX9_isWithin fr_cs_nil)
theorem frX6_isOverAt : fr_F fr_C fX6_isOverAt := am_meth_fr fr_cl_C (by decide) fr_cs_nil
theorem frX6_asksAgain : fr_F fr_C fX6_asksAgain := am_meth_fr fr_cl_C (by decide) fr_cs_nil
theorem frX6_limitFlags : fr_F fr_C fX6_limitFlags := am_meth_fr fr_cl_C (by decide) fr_cs_nil
theorem frX6_valueAt : fr_F fr_C fX6_valueAt := am_meth_fr fr_cl_C (by decide) (fr_cs_cons frX0_valueAt fr_cs_nil)
theorem frX6_rateOf : fr_F fr_C fX6_rateOf := am_meth_fr fr_cl_C (by decide) (fr_cs_cons frX9_rounded fr_cs_nil)
theorem frX6_formulaOf : fr_F fr_C fX6_formulaOf := am_meth_fr fr_cl_C (by decide) (fr_cs_cons frX9_isWithin (fr_cs_cons frX6_rateOf fr_cs_nil))
theorem frX6_brokenRules : fr_F fr_C fX6_brokenRules := am_meth_fr fr_cl_C (by decide) (fr_cs_cons frX2_above (fr_cs_cons frX2_below fr_cs_nil))
theorem frX7_turnSuccession : fr_F fr_C fX7_turnSuccession := am_meth_fr fr_cl_C (by decide) fr_cs_nil
theorem frX7_clear : fr_F fr_C fX7_clear := am_meth_fr fr_cl_C (by decide) fr_cs_nil
theorem frX7_turn : fr_F fr_C fX7_turn := am_meth_fr fr_cl_C (by decide) (fr_cs_cons frX7_clear fr_cs_nil)
theorem frX7_userNow : fr_F fr_C fX7_userNow := am_meth_fr fr_cl_C (by decide) fr_cs_nil
theorem frX7_isFree : fr_F fr_C fX7_isFree := am_meth_fr fr_cl_C (by decide) (fr_cs_cons frX9_isWithin fr_cs_nil)
theorem frX7_hasForbiddenSuccession : fr_F fr_C fX7_hasForbiddenSuccession := am_meth_fr fr_cl_C (by decide) fr_cs_nil
theorem frX7_cancel : fr_F fr_C fX7_cancel := am_meth_fr fr_cl_C (by decide) (fr_cs_cons frX7_clear fr_cs_nil)
theorem frX7_book : fr_F fr_C fX7_book := am_meth_fr fr_cl_C (by decide) (fr_cs_cons frX6_kindOf (fr_cs_cons frX6_ageOf (fr_cs_cons frX7_isFree (fr_cs_cons frX7_hasForbiddenSuccession (fr_cs_cons frX7_cancel fr_cs_nil)))))
theorem frX8_isEmpty : fr_F fr_C fX8_isEmpty := am_meth_fr fr_cl_C (by decide) fr_cs_nil
theorem frX8_fill : fr_F fr_C fX8_fill := am_meth_fr fr_cl_C (by decide) fr_cs_nil
theorem frX9_demandArgument : fr_F fr_C fX9_demandArgument := fr_dem
theorem frX9_isOrdered : fr_F fr_C fX9_isOrdered := am_meth_fr fr_cl_C (by decide) (fr_cs_cons frX4_isOpen fr_cs_nil)
theorem frX9_demandState : fr_F fr_C fX9_demandState := fr_dem
theorem frX9_define : fr_F fr_C fX9_define := am_meth_fr fr_cl_C (by decide) (fr_cs_cons frX9_isWithin (fr_cs_cons frX6_accepts (fr_cs_cons frX9_demandArgument (fr_cs_cons frX9_isOrdered (fr_cs_cons frX9_demandState fr_cs_nil)))))
theorem frX9_curve : fr_F fr_C fX9_curve := am_meth_fr fr_cl_C (by decide) (fr_cs_cons frX9_isWithin (fr_cs_cons frX0_accepts (fr_cs_cons frX9_demandArgument (fr_cs_cons frX9_isOrdered (fr_cs_cons frX0_takes (fr_cs_cons frX9_demandState (fr_cs_cons frX0_add fr_cs_nil)))))))
theorem frX9_seal : fr_F fr_C fX9_seal := am_meth_fr fr_cl_C (by decide) (fr_cs_cons frX9_isWithin (fr_cs_cons frX9_demandArgument (fr_cs_cons frX6_isComplete fr_cs_nil)))
theorem frX9_slotOf : fr_F fr_C fX9_slotOf := am_meth_fr fr_cl_C (by decide) fr_cs_nil
theorem frX9_rack : fr_F fr_C fX9_rack := am_meth_fr fr_cl_C (by decide) (fr_cs_cons frX9_isWithin (fr_cs_cons frX9_demandArgument (fr_cs_cons frX8_isEmpty (fr_cs_cons frX9_slotOf (fr_cs_cons frX9_demandState (fr_cs_cons frX8_fill fr_cs_nil))))))
theorem frX9_demandElement : fr_F fr_C fX9_demandElement := fr_dem
theorem frX9_isAwaited : fr_F fr_C fX9_isAwaited := am_meth_fr fr_cl_C (by decide) (fr_cs_cons frX4_isOpen fr_cs_nil)
theorem frX9_removeRack : fr_F fr_C fX9_removeRack := am_meth_fr fr_cl_C (by decide) (fr_cs_cons frX9_isWithin (fr_cs_cons frX9_demandArgument (fr_cs_cons frX8_isEmpty (fr_cs_cons frX9_demandElement (fr_cs_cons frX9_isAwaited (fr_cs_cons frX9_demandState fr_cs_nil))))))
theorem frX9_reagent : fr_F fr_C fX9_reagent := am_meth_fr fr_cl_C (by decide) (fr_cs_cons frX9_isWithin (fr_cs_cons frX9_demandArgument (fr_cs_cons frX9_demandState (fr_cs_cons frX5_fill fr_cs_nil))))
theorem frX9_forbid : fr_F fr_C fX9_forbid := am_meth_fr fr_cl_C (by decide) (fr_cs_cons frX9_isWithin (fr_cs_cons frX9_demandArgument (fr_cs_cons frX7_turnSuccession fr_cs_nil)))
theorem frX9_order : fr_F fr_C fX9_order := am_meth_fr fr_cl_C (by decide) (fr_cs_cons frX9_isWithin (fr_cs_cons frX9_demandArgument (fr_cs_cons frX9_demandState (fr_cs_cons frX4_place fr_cs_nil))))
theorem frX9_clock : fr_F fr_C fX9_clock := am_meth_fr fr_cl_C (by decide) (fr_cs_cons frX9_demandArgument fr_cs_nil)
theorem frX9_light : fr_F fr_C fX9_light := am_meth_fr fr_cl_C (by decide) (fr_cs_cons frX9_isWithin (fr_cs_cons frX9_demandArgument fr_cs_nil))
theorem frX9_spoil : fr_F fr_C fX9_spoil := am_meth_fr fr_cl_C (by decide) (fr_cs_cons frX9_isWithin (fr_cs_cons frX9_demandArgument fr_cs_nil))
theorem frX9_turnDisc : fr_F fr_C fX9_turnDisc := am_meth_fr fr_cl_C (by decide) (fr_cs_cons frX1_turn (fr_cs_cons frX7_turn fr_cs_nil))
theorem frX9_breakOff : fr_F fr_C fX9_breakOff := am_meth_fr fr_cl_C (by decide) (fr_cs_cons frX9_isWithin (fr_cs_cons frX7_cancel (fr_cs_cons frX4_breakOff (fr_cs_cons frX1_sendToWash fr_cs_nil))))
theorem frX9_giveNextDose : fr_F fr_C fX9_giveNextDose := am_meth_fr fr_cl_C (by decide) (fr_cs_cons frX9_isWithin fr_cs_nil)
theorem frX9_giveReagent : fr_F fr_C fX9_giveReagent := am_meth_fr fr_cl_C (by decide) (fr_cs_cons frX7_userNow (fr_cs_cons frX9_isWithin (fr_cs_cons frX9_breakOff (fr_cs_cons frX9_giveNextDose fr_cs_nil))))
theorem frX9_absorbanceOf : fr_F fr_C fX9_absorbanceOf := am_meth_fr fr_cl_C (by decide) fr_cs_nil
theorem frX9_cuvetteOf : fr_F fr_C fX9_cuvetteOf := am_meth_fr fr_cl_C (by decide) (fr_cs_cons frX9_isWithin fr_cs_nil)
theorem frX9_takeReadings : fr_F fr_C fX9_takeReadings := am_meth_fr fr_cl_C (by decide) (fr_cs_cons frX9_absorbanceOf (fr_cs_cons frX9_cuvetteOf (fr_cs_cons frX6_isReadAt (fr_cs_cons frX1_addReading fr_cs_nil))))
theorem frJ9_min_f86c9 : fr_F fr_C fJ9_min_f86c9 := am_meth_fr fr_cl_C (by decide) fr_cs_nil
theorem frJ9_max_f86c9 : fr_F fr_C fJ9_max_f86c9 := am_meth_fr fr_cl_C (by decide) fr_cs_nil
theorem frX9_limited : fr_F fr_C fX9_limited := am_meth_fr fr_cl_C (by decide) (fr_cs_cons frJ9_min_f86c9 (fr_cs_cons frJ9_max_f86c9 fr_cs_nil))
theorem frX9_judge : fr_F fr_C fX9_judge := am_meth_fr fr_cl_C (by decide) (fr_cs_cons frX6_formulaOf (fr_cs_cons frX6_valueAt (fr_cs_cons frX9_limited (fr_cs_cons frX6_limitFlags (fr_cs_cons frX4_runFlags (fr_cs_cons frX1_sendToWash (fr_cs_cons frX6_asksAgain (fr_cs_cons frX6_dilutes (fr_cs_cons frX4_waitAgain (fr_cs_cons frX4_release (fr_cs_cons frX3_append (fr_cs_cons frX2_append fr_cs_nil))))))))))))
theorem frX9_judgeEndedRuns : fr_F fr_C fX9_judgeEndedRuns := am_meth_fr fr_cl_C (by decide) (fr_cs_cons frX9_cuvetteOf (fr_cs_cons frX6_isOverAt (fr_cs_cons frX9_judge fr_cs_nil)))
theorem frX9_positionFor : fr_F fr_C fX9_positionFor := am_meth_fr fr_cl_C (by decide) (fr_cs_cons frX6_kindOf (fr_cs_cons frX6_doseOf (fr_cs_cons frX5_canGive fr_cs_nil)))
theorem frX9_cleanCuvette : fr_F fr_C fX9_cleanCuvette := am_meth_fr fr_cl_C (by decide) (fr_cs_cons frX1_isClean fr_cs_nil)
theorem frX9_reserve : fr_F fr_C fX9_reserve := am_meth_fr fr_cl_C (by decide) fr_cs_nil
theorem frX9_takeSample : fr_F fr_C fX9_takeSample := am_meth_fr fr_cl_C (by decide) (fr_cs_cons frX9_breakOff fr_cs_nil)
theorem frX9_tryStart : fr_F fr_C fX9_tryStart := am_meth_fr fr_cl_C (by decide) (fr_cs_cons frX9_slotOf (fr_cs_cons frX6_sampleVolume (fr_cs_cons frX4_fail (fr_cs_cons frX9_positionFor (fr_cs_cons frX6_lacks (fr_cs_cons frX9_cleanCuvette (fr_cs_cons frX7_book (fr_cs_cons frX1_start (fr_cs_cons frX6_doseOf (fr_cs_cons frX9_reserve (fr_cs_cons frX4_startRun (fr_cs_cons frX9_takeSample fr_cs_nil))))))))))))
theorem frX9_startFirst : fr_F fr_C fX9_startFirst := am_meth_fr fr_cl_C (by decide) (fr_cs_cons frX9_tryStart fr_cs_nil)
theorem frX9_step : fr_F fr_C fX9_step := am_meth_fr fr_cl_C (by decide) (fr_cs_cons frX9_turnDisc (fr_cs_cons frX9_giveReagent (fr_cs_cons frX9_takeReadings (fr_cs_cons frX9_judgeEndedRuns (fr_cs_cons frX9_startFirst fr_cs_nil)))))
theorem frX9_idle : fr_F fr_C fX9_idle := am_meth_fr fr_cl_C (by decide) fr_cs_nil
theorem frX9_state : fr_F fr_C fX9_state := am_meth_fr fr_cl_C (by decide) (fr_cs_cons frX9_isWithin (fr_cs_cons frX9_demandArgument (fr_cs_cons frX9_cuvetteOf fr_cs_nil)))
theorem frX9_cuvette : fr_F fr_C fX9_cuvette := am_meth_fr fr_cl_C (by decide) (fr_cs_cons frX9_isWithin (fr_cs_cons frX9_demandArgument fr_cs_nil))
theorem frX9_volume : fr_F fr_C fX9_volume := am_meth_fr fr_cl_C (by decide) (fr_cs_cons frX9_isWithin (fr_cs_cons frX9_demandArgument (fr_cs_cons frX8_isEmpty (fr_cs_cons frX9_demandElement (fr_cs_cons frX5_isEmpty fr_cs_nil)))))
theorem frX9_demandIndex : fr_F fr_C fX9_demandIndex := fr_dem
theorem frX9_trend : fr_F fr_C fX9_trend := am_meth_fr fr_cl_C (by decide) (fr_cs_cons frX9_isWithin (fr_cs_cons frX9_demandArgument (fr_cs_cons frX9_demandIndex (fr_cs_cons frX2_fromLatest fr_cs_nil))))
theorem frX9_rules : fr_F fr_C fX9_rules := am_meth_fr fr_cl_C (by decide) (fr_cs_cons frX9_isWithin (fr_cs_cons frX9_demandArgument (fr_cs_cons frX6_brokenRules fr_cs_nil)))
theorem frX9_host : fr_F fr_C fX9_host := am_meth_fr fr_cl_C (by decide) (fr_cs_cons frX9_isWithin (fr_cs_cons frX9_demandIndex fr_cs_nil))
theorem frX9_took : fr_F fr_C fX9_took := am_meth_fr fr_cl_C (by decide) (fr_cs_cons frX9_isWithin (fr_cs_cons frX9_demandArgument (fr_cs_cons frX3_dropFirst fr_cs_nil)))
theorem frX10_thrown : fr_F fr_D fX10_thrown := am_meth_fr fr_cl_D (by decide) fr_cs_nil
theorem frX10_within : fr_F fr_D fX10_within := am_meth_fr fr_cl_D (by decide) fr_cs_nil
theorem frX10_isTest : fr_F fr_D fX10_isTest := am_meth_fr fr_cl_D (by decide) (fr_cs_cons frX10_within fr_cs_nil)
theorem frX10_of : fr_F fr_D fX10_of := am_meth_fr fr_cl_D (by decide) fr_cs_nil
theorem frX10_pending : fr_F fr_D fX10_pending := am_meth_fr fr_cl_D (by decide) fr_cs_nil
theorem frX10_fits : fr_F fr_D fX10_fits := am_meth_fr fr_cl_D (by decide) (fr_cs_cons frX10_within fr_cs_nil)
theorem frX10_define : fr_F fr_D fX10_define := am_meth_fr fr_cl_D (by decide) (fr_cs_cons frX10_isTest (fr_cs_cons frX10_within (fr_cs_cons frX10_fits (fr_cs_cons frX10_pending fr_cs_nil))))
theorem frX10_curve : fr_F fr_D fX10_curve := am_meth_fr fr_cl_D (by decide) (fr_cs_cons frX10_isTest (fr_cs_cons frX10_within (fr_cs_cons frX10_pending fr_cs_nil)))
theorem frX10_reagentGood : fr_F fr_D fX10_reagentGood := am_meth_fr fr_cl_D (by decide) (fr_cs_cons frX10_of fr_cs_nil)
theorem frX10_curveGood : fr_F fr_D fX10_curveGood := am_meth_fr fr_cl_D (by decide) fr_cs_nil
theorem frX10_seal : fr_F fr_D fX10_seal := am_meth_fr fr_cl_D (by decide) (fr_cs_cons frX10_isTest (fr_cs_cons frX10_of (fr_cs_cons frX10_reagentGood (fr_cs_cons frX10_curveGood fr_cs_nil))))
theorem frX10_slotOf : fr_F fr_D fX10_slotOf := am_meth_fr fr_cl_D (by decide) fr_cs_nil
theorem frX10_rack : fr_F fr_D fX10_rack := am_meth_fr fr_cl_D (by decide) (fr_cs_cons frX10_within (fr_cs_cons frX10_slotOf fr_cs_nil))
theorem frX10_removeRack : fr_F fr_D fX10_removeRack := am_meth_fr fr_cl_D (by decide) (fr_cs_cons frX10_within fr_cs_nil)
theorem frX10_reserved : fr_F fr_D fX10_reserved := am_meth_fr fr_cl_D (by decide) fr_cs_nil
theorem frX10_reagent : fr_F fr_D fX10_reagent := am_meth_fr fr_cl_D (by decide) (fr_cs_cons frX10_within (fr_cs_cons frX10_reserved fr_cs_nil))
theorem frX10_forbid : fr_F fr_D fX10_forbid := am_meth_fr fr_cl_D (by decide) (fr_cs_cons frX10_within fr_cs_nil)
theorem frX10_order : fr_F fr_D fX10_order := am_meth_fr fr_cl_D (by decide) (fr_cs_cons frX10_within (fr_cs_cons frX10_isTest fr_cs_nil))
theorem frX10_clock : fr_F fr_D fX10_clock := am_meth_fr fr_cl_D (by decide) fr_cs_nil
theorem frX10_light : fr_F fr_D fX10_light := am_meth_fr fr_cl_D (by decide) (fr_cs_cons frX10_within fr_cs_nil)
theorem frX10_spoil : fr_F fr_D fX10_spoil := am_meth_fr fr_cl_D (by decide) (fr_cs_cons frX10_within fr_cs_nil)
theorem frX10_copyBook : fr_F fr_D fX10_copyBook := am_meth_fr fr_cl_D (by decide) fr_cs_nil
theorem frX10_cancel : fr_F fr_D fX10_cancel := am_meth_fr fr_cl_D (by decide) (fr_cs_cons frX10_copyBook fr_cs_nil)
theorem frX10_nextUse : fr_F fr_D fX10_nextUse := am_meth_fr fr_cl_D (by decide) fr_cs_nil
theorem frX10_follows : fr_F fr_D fX10_follows := am_meth_fr fr_cl_D (by decide) (fr_cs_cons frX10_nextUse fr_cs_nil)
theorem frX10_allowed : fr_F fr_D fX10_allowed := am_meth_fr fr_cl_D (by decide) (fr_cs_cons frX10_follows fr_cs_nil)
theorem frX10_placeFor : fr_F fr_D fX10_placeFor := am_meth_fr fr_cl_D (by decide) (fr_cs_cons frX10_reserved fr_cs_nil)
theorem frX10_book : fr_F fr_D fX10_book := am_meth_fr fr_cl_D (by decide) (fr_cs_cons frX10_of (fr_cs_cons frX10_placeFor fr_cs_nil))
theorem frX10_fail : fr_F fr_D fX10_fail := am_meth_fr fr_cl_D (by decide) fr_cs_nil
theorem frX10_leave : fr_F fr_D fX10_leave := am_meth_fr fr_cl_D (by decide) (fr_cs_cons frX10_cancel fr_cs_nil)
theorem frX10_breaksOff : fr_F fr_D fX10_breaksOff := am_meth_fr fr_cl_D (by decide) (fr_cs_cons frX10_leave (fr_cs_cons frX10_fail fr_cs_nil))
theorem frX10_give : fr_F fr_D fX10_give := am_meth_fr fr_cl_D (by decide) (fr_cs_cons frX10_breaksOff (fr_cs_cons frX10_copyBook fr_cs_nil))
theorem frX10_absorbance : fr_F fr_D fX10_absorbance := am_meth_fr fr_cl_D (by decide) fr_cs_nil
theorem frX10_floor : fr_F fr_D fX10_floor := am_meth_fr fr_cl_D (by decide) fr_cs_nil
theorem frX10_rounded : fr_F fr_D fX10_rounded := am_meth_fr fr_cl_D (by decide) (fr_cs_cons frX10_floor fr_cs_nil)
theorem frX10_resultOf : fr_F fr_D fX10_resultOf := am_meth_fr fr_cl_D (by decide) (fr_cs_cons frX10_of (fr_cs_cons frX10_rounded fr_cs_nil))
theorem frX10_byCurve : fr_F fr_D fX10_byCurve := am_meth_fr fr_cl_D (by decide) (fr_cs_cons frX10_rounded fr_cs_nil)
theorem frX10_release : fr_F fr_D fX10_release := am_meth_fr fr_cl_D (by decide) fr_cs_nil
theorem frX10_remember : fr_F fr_D fX10_remember := am_meth_fr fr_cl_D (by decide) fr_cs_nil
theorem frX10_judge : fr_F fr_D fX10_judge := am_meth_fr fr_cl_D (by decide) (fr_cs_cons frX10_resultOf (fr_cs_cons frX10_byCurve (fr_cs_cons frX10_of (fr_cs_cons frX10_leave (fr_cs_cons frX10_remember (fr_cs_cons frX10_release fr_cs_nil))))))
theorem frX10_goOn : fr_F fr_D fX10_goOn := am_meth_fr fr_cl_D (by decide) fr_cs_nil
theorem frX10_measure : fr_F fr_D fX10_measure := am_meth_fr fr_cl_D (by decide) (fr_cs_cons frX10_of (fr_cs_cons frX10_absorbance fr_cs_nil))
theorem frX10_clean : fr_F fr_D fX10_clean := am_meth_fr fr_cl_D (by decide) fr_cs_nil
theorem frX10_start : fr_F fr_D fX10_start := am_meth_fr fr_cl_D (by decide) (fr_cs_cons frX10_breaksOff fr_cs_nil)
theorem frX10_tries : fr_F fr_D fX10_tries := am_meth_fr fr_cl_D (by decide) (fr_cs_cons frX10_slotOf (fr_cs_cons frX10_of (fr_cs_cons frX10_fail (fr_cs_cons frX10_book (fr_cs_cons frX10_cancel (fr_cs_cons frX10_clean (fr_cs_cons frX10_allowed (fr_cs_cons frX10_start fr_cs_nil))))))))
theorem frX10_startOne : fr_F fr_D fX10_startOne := am_meth_fr fr_cl_D (by decide) (fr_cs_cons frX10_tries fr_cs_nil)
theorem frX10_step : fr_F fr_D fX10_step := am_meth_fr fr_cl_D (by decide) (fr_cs_cons frX10_goOn (fr_cs_cons frX10_give (fr_cs_cons frX10_measure (fr_cs_cons frX10_of (fr_cs_cons frX10_judge (fr_cs_cons frX10_startOne fr_cs_nil))))))
theorem frX10_idle : fr_F fr_D fX10_idle := am_meth_fr fr_cl_D (by decide) fr_cs_nil
theorem frX10_state : fr_F fr_D fX10_state := am_meth_fr fr_cl_D (by decide) (fr_cs_cons frX10_within fr_cs_nil)
theorem frX10_cuvette : fr_F fr_D fX10_cuvette := am_meth_fr fr_cl_D (by decide) (fr_cs_cons frX10_within fr_cs_nil)
theorem frX10_volume : fr_F fr_D fX10_volume := am_meth_fr fr_cl_D (by decide) (fr_cs_cons frX10_within (fr_cs_cons frX10_reserved fr_cs_nil))
theorem frX10_trend : fr_F fr_D fX10_trend := am_meth_fr fr_cl_D (by decide) (fr_cs_cons frX10_isTest fr_cs_nil)
theorem frX10_above : fr_F fr_D fX10_above := am_meth_fr fr_cl_D (by decide) (fr_cs_cons frX10_of fr_cs_nil)
theorem frX10_rules : fr_F fr_D fX10_rules := am_meth_fr fr_cl_D (by decide) (fr_cs_cons frX10_isTest (fr_cs_cons frX10_of (fr_cs_cons frX10_above fr_cs_nil)))
theorem frX10_host : fr_F fr_D fX10_host := am_meth_fr fr_cl_D (by decide) fr_cs_nil
theorem frX10_took : fr_F fr_D fX10_took := am_meth_fr fr_cl_D (by decide) fr_cs_nil
theorem frL_define : fr_F fr_C fL_define := am_meth_fr fr_cl_C (by decide) (fr_cs_cons frX9_define fr_cs_nil)
theorem frL_curve : fr_F fr_C fL_curve := am_meth_fr fr_cl_C (by decide) (fr_cs_cons frX9_curve fr_cs_nil)
theorem frL_seal : fr_F fr_C fL_seal := am_meth_fr fr_cl_C (by decide) (fr_cs_cons frX9_seal fr_cs_nil)
theorem frL_rack : fr_F fr_C fL_rack := am_meth_fr fr_cl_C (by decide) (fr_cs_cons frX9_rack fr_cs_nil)
theorem frL_removeRack : fr_F fr_C fL_removeRack := am_meth_fr fr_cl_C (by decide) (fr_cs_cons frX9_removeRack fr_cs_nil)
theorem frL_reagent : fr_F fr_C fL_reagent := am_meth_fr fr_cl_C (by decide) (fr_cs_cons frX9_reagent fr_cs_nil)
theorem frL_forbid : fr_F fr_C fL_forbid := am_meth_fr fr_cl_C (by decide) (fr_cs_cons frX9_forbid fr_cs_nil)
theorem frL_order : fr_F fr_C fL_order := am_meth_fr fr_cl_C (by decide) (fr_cs_cons frX9_order fr_cs_nil)
theorem frL_clock : fr_F fr_C fL_clock := am_meth_fr fr_cl_C (by decide) (fr_cs_cons frX9_clock fr_cs_nil)
theorem frL_light : fr_F fr_C fL_light := am_meth_fr fr_cl_C (by decide) (fr_cs_cons frX9_light fr_cs_nil)
theorem frL_spoil : fr_F fr_C fL_spoil := am_meth_fr fr_cl_C (by decide) (fr_cs_cons frX9_spoil fr_cs_nil)
theorem frL_state : fr_F fr_C fL_state := am_meth_fr fr_cl_C (by decide) (fr_cs_cons frX9_state fr_cs_nil)
theorem frL_cuvette : fr_F fr_C fL_cuvette := am_meth_fr fr_cl_C (by decide) (fr_cs_cons frX9_cuvette fr_cs_nil)
theorem frL_volume : fr_F fr_C fL_volume := am_meth_fr fr_cl_C (by decide) (fr_cs_cons frX9_volume fr_cs_nil)
theorem frL_trend : fr_F fr_C fL_trend := am_meth_fr fr_cl_C (by decide) (fr_cs_cons frX9_trend fr_cs_nil)
theorem frL_rules : fr_F fr_C fL_rules := am_meth_fr fr_cl_C (by decide) (fr_cs_cons frX9_rules fr_cs_nil)
theorem frL_host : fr_F fr_C fL_host := am_meth_fr fr_cl_C (by decide) (fr_cs_cons frX9_host fr_cs_nil)
theorem frL_took : fr_F fr_C fL_took := am_meth_fr fr_cl_C (by decide) (fr_cs_cons frX9_took fr_cs_nil)
