/-! ===== where a run's answer comes from ===== -/
theorem am_sw_inv {K : Nat → am_R} {d : Nat} {x : Int32} {L : List (Int32 × Nat)} {r : am_O × am_M} (h : am_sw K d x L = some r) : ∃ t, K t = some r := by
  rcases am_sw_ok h with ⟨_, q, -, -, h3, -⟩ | ⟨-, h2⟩
  · exact ⟨_, h3⟩
  · exact ⟨_, h2⟩
theorem am_ret_inv {cs : List am_F} {hs : List (Nat × Nat × String × Value)} {pc a : Nat} {rest av : List am_V} {M : am_M} {K2 : List am_V → am_M → am_R} {o : am_O} {Mf : am_M} {Rp : Prop} (h : am_ret hs pc rest K2 (am_call cs a av M) = some (o, Mf)) (hK : ∀ st M', K2 st M' = some (o, Mf) → Rp) (hc : ∀ (F : am_F) E M1, cs[a]? = some F → F av M = some (.inr E, M1) → Rp) : Rp := by
  unfold am_ret at h
  cases hq : am_call cs a av M with
  | none => rw [hq] at h; cases h
  | some res =>
    obtain ⟨ro, M1⟩ := res
    rw [hq] at h
    cases ro with
    | inl r =>
      simp only at h
      cases hv : am_okv r with
      | false => rw [hv] at h; cases h
      | true => rw [hv] at h; exact hK _ _ h
    | inr E =>
      unfold am_call at hq
      cases hF : cs[a]? with
      | none => rw [hF] at hq; cases hq
      | some F => rw [hF] at hq; exact hc F E M1 hF hq
set_option maxHeartbeats 4000000 in
theorem am_step_inv {cs : List am_F} {hs : List (Nat × Nat × String × Value)} {rt : Nat} {X : Nat × (Nat → Int32)} {P : am_P} {K : Nat → List am_V → List am_V → am_M → am_R} {pc : Nat} {ls st : List am_V} {M Mf : am_M} {o : am_O} (h : am_step cs hs rt X P K pc ls st M = some (o, Mf)) {Rp : Prop}
    (hK : ∀ pc ls st M, K pc ls st M = some (o, Mf) → Rp) (hf : ∀ i ls st, am_fin rt i ls st = some o → Rp) (hc : ∀ (a : Nat) (F : am_F) av M E M1, cs[a]? = some F → F av M = some (.inr E, M1) → Rp) : Rp := by
  unfold am_step at h
  cases hat : am_at P pc with
  | none => rw [hat] at h; cases h
  | some row =>
    obtain ⟨i, len, a, b, z⟩ := row
    rw [hat] at h
    simp only at h
    cases i with
    | iconst v =>
      dsimp only at h
      exact hK _ _ _ _ h
    | bipush v =>
      dsimp only at h
      exact hK _ _ _ _ h
    | sipush v =>
      dsimp only at h
      exact hK _ _ _ _ h
    | ldc v =>
      dsimp only at h
      exact hK _ _ _ _ h
    | lconst v =>
      dsimp only at h
      exact hK _ _ _ _ h
    | ldc2_w v =>
      dsimp only at h
      exact hK _ _ _ _ h
    | aconst_null =>
      dsimp only at h
      exact hK _ _ _ _ h
    | iload_n k =>
      dsimp only at h
      split at h
      · exact hK _ _ _ _ h
      · cases h
    | iload k =>
      dsimp only at h
      split at h
      · exact hK _ _ _ _ h
      · cases h
    | lload_n k =>
      dsimp only at h
      split at h
      · exact hK _ _ _ _ h
      · cases h
    | lload k =>
      dsimp only at h
      split at h
      · exact hK _ _ _ _ h
      · cases h
    | aload_n k =>
      dsimp only at h
      split at h
      · exact hK _ _ _ _ h
      · exact hK _ _ _ _ h
      · cases h
    | aload k =>
      dsimp only at h
      split at h
      · exact hK _ _ _ _ h
      · exact hK _ _ _ _ h
      · cases h
    | istore_n k =>
      dsimp only at h
      split at h
      · exact hK _ _ _ _ h
      · cases h
    | istore k =>
      dsimp only at h
      split at h
      · exact hK _ _ _ _ h
      · cases h
    | lstore_n k =>
      dsimp only at h
      split at h
      · exact hK _ _ _ _ h
      · cases h
    | lstore k =>
      dsimp only at h
      split at h
      · exact hK _ _ _ _ h
      · cases h
    | astore_n k =>
      dsimp only at h
      split at h
      · exact hK _ _ _ _ h
      · exact hK _ _ _ _ h
      · cases h
    | astore k =>
      dsimp only at h
      split at h
      · exact hK _ _ _ _ h
      · exact hK _ _ _ _ h
      · cases h
    | iinc k v =>
      dsimp only at h
      split at h
      · exact hK _ _ _ _ h
      · cases h
    | iadd =>
      dsimp only at h
      split at h
      · exact hK _ _ _ _ h
      · cases h
    | isub =>
      dsimp only at h
      split at h
      · exact hK _ _ _ _ h
      · cases h
    | imul =>
      dsimp only at h
      split at h
      · exact hK _ _ _ _ h
      · cases h
    | iand =>
      dsimp only at h
      split at h
      · exact hK _ _ _ _ h
      · cases h
    | ior =>
      dsimp only at h
      split at h
      · exact hK _ _ _ _ h
      · cases h
    | ishr =>
      dsimp only at h
      split at h
      · exact hK _ _ _ _ h
      · cases h
    | ladd =>
      dsimp only at h
      split at h
      · exact hK _ _ _ _ h
      · cases h
    | lsub =>
      dsimp only at h
      split at h
      · exact hK _ _ _ _ h
      · cases h
    | lmul =>
      dsimp only at h
      split at h
      · exact hK _ _ _ _ h
      · cases h
    | lxor =>
      dsimp only at h
      split at h
      · exact hK _ _ _ _ h
      · cases h
    | lcmp =>
      dsimp only at h
      split at h
      · exact hK _ _ _ _ h
      · cases h
    | lshl =>
      dsimp only at h
      split at h
      · exact hK _ _ _ _ h
      · cases h
    | i2l =>
      dsimp only at h
      split at h
      · exact hK _ _ _ _ h
      · cases h
    | l2i =>
      dsimp only at h
      split at h
      · exact hK _ _ _ _ h
      · cases h
    | dup2 =>
      dsimp only at h
      split at h
      · exact hK _ _ _ _ h
      · cases h
    | idiv =>
      dsimp only at h
      split at h
      · split at h
        · cases h
        · exact hK _ _ _ _ h
      · cases h
    | irem =>
      dsimp only at h
      split at h
      · split at h
        · cases h
        · exact hK _ _ _ _ h
      · cases h
    | ldiv =>
      dsimp only at h
      split at h
      · split at h
        · cases h
        · exact hK _ _ _ _ h
      · cases h
    | lrem =>
      dsimp only at h
      split at h
      · split at h
        · cases h
        · exact hK _ _ _ _ h
      · cases h
    | dup =>
      dsimp only at h
      split at h
      · exact hK _ _ _ _ h
      · exact hK _ _ _ _ h
      · cases h
    | pop =>
      dsimp only at h
      split at h
      · exact hK _ _ _ _ h
      · exact hK _ _ _ _ h
      · cases h
    | goto o2 =>
      dsimp only at h
      exact hK _ _ _ _ h
    | ifCond cn o2 =>
      dsimp only at h
      split at h
      · cases cn with
        | eq => simp only at h; split at h <;> exact hK _ _ _ _ h
        | ne => simp only at h; split at h <;> exact hK _ _ _ _ h
        | lt => simp only at h; split at h <;> exact hK _ _ _ _ h
        | ge => simp only at h; split at h <;> exact hK _ _ _ _ h
        | gt => simp only at h; split at h <;> exact hK _ _ _ _ h
        | le => simp only at h; split at h <;> exact hK _ _ _ _ h
      · cases h
    | if_icmp cn o2 =>
      dsimp only at h
      split at h
      · cases cn with
        | eq => simp only at h; split at h <;> exact hK _ _ _ _ h
        | ne => simp only at h; split at h <;> exact hK _ _ _ _ h
        | lt => simp only at h; split at h <;> exact hK _ _ _ _ h
        | ge => simp only at h; split at h <;> exact hK _ _ _ _ h
        | gt => simp only at h; split at h <;> exact hK _ _ _ _ h
        | le => simp only at h; split at h <;> exact hK _ _ _ _ h
      · cases h
    | ifnull o2 =>
      dsimp only at h
      split at h
      · exact hK _ _ _ _ h
      · exact hK _ _ _ _ h
      · cases h
    | ifnonnull o2 =>
      dsimp only at h
      split at h
      · exact hK _ _ _ _ h
      · exact hK _ _ _ _ h
      · cases h
    | tableswitch a1 a2 a3 a4 =>
      dsimp only at h
      split at h
      · obtain ⟨t, ht⟩ := am_sw_inv h
        exact hK _ _ _ _ ht
      · cases h
    | lookupswitch a1 a2 =>
      dsimp only at h
      split at h
      · obtain ⟨t, ht⟩ := am_sw_inv h
        exact hK _ _ _ _ ht
      · cases h
    | getfield idx =>
      dsimp only at h
      split at h
      · rename_i k j r
        cases hk : Nat.beq k b with
        | false => rw [hk] at h; cases h
        | true =>
          rw [hk] at h
          simp only [cond_true] at h
          split at h
          · exact hK _ _ _ _ h
          · cases hz : am_fz b a <;> rw [hz] at h <;> exact hK _ _ _ _ h
      · cases h
    | putfield idx =>
      dsimp only at h
      split at h
      · rename_i x k j r
        cases hk : Nat.beq k b with
        | false => rw [hk] at h; cases h
        | true =>
          rw [hk] at h
          simp only [cond_true] at h
          split at h
          · cases h
          · cases hz : am_fz b a with
            | true => rw [hz] at h; simp only [cond_true] at h; split at h
                      · exact hK _ _ _ _ h
                      · cases h
            | false => rw [hz] at h; exact hK _ _ _ _ h
      · cases h
    | getstatic idx =>
      dsimp only at h
      exact hK _ _ _ _ h
    | arraylength =>
      dsimp only at h
      split at h
      · rename_i k j r
        cases hk : (Nat.beq k 29 && Nat.beq rt 5) with
        | true => rw [hk] at h; exact hK _ _ _ _ h
        | false =>
          rw [hk] at h
          simp only [cond_false] at h
          split at h
          · exact hK _ _ _ _ h
          · cases h
      · cases h
    | iaload =>
      dsimp only at h
      split at h
      · rename_i x k j r
        cases hk : (Nat.beq k 27 || Nat.beq k 28) with
        | true =>
          rw [hk] at h
          simp only [cond_true] at h
          split at h
          · exact hK _ _ _ _ h
          · cases h
        | false =>
          rw [hk] at h
          simp only [cond_false] at h
          cases hk9 : (Nat.beq k 29 && Nat.beq rt 5) with
          | true =>
            rw [hk9] at h
            simp only [cond_true] at h
            split at h
            · exact hK _ _ _ _ h
            · cases h
          | false =>
            rw [hk9] at h
            simp only [cond_false] at h
            split at h
            · split at h
              · exact hK _ _ _ _ h
              · cases h
            · cases h
      · cases h
    | iastore =>
      dsimp only at h
      split at h
      · split at h
        · split at h
          · exact hK _ _ _ _ h
          · cases h
        · cases h
      · cases h
    | baload =>
      dsimp only at h
      split at h
      · split at h
        · split at h
          · exact hK _ _ _ _ h
          · cases h
        · cases h
      · cases h
    | bastore =>
      dsimp only at h
      split at h
      · split at h
        · split at h
          · exact hK _ _ _ _ h
          · cases h
        · cases h
      · cases h
    | laload =>
      dsimp only at h
      split at h
      · split at h
        · split at h
          · exact hK _ _ _ _ h
          · cases h
        · cases h
      · cases h
    | lastore =>
      dsimp only at h
      split at h
      · split at h
        · split at h
          · exact hK _ _ _ _ h
          · cases h
        · cases h
      · cases h
    | aaload =>
      dsimp only at h
      split at h
      · split at h
        · split at h
          · exact hK _ _ _ _ h
          · cases h
        · cases h
      · cases h
    | invokestatic idx =>
      dsimp only at h
      cases hq : (Nat.beq (st.take b).length b && Nat.ble (am_wt (st.drop b)) 8) with
      | false => rw [hq] at h; cases h
      | true =>
        rw [hq] at h
        exact am_ret_inv h (fun st M => hK _ _ st M) (fun F E M1 => hc a F _ _ E M1)
    | invokevirtual idx =>
      dsimp only at h
      split at h
      · rename_i k2 k j as hta
        cases hq : (Nat.beq k k2 && Nat.beq (st.take b).length b && Nat.ble (am_wt (st.drop b)) 8) with
        | false => rw [hq] at h; cases h
        | true =>
          rw [hq] at h
          exact am_ret_inv h (fun st M => hK _ _ st M) (fun F E M1 => hc a F _ _ E M1)
      · cases h
    | return_ =>
      dsimp only at h
      cases hq : am_fin rt .return_ ls st with
      | none => rw [hq] at h; cases h
      | some o2 => rw [hq] at h; cases h; exact hf _ _ _ hq
    | ireturn =>
      dsimp only at h
      cases hq : am_fin rt .ireturn ls st with
      | none => rw [hq] at h; cases h
      | some o2 => rw [hq] at h; cases h; exact hf _ _ _ hq
    | lreturn =>
      dsimp only at h
      cases hq : am_fin rt .lreturn ls st with
      | none => rw [hq] at h; cases h
      | some o2 => rw [hq] at h; cases h; exact hf _ _ _ hq
    | areturn =>
      dsimp only at h
      cases hq : am_fin rt .areturn ls st with
      | none => rw [hq] at h; cases h
      | some o2 => rw [hq] at h; cases h; exact hf _ _ _ hq
    | _ => simp [am_fin] at h
theorem am_fin_ret {rt : Nat} {i : Instr} {ls st : List am_V} {o : am_O} (h : am_fin rt i ls st = some o) : ∃ r, o = .inl r := by
  cases i with
  | return_ => simp only [am_fin] at h; split at h <;> first | (cases hq : Nat.beq rt 0 <;> rw [hq] at h <;> cases h; exact ⟨_, rfl⟩) | cases h
  | ireturn =>
    simp only [am_fin] at h
    split at h
    · cases hq : (Nat.beq rt 1 || Nat.beq rt 5) with
      | true => rw [hq] at h; cases h; exact ⟨_, rfl⟩
      | false =>
        rw [hq] at h
        simp only [cond_false] at h
        cases hq2 : Nat.beq rt 2 with
        | true => rw [hq2] at h; simp only [cond_true] at h; split at h <;> cases h; exact ⟨_, rfl⟩
        | false => rw [hq2] at h; cases h
    · cases h
  | lreturn => simp only [am_fin] at h; split at h <;> first | (cases hq : Nat.beq rt 3 <;> rw [hq] at h <;> cases h; exact ⟨_, rfl⟩) | cases h
  | areturn => simp only [am_fin] at h; split at h <;> first | (cases hq : Nat.beq rt 4 <;> rw [hq] at h <;> cases h; exact ⟨_, rfl⟩) | cases h
  | _ => simp [am_fin] at h
/-- a meaning that never throws -/
def am_nt (F : am_F) : Prop := ∀ av M E M', F av M ≠ some (.inr E, M')
theorem am_run_nt {cs : List am_F} {hs : List (Nat × Nat × String × Value)} {rt : Nat} {X : Nat × (Nat → Int32)} {P : am_P} (hc : ∀ F ∈ cs, am_nt F) : ∀ (n pc : Nat) (ls st : List am_V) (M : am_M) (E : String) (M' : am_M), am_run cs hs rt X P n pc ls st M ≠ some (.inr E, M') := by
  intro n
  induction n with
  | zero => intro pc ls st M E M' h; cases h
  | succ n ih =>
    intro pc ls st M E M' h
    refine am_step_inv h (fun pc' ls' st' M2 h2 => ih pc' ls' st' M2 E M' h2) (fun i ls' st' h2 => ?_) (fun a F av M2 E2 M1 h1 h2 => hc F (List.mem_of_getElem? h1) av M2 E2 M1 h2)
    obtain ⟨r, hr⟩ := am_fin_ret h2
    cases hr
theorem am_meth_nt {cs : List am_F} {hs : List (Nat × Nat × String × Value)} {rt nL N : Nat} {P : am_P} (hc : ∀ F ∈ cs, am_nt F) : am_nt (am_meth cs hs rt nL N P) := by
  intro av M E M' h
  unfold am_meth at h
  cases hq : Nat.ble (am_lay av).length nL with
  | false => rw [hq] at h; cases h
  | true => rw [hq] at h; exact am_run_nt hc _ _ _ _ _ _ _ h
theorem am_nt_nil : ∀ F ∈ ([] : List am_F), am_nt F := fun _ h => nomatch h
theorem am_nt_cons {F0' : am_F} {cs : List am_F} (h : am_nt F0') (t : ∀ F ∈ cs, am_nt F) : ∀ F ∈ F0' :: cs, am_nt F := fun F hF => (List.mem_cons.mp hF).elim (fun e => e ▸ h) (t F)
