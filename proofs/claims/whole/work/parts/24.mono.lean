/-! ===== more fuel answers alike; runs from stop to stop ===== -/
theorem am_sw_mono {K K' : Nat → am_R} {r : am_O × am_M} (hK : ∀ t, K t = some r → K' t = some r) {d : Nat} {x : Int32} : ∀ {L : List (Int32 × Nat)}, am_sw K d x L = some r → am_sw K' d x L = some r
  | [], h => hK d h
  | q :: l, h => by
    unfold am_sw at h ⊢
    split at h
    · rename_i hc; rw [if_pos hc]; exact hK _ h
    · rename_i hc; rw [if_neg hc]; exact am_sw_mono hK h
theorem am_ret_mono {hs : List (Nat × Nat × String × Value)} {pc : Nat} {rest : List am_V} {K K' : List am_V → am_M → am_R} {res : am_O × am_M} (hK : ∀ st M, K st M = some res → K' st M = some res) {r : am_R} (h : am_ret hs pc rest K r = some res) : am_ret hs pc rest K' r = some res := by
  unfold am_ret at h ⊢
  cases r with
  | none => cases h
  | some q =>
    obtain ⟨o, M1⟩ := q
    cases o with
    | inl v =>
      simp only at h ⊢
      cases hv : am_okv v with
      | false => rw [hv] at h; cases h
      | true => rw [hv] at h; exact hK _ _ h
    | inr E => exact h
set_option maxHeartbeats 4000000 in
theorem am_step_mono {cs : List am_F} {hs : List (Nat × Nat × String × Value)} {rt : Nat} {X : Nat × (Nat → Int32)} {P : am_P} {K K' : Nat → List am_V → List am_V → am_M → am_R} {res : am_O × am_M} (hK : ∀ pc ls st M, K pc ls st M = some res → K' pc ls st M = some res) {pc : Nat} {ls st : List am_V} {M : am_M} (h : am_step cs hs rt X P K pc ls st M = some res) : am_step cs hs rt X P K' pc ls st M = some res := by
  unfold am_step at h ⊢
  cases hat : am_at P pc with
  | none => rw [hat] at h; cases h
  | some row =>
    obtain ⟨i, len, a, b, z⟩ := row
    rw [hat] at h
    simp only at h ⊢
    cases i with
    | iconst v =>
      dsimp only at h ⊢
      exact hK _ _ _ _ h
    | bipush v =>
      dsimp only at h ⊢
      exact hK _ _ _ _ h
    | sipush v =>
      dsimp only at h ⊢
      exact hK _ _ _ _ h
    | ldc v =>
      dsimp only at h ⊢
      exact hK _ _ _ _ h
    | lconst v =>
      dsimp only at h ⊢
      exact hK _ _ _ _ h
    | ldc2_w v =>
      dsimp only at h ⊢
      exact hK _ _ _ _ h
    | aconst_null =>
      dsimp only at h ⊢
      exact hK _ _ _ _ h
    | iload_n k =>
      dsimp only at h ⊢
      split at h
      · rename_i x hx
        try rw [hx]
        exact hK _ _ _ _ h
      · cases h
    | iload k =>
      dsimp only at h ⊢
      split at h
      · rename_i x hx
        try rw [hx]
        exact hK _ _ _ _ h
      · cases h
    | lload_n k =>
      dsimp only at h ⊢
      split at h
      · rename_i x hx
        try rw [hx]
        exact hK _ _ _ _ h
      · cases h
    | lload k =>
      dsimp only at h ⊢
      split at h
      · rename_i x hx
        try rw [hx]
        exact hK _ _ _ _ h
      · cases h
    | aload_n k =>
      dsimp only at h ⊢
      split at h
      · rename_i x hx
        try rw [hx]
        exact hK _ _ _ _ h
      · rename_i hx
        try rw [hx]
        exact hK _ _ _ _ h
      · cases h
    | aload k =>
      dsimp only at h ⊢
      split at h
      · rename_i x hx
        try rw [hx]
        exact hK _ _ _ _ h
      · rename_i hx
        try rw [hx]
        exact hK _ _ _ _ h
      · cases h
    | istore_n k =>
      dsimp only at h ⊢
      split at h
      · exact hK _ _ _ _ h
      · cases h
    | istore k =>
      dsimp only at h ⊢
      split at h
      · exact hK _ _ _ _ h
      · cases h
    | lstore_n k =>
      dsimp only at h ⊢
      split at h
      · exact hK _ _ _ _ h
      · cases h
    | lstore k =>
      dsimp only at h ⊢
      split at h
      · exact hK _ _ _ _ h
      · cases h
    | astore_n k =>
      dsimp only at h ⊢
      split at h
      · exact hK _ _ _ _ h
      · exact hK _ _ _ _ h
      · cases h
    | astore k =>
      dsimp only at h ⊢
      split at h
      · exact hK _ _ _ _ h
      · exact hK _ _ _ _ h
      · cases h
    | iinc k v =>
      dsimp only at h ⊢
      split at h
      · rename_i x v2 hx
        try rw [hx]
        exact hK _ _ _ _ h
      · cases h
    | iadd =>
      dsimp only at h ⊢
      split at h
      · exact hK _ _ _ _ h
      · cases h
    | isub =>
      dsimp only at h ⊢
      split at h
      · exact hK _ _ _ _ h
      · cases h
    | imul =>
      dsimp only at h ⊢
      split at h
      · exact hK _ _ _ _ h
      · cases h
    | iand =>
      dsimp only at h ⊢
      split at h
      · exact hK _ _ _ _ h
      · cases h
    | ior =>
      dsimp only at h ⊢
      split at h
      · exact hK _ _ _ _ h
      · cases h
    | ishr =>
      dsimp only at h ⊢
      split at h
      · exact hK _ _ _ _ h
      · cases h
    | ladd =>
      dsimp only at h ⊢
      split at h
      · exact hK _ _ _ _ h
      · cases h
    | lsub =>
      dsimp only at h ⊢
      split at h
      · exact hK _ _ _ _ h
      · cases h
    | lmul =>
      dsimp only at h ⊢
      split at h
      · exact hK _ _ _ _ h
      · cases h
    | lxor =>
      dsimp only at h ⊢
      split at h
      · exact hK _ _ _ _ h
      · cases h
    | lcmp =>
      dsimp only at h ⊢
      split at h
      · exact hK _ _ _ _ h
      · cases h
    | lshl =>
      dsimp only at h ⊢
      split at h
      · exact hK _ _ _ _ h
      · cases h
    | i2l =>
      dsimp only at h ⊢
      split at h
      · exact hK _ _ _ _ h
      · cases h
    | l2i =>
      dsimp only at h ⊢
      split at h
      · exact hK _ _ _ _ h
      · cases h
    | dup2 =>
      dsimp only at h ⊢
      split at h
      · exact hK _ _ _ _ h
      · cases h
    | idiv =>
      dsimp only at h ⊢
      split at h
      · split at h
        · cases h
        · rename_i hc
          try dsimp only
          try rw [if_neg hc]
          exact hK _ _ _ _ h
      · cases h
    | irem =>
      dsimp only at h ⊢
      split at h
      · split at h
        · cases h
        · rename_i hc
          try dsimp only
          try rw [if_neg hc]
          exact hK _ _ _ _ h
      · cases h
    | ldiv =>
      dsimp only at h ⊢
      split at h
      · split at h
        · cases h
        · rename_i hc
          try dsimp only
          try rw [if_neg hc]
          exact hK _ _ _ _ h
      · cases h
    | lrem =>
      dsimp only at h ⊢
      split at h
      · split at h
        · cases h
        · rename_i hc
          try dsimp only
          try rw [if_neg hc]
          exact hK _ _ _ _ h
      · cases h
    | dup =>
      dsimp only at h ⊢
      split at h
      · exact hK _ _ _ _ h
      · exact hK _ _ _ _ h
      · cases h
    | pop =>
      dsimp only at h ⊢
      split at h
      · exact hK _ _ _ _ h
      · exact hK _ _ _ _ h
      · cases h
    | goto o2 =>
      dsimp only at h ⊢
      exact hK _ _ _ _ h
    | ifCond cn o2 =>
      dsimp only at h ⊢
      split at h
      · cases cn with
        | eq =>
          simp only at h ⊢
          split at h
          · rename_i hc; (try rw [if_pos hc]); exact hK _ _ _ _ h
          · rename_i hc; (try rw [if_neg hc]); exact hK _ _ _ _ h
        | ne =>
          simp only at h ⊢
          split at h
          · rename_i hc; (try rw [if_pos hc]); exact hK _ _ _ _ h
          · rename_i hc; (try rw [if_neg hc]); exact hK _ _ _ _ h
        | lt =>
          simp only at h ⊢
          split at h
          · rename_i hc; (try rw [if_pos hc]); exact hK _ _ _ _ h
          · rename_i hc; (try rw [if_neg hc]); exact hK _ _ _ _ h
        | ge =>
          simp only at h ⊢
          split at h
          · rename_i hc; (try rw [if_pos hc]); exact hK _ _ _ _ h
          · rename_i hc; (try rw [if_neg hc]); exact hK _ _ _ _ h
        | gt =>
          simp only at h ⊢
          split at h
          · rename_i hc; (try rw [if_pos hc]); exact hK _ _ _ _ h
          · rename_i hc; (try rw [if_neg hc]); exact hK _ _ _ _ h
        | le =>
          simp only at h ⊢
          split at h
          · rename_i hc; (try rw [if_pos hc]); exact hK _ _ _ _ h
          · rename_i hc; (try rw [if_neg hc]); exact hK _ _ _ _ h
      · cases h
    | if_icmp cn o2 =>
      dsimp only at h ⊢
      split at h
      · cases cn with
        | eq =>
          simp only at h ⊢
          split at h
          · rename_i hc; (try rw [if_pos hc]); exact hK _ _ _ _ h
          · rename_i hc; (try rw [if_neg hc]); exact hK _ _ _ _ h
        | ne =>
          simp only at h ⊢
          split at h
          · rename_i hc; (try rw [if_pos hc]); exact hK _ _ _ _ h
          · rename_i hc; (try rw [if_neg hc]); exact hK _ _ _ _ h
        | lt =>
          simp only at h ⊢
          split at h
          · rename_i hc; (try rw [if_pos hc]); exact hK _ _ _ _ h
          · rename_i hc; (try rw [if_neg hc]); exact hK _ _ _ _ h
        | ge =>
          simp only at h ⊢
          split at h
          · rename_i hc; (try rw [if_pos hc]); exact hK _ _ _ _ h
          · rename_i hc; (try rw [if_neg hc]); exact hK _ _ _ _ h
        | gt =>
          simp only at h ⊢
          split at h
          · rename_i hc; (try rw [if_pos hc]); exact hK _ _ _ _ h
          · rename_i hc; (try rw [if_neg hc]); exact hK _ _ _ _ h
        | le =>
          simp only at h ⊢
          split at h
          · rename_i hc; (try rw [if_pos hc]); exact hK _ _ _ _ h
          · rename_i hc; (try rw [if_neg hc]); exact hK _ _ _ _ h
      · cases h
    | ifnull o2 =>
      dsimp only at h ⊢
      split at h
      · exact hK _ _ _ _ h
      · exact hK _ _ _ _ h
      · cases h
    | ifnonnull o2 =>
      dsimp only at h ⊢
      split at h
      · exact hK _ _ _ _ h
      · exact hK _ _ _ _ h
      · cases h
    | tableswitch a1 a2 a3 a4 =>
      dsimp only at h ⊢
      split at h
      · exact am_sw_mono (fun t ht => hK _ _ _ _ ht) h
      · cases h
    | lookupswitch a1 a2 =>
      dsimp only at h ⊢
      split at h
      · exact am_sw_mono (fun t ht => hK _ _ _ _ ht) h
      · cases h
    | getfield idx =>
      dsimp only at h ⊢
      split at h
      · rename_i k j r
        try dsimp only
        cases hk : Nat.beq k b with
        | false => rw [hk] at h; cases h
        | true =>
          rw [hk] at h
          simp only [cond_true] at h ⊢
          cases hf : am_ft b a with
          | some k2 => rw [hf] at h; exact hK _ _ _ _ h
          | none =>
            rw [hf] at h
            dsimp only at h ⊢
            cases hz : am_fz b a <;> rw [hz] at h <;> exact hK _ _ _ _ h
      · cases h
    | putfield idx =>
      dsimp only at h ⊢
      split at h
      · rename_i x k j r
        try dsimp only
        cases hk : Nat.beq k b with
        | false => rw [hk] at h; cases h
        | true =>
          rw [hk] at h
          simp only [cond_true] at h ⊢
          cases hf : am_ft b a with
          | some k2 => rw [hf] at h; cases h
          | none =>
            rw [hf] at h
            dsimp only at h ⊢
            cases hz : am_fz b a with
            | true =>
              rw [hz] at h
              simp only [cond_true] at h ⊢
              split at h
              · rename_i hc; (try rw [if_pos hc]); exact hK _ _ _ _ h
              · cases h
            | false => rw [hz] at h; exact hK _ _ _ _ h
      · cases h
    | getstatic idx =>
      dsimp only at h ⊢
      exact hK _ _ _ _ h
    | arraylength =>
      dsimp only at h ⊢
      split at h
      · rename_i k j r
        try dsimp only
        cases hk : (Nat.beq k 29 && Nat.beq rt 5) with
        | true => rw [hk] at h; exact hK _ _ _ _ h
        | false =>
          rw [hk] at h
          simp only [cond_false] at h ⊢
          split at h
          · rename_i e n2 hq; (try rw [hq]); exact hK _ _ _ _ h
          · cases h
      · cases h
    | iaload =>
      dsimp only at h ⊢
      split at h
      · rename_i x k j r
        try dsimp only
        cases hk : (Nat.beq k 27 || Nat.beq k 28) with
        | true =>
          rw [hk] at h
          simp only [cond_true] at h ⊢
          split at h
          · rename_i hc; (try rw [if_pos hc]); exact hK _ _ _ _ h
          · cases h
        | false =>
          rw [hk] at h
          simp only [cond_false] at h ⊢
          cases hk9 : (Nat.beq k 29 && Nat.beq rt 5) with
          | true =>
            rw [hk9] at h
            simp only [cond_true] at h ⊢
            split at h
            · rename_i hc; (try rw [if_pos hc]); exact hK _ _ _ _ h
            · cases h
          | false =>
            rw [hk9] at h
            simp only [cond_false] at h ⊢
            split at h
            · rename_i n2 hq
              try rw [hq]
              try dsimp only
              split at h
              · rename_i hc; (try rw [if_pos hc]); exact hK _ _ _ _ h
              · cases h
            · cases h
      · cases h
    | iastore =>
      dsimp only at h ⊢
      split at h
      · try dsimp only
        split at h
        · rename_i hq
          try rw [hq]
          try dsimp only
          split at h
          · rename_i hc; (try rw [if_pos hc]); exact hK _ _ _ _ h
          · cases h
        · cases h
      · cases h
    | baload =>
      dsimp only at h ⊢
      split at h
      · try dsimp only
        split at h
        · rename_i hq
          try rw [hq]
          try dsimp only
          split at h
          · rename_i hc; (try rw [if_pos hc]); exact hK _ _ _ _ h
          · cases h
        · cases h
      · cases h
    | bastore =>
      dsimp only at h ⊢
      split at h
      · try dsimp only
        split at h
        · rename_i hq
          try rw [hq]
          try dsimp only
          split at h
          · rename_i hc; (try rw [if_pos hc]); exact hK _ _ _ _ h
          · cases h
        · cases h
      · cases h
    | laload =>
      dsimp only at h ⊢
      split at h
      · try dsimp only
        split at h
        · rename_i hq
          try rw [hq]
          try dsimp only
          split at h
          · rename_i hc; (try rw [if_pos hc]); exact hK _ _ _ _ h
          · cases h
        · cases h
      · cases h
    | lastore =>
      dsimp only at h ⊢
      split at h
      · try dsimp only
        split at h
        · rename_i hq
          try rw [hq]
          try dsimp only
          split at h
          · rename_i hc; (try rw [if_pos hc]); exact hK _ _ _ _ h
          · cases h
        · cases h
      · cases h
    | aaload =>
      dsimp only at h ⊢
      split at h
      · try dsimp only
        split at h
        · rename_i hq
          try rw [hq]
          try dsimp only
          split at h
          · rename_i hc; (try rw [if_pos hc]); exact hK _ _ _ _ h
          · cases h
        · cases h
      · cases h
    | invokestatic idx =>
      dsimp only at h ⊢
      cases hq : (Nat.beq (st.take b).length b && Nat.ble (am_wt (st.drop b)) 8) with
      | false => rw [hq] at h; cases h
      | true =>
        rw [hq] at h
        exact am_ret_mono (fun st M => hK _ _ st M) h
    | invokevirtual idx =>
      dsimp only at h ⊢
      split at h
      · rename_i k2 k j as hta
        try rw [hta]
        try dsimp only
        cases hq : (Nat.beq k k2 && Nat.beq (st.take b).length b && Nat.ble (am_wt (st.drop b)) 8) with
        | false => rw [hq] at h; cases h
        | true =>
          rw [hq] at h
          exact am_ret_mono (fun st M => hK _ _ st M) h
      · cases h
    | _ => exact h
theorem am_run_mono {cs : List am_F} {hs : List (Nat × Nat × String × Value)} {rt : Nat} {X : Nat × (Nat → Int32)} {P : am_P} {res : am_O × am_M} : ∀ {n : Nat} {pc : Nat} {ls st : List am_V} {M : am_M}, am_run cs hs rt X P n pc ls st M = some res → am_run cs hs rt X P (n + 1) pc ls st M = some res
  | 0, _, _, _, _, h => by cases h
  | n + 1, pc, ls, st, M, h => am_step_mono (K := am_run cs hs rt X P n) (K' := am_run cs hs rt X P (n + 1)) (fun _ _ _ _ h2 => am_run_mono h2) h
theorem am_run_mono_add {cs : List am_F} {hs : List (Nat × Nat × String × Value)} {rt : Nat} {X : Nat × (Nat → Int32)} {P : am_P} {res : am_O × am_M} {n : Nat} {pc : Nat} {ls st : List am_V} {M : am_M} (h : am_run cs hs rt X P n pc ls st M = some res) : ∀ m, am_run cs hs rt X P (n + m) pc ls st M = some res
  | 0 => h
  | m + 1 => am_run_mono (am_run_mono_add h m)
def am_elem (pc : Nat) : List Nat → Bool
  | [] => false
  | q :: l => cond (Nat.beq q pc) true (am_elem pc l)
/-- a run up to the next stop; k goes on there -/
def am_go (cs : List am_F) (hs : List (Nat × Nat × String × Value)) (rt : Nat) (X : Nat × (Nat → Int32)) (P : am_P) (sp : List Nat) (k : Nat → List am_V → List am_V → am_M → am_R) : Nat → Nat → List am_V → List am_V → am_M → am_R
  | 0 => fun _ _ _ _ => none
  | n + 1 => am_step cs hs rt X P (fun pc ls st M => cond (am_elem pc sp) (k pc ls st M) (am_go cs hs rt X P sp k n pc ls st M))
theorem am_go_ok {cs : List am_F} {hs : List (Nat × Nat × String × Value)} {rt : Nat} {X : Nat × (Nat → Int32)} {P : am_P} {sp : List Nat} {n : Nat} {res : am_O × am_M} : ∀ {K : Nat} {pc : Nat} {ls st : List am_V} {M : am_M}, am_go cs hs rt X P sp (am_run cs hs rt X P n) K pc ls st M = some res → am_run cs hs rt X P (n + K) pc ls st M = some res
  | 0, _, _, _, _, h => by cases h
  | K + 1, pc, ls, st, M, h => by
    refine am_step_mono (K' := am_run cs hs rt X P (n + K)) (fun pc' ls' st' M' h2 => ?_) h
    cases hm : am_elem pc' sp with
    | true => rw [hm] at h2; exact am_run_mono_add h2 K
    | false => rw [hm] at h2; exact am_go_ok h2
theorem am_meth_eq {cs : List am_F} {hs : List (Nat × Nat × String × Value)} {rt nL N : Nat} {P : am_P} {av ls : List am_V} {M : am_M} (h : Nat.ble (am_lay av).length nL = true) (h2 : am_ent nL av = ls) : am_meth cs hs rt nL N P av M = am_run cs hs rt am_X0 P N 0 ls [] M := by
  unfold am_meth
  rw [h, h2]
  rfl
theorem am_ret_i {hs : List (Nat × Nat × String × Value)} {pc : Nat} {rest : List am_V} {K : List am_V → am_M → am_R} {v : Int32} {M : am_M} : am_ret hs pc rest K (some (.inl (some (.inl (.int v))), M)) = K (.inl (.int v) :: rest) M := rfl
theorem am_ret_l {hs : List (Nat × Nat × String × Value)} {pc : Nat} {rest : List am_V} {K : List am_V → am_M → am_R} {v : Int64} {M : am_M} : am_ret hs pc rest K (some (.inl (some (.inl (.long v))), M)) = K (.inl (.long v) :: rest) M := rfl
theorem am_ret_v {hs : List (Nat × Nat × String × Value)} {pc : Nat} {rest : List am_V} {K : List am_V → am_M → am_R} {M : am_M} : am_ret hs pc rest K (some (.inl none, M)) = K rest M := rfl
