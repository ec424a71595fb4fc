section BMU
variable {p : Program} {l : Launch} {e : Env} {R : Room} {s : State} {m : MethodId} {args : Array Value} {below : List Frame} {meth : Method} {c : Code} {Q : State → Prop}
variable {dC : Nat → ClassId} {dI : Nat → Nat → Nat} {B : Nat} {cy : Nat → ClassId} {cc : ByteArray} {own : String} {nL : Nat}
theorem bm_back {H : Heap} {locs : List Loc} {cells slots mc ms pc : Nat} {lsA : Array Slot} {st0 rest : List Value} {a' : Array Value} {M' : bm_M} (hr : va_Run p l e R s m args below meth c H locs cells slots mc ms (F0 m pc lsA st0) rest (bm_Q dC dI B cy M' a') (bm_A B)) (hS : va_S (bm_A B) s.heap H locs)
    (kk : ∀ (H1 : Heap) (locs1 : List Loc), H1.size = B + M'.length → va_P (dC, dI) vwCl (bm_W B cy M') H1 → va_S (bm_A B) s.heap H1 locs1 → W p l e R s m args below meth c H1 locs1 (cells + mc) (slots + ms) Q (F0 m (pc + 3) lsA rest)) : W p l e R s m args below meth c H locs cells slots Q (F0 m pc lsA st0) := by
  intro T hT X
  obtain ⟨v, st₀, t, T', L, h0, X', hL, e1, e2, ⟨hv, hsz, hP, hz, hk⟩, st⟩ := hr T hT X
  cases hv
  rw [h0] at hz hk
  obtain ⟨t2, a1, b1⟩ := kk T'.heap (locs ++ L) (by rw [e1]; exact hsz) (by rw [e1]; exact hP)
    ⟨Nat.le_trans hS.1 (by rw [e1]; exact hz), fun q h1 h2 => by rw [e1, hk q (Nat.lt_of_lt_of_le h1 hS.1) h2]; exact hS.2.1 q h1 h2, fun q hq => by
      rcases List.mem_append.mp hq with h | h
      · exact hS.2.2 q h
      · exact hL q h⟩ T' rfl X'
  exact ⟨t2, st t2 a1, b1⟩
theorem bm_s_call (C : bm_Cx p s m args c meth dC dI B cy cc own nL) {pc idx nc ns : Nat} {ls r : List am_V} {M M' : bm_M} {q : Nat × Nat} {cq : bm_C} {F : bm_F × Nat × Nat} (hq : bm_Cal l dC dI B cy R cq F) (hroom : nc + F.2.1 ≤ R.cells ∧ ns + F.2.2 ≤ R.slots)
    (hn : (∀ w ∈ ([.instanceMethod cq.1, .initialized cq.1.cls] : List Cond), w ∈ am_U) ∧ (Cond.methodLink own idx cq.1 ∈ am_U ∨ (own, idx, cq.1, RX9) ∈ bm_nl))
    (hd : decode cc pc = .ok (.invokespecial idx, 3)) (hF : F.1 q.2 M = some M') (hre : ∀ v ∈ r, bm_ok v) (hwt : am_wt r ≤ 8)
    (kk : bm_Wp p l e R s m args below meth c Q dC dI B cy nL (pc + 3) ls r M' (nc + F.2.1) (ns + F.2.2)) : bm_Wp p l e R s m args below meth c Q dC dI B cy nL pc ls (.inr q :: r) M nc ns := by
  obtain ⟨y, w, rm, mL⟩ := cq
  obtain ⟨hOk, hw, hc1, hc2, hfr, hlo, hyd, hnm, bytes, rfl⟩ := hq
  have hM := hOk q.2 M M' hF
  rw [hc1, hc2] at hM
  intro H locs lsA hl hz hP hS
  obtain ⟨hx, hb, hml, hown, hts, hK, hNk, -, -⟩ := C
  have hsum : 2 * 0 + ((r.map (am_co (bm_ad B))).map fun v => v.category).sum ≤ 8 := by have := bm_wt_le (ad := bm_ad B) hre; omega
  obtain ⟨hn0, hn1⟩ := hn
  have hin0 := hn0 (.instanceMethod y) List.mem_cons_self
  have hini := hn0 (.initialized y.cls) (List.mem_cons_of_mem _ List.mem_cons_self)
  have hpre : PreS s H (va_Pc [.ref (B + q.2)] (bm_St dC dI B cy M)) (.ref (B + q.2) :: []) := ⟨bm_St_blind, fun U hU hW => ⟨rfl, by rw [hU]; exact hz, by rw [hU]; exact hP, va_K.moved hW.alike hK, bm_Nk.warm hW hNk⟩⟩
  rcases hn1 with hm | hm
  · exact bm_back (a' := (Value.ref (B + q.2) :: ([] : List Value)).toArray) (va_runI (b := B + q.2) (As := []) (rest := r.map (am_co (bm_ad B))) ⟨hx, hb, hml, hown, hts⟩ hM (cwI 0 hts (am_good _ hw) rfl hc1 hc2 (hts _ hini) (hts _ hm) (hts _ hin0) hnm hyd ⟨hfr, hlo⟩) hpre rfl rfl hl.1 rfl hsum hd hroom) hS (fun H1 locs1 h1 h2 h3 => kk H1 locs1 lsA hl h1 h2 h3)
  · exact bm_back (a' := (Value.ref (B + q.2) :: ([] : List Value)).toArray) (va_runIN (b := B + q.2) (As := []) (rest := r.map (am_co (bm_ad B))) (host := RX9) ⟨hx, hb, hml, hown, hts⟩ hM ⟨va_cnB 0 hts (am_good _ hw) rfl hc1 hc2 (hNk.1 _ hm) (hts _ hini) hyd ⟨hfr, hlo⟩, hnm, hts _ hin0⟩ hpre rfl rfl hl.1 rfl hsum hd hroom) hS (fun H1 locs1 h1 h2 h3 => kk H1 locs1 lsA hl h1 h2 h3)
theorem bm_chk_am {nL pc : Nat} {i : Instr} {len a b : Nat} {z : Value} (h : bm_chk nL pc (i, len, a, b, z) = true) (h1 : ∀ k, i ≠ .new k) (h2 : ∀ k, i ≠ .newarray k) (h3 : ∀ k, i ≠ .anewarray k) (h4 : ∀ k, i ≠ .invokespecial k) : am_chk nL pc (i, len, a, b, z) = true := by
  unfold bm_chk at h
  cases i <;> first | exact h | exact absurd rfl (h1 _) | exact absurd rfl (h2 _) | exact absurd rfl (h3 _) | exact absurd rfl (h4 _)
set_option maxHeartbeats 4000000 in
theorem bm_step_ok (C : bm_Cx p s m args c meth dC dI B cy cc own nL) (ho : ∃ k, k < 11 ∧ own = am_N k) {cs : List (bm_F × Nat × Nat)} {P : am_P} {ci : List bm_C}
    (hrow : ∀ (pc : Nat) (r : am_Row), am_at P pc = some r → decode cc pc = .ok (r.1, r.2.1) ∧ bm_chk nL pc r = true ∧ ∀ w ∈ bm_need own ci r, w ∈ am_U)
    (hput : ∀ (pc : Nat) (k len a b : Nat) (z : Value), am_at P pc = some (.putfield k, len, a, b, z) → own = am_N b)
    (hcs : ∀ (a : Nat) (F : bm_F × Nat × Nat), cs[a]? = some F → ∃ q : bm_C, ci[a]? = some q ∧ bm_Cal l dC dI B cy R q F)
    (hfr1 : 1 ≤ R.frames) (hlo1 : 20 ≤ R.locals)
    {K : Nat → List am_V → List am_V → bm_M → Nat → Nat → bm_R} {Mf : bm_M} {nf sf : Nat}
    (hK : ∀ pc ls st M nc ns, K pc ls st M nc ns = some (Mf, nf, sf) → (∀ v ∈ ls, bm_ok v) → (∀ v ∈ st, bm_ok v) → bm_Wp p l e R s m args below meth c Q dC dI B cy nL pc ls st M nc ns)
    (hfin : ∀ (pc : Nat) (a b : Nat) (z : Value) (ls : List am_V), am_at P pc = some (.return_, 1, a, b, z) → bm_Wp p l e R s m args below meth c Q dC dI B cy nL pc ls [] Mf nf sf)
    (pc : Nat) (ls st : List am_V) (M : bm_M) (nc ns : Nat) (hls : ∀ v ∈ ls, bm_ok v) (hst : ∀ v ∈ st, bm_ok v) (h : bm_step cs R.cells R.slots P K pc ls st M nc ns = some (Mf, nf, sf)) : bm_Wp p l e R s m args below meth c Q dC dI B cy nL pc ls st M nc ns := by
  have C' := C
  obtain ⟨hx, hb, hml, hown, hts, hKK, hNk, -, -⟩ := C
  unfold bm_step at h
  cases hat : am_at P pc with
  | none => rw [hat] at h; cases h
  | some row =>
    obtain ⟨i, len, a, b, z⟩ := row
    obtain ⟨hd, hc0, hw⟩ := hrow pc _ hat
    rw [hat] at h
    simp only at hd h
    have t1 : ∀ {v : am_V} {l : List am_V}, (∀ w ∈ v :: l, bm_ok w) → ∀ w ∈ l, bm_ok w := fun h w hw => h w (List.mem_cons_of_mem _ hw)
    have t2 : ∀ {v : am_V} {l : List am_V}, bm_ok v → (∀ w ∈ l, bm_ok w) → ∀ w ∈ v :: l, bm_ok w := fun h1 h2 w hw => (List.mem_cons.mp hw).elim (fun e => e ▸ h1) (h2 w)
    cases i with
    | iconst v =>
      dsimp only at h
      have hc := hc0; simp only [bm_chk, am_chk, decide_eq_true_eq] at hc
      obtain ⟨rfl, rfl⟩ := hc
      intro H locs lsA hl hz hP hS
      exact lv_iconst hx hb hd rfl (hK _ _ _ _ _ _ h hls (t2 trivial hst) H locs lsA hl hz hP hS)
    | bipush v =>
      dsimp only at h
      have hc := hc0; simp only [bm_chk, am_chk, decide_eq_true_eq] at hc
      obtain ⟨rfl, rfl⟩ := hc
      intro H locs lsA hl hz hP hS
      exact lv_bipush hx hb hd rfl (hK _ _ _ _ _ _ h hls (t2 trivial hst) H locs lsA hl hz hP hS)
    | sipush v =>
      dsimp only at h
      have hc := hc0; simp only [bm_chk, am_chk, decide_eq_true_eq] at hc
      obtain ⟨rfl, rfl⟩ := hc
      intro H locs lsA hl hz hP hS
      exact lv_sipush hx hb hd rfl (hK _ _ _ _ _ _ h hls (t2 trivial hst) H locs lsA hl hz hP hS)
    | ldc k =>
      dsimp only at h
      have hc := hc0; simp only [bm_chk, am_chk, Bool.and_eq_true, decide_eq_true_eq] at hc
      obtain ⟨rfl, hz0⟩ := hc
      split at hz0
      · intro H locs lsA hl hz hP hS
        exact lv_ldc hx hb hown (hts _ (hw _ (by simp [bm_need, am_need]))) hd (hK _ _ _ _ _ _ h hls (t2 trivial hst) H locs lsA hl hz hP hS)
      · cases hz0
    | iload_n k =>
      dsimp only at h
      have hc := hc0; simp only [bm_chk, am_chk, decide_eq_true_eq] at hc
      obtain ⟨rfl, rfl⟩ := hc
      split at h
      · rename_i x hv
        intro H locs lsA hl hz hP hS
        exact lv_iload_n hx hb hd rfl (am_lv_at hl hv rfl) (hK _ _ _ _ _ _ h hls (t2 trivial hst) H locs lsA hl hz hP hS)
      · cases h
    | aload_n k =>
      dsimp only at h
      have hc := hc0; simp only [bm_chk, am_chk, decide_eq_true_eq] at hc
      obtain ⟨rfl, rfl⟩ := hc
      split at h
      · rename_i q hv
        intro H locs lsA hl hz hP hS
        exact lv_aload_n hx hb hd rfl (am_lv_at hl hv rfl) (hK _ _ _ _ _ _ h hls (t2 trivial hst) H locs lsA hl hz hP hS)
      · cases h
    | istore_n k =>
      dsimp only at h
      have hc := hc0; simp only [bm_chk, am_chk, decide_eq_true_eq] at hc
      obtain ⟨rfl, rfl, hn⟩ := hc
      split at h
      · rename_i x r
        intro H locs lsA hl hz hP hS
        exact lv_istore_n hx hb hd rfl hl hn rfl (fun lsB hl2 => hK _ _ _ _ _ _ h (bm_ok_set1 hls trivial) (t1 hst) H locs lsB (am_lv_set1 (v := .inl _) (bm_ok_nod hls) hl2) hz hP hS)
      · cases h
    | iinc k v =>
      dsimp only at h
      have hc := hc0; simp only [bm_chk, am_chk, decide_eq_true_eq] at hc
      obtain ⟨rfl, rfl, hn, rfl⟩ := hc
      split at h
      · rename_i x v2 hv he
        cases he
        intro H locs lsA hl hz hP hS
        obtain ⟨kx, hkx⟩ := List.getElem?_of_mem (am_lv_mem.mpr ⟨_, _, hv, rfl, rfl⟩ : (0 + k, am_co (bm_ad B) (.inl (.int x))) ∈ am_lv (bm_ad B) 0 ls)
        rw [Nat.zero_add] at hkx
        exact lv_iinc hx hb hd hl hkx rfl hn rfl (fun lsB hl2 => hK _ _ _ _ _ _ h (bm_ok_set1 hls trivial) hst H locs lsB (am_lv_set1 (v := .inl _) (bm_ok_nod hls) hl2) hz hP hS)
      · cases h
    | iadd =>
      dsimp only at h
      have hc := hc0; simp only [bm_chk, am_chk, decide_eq_true_eq] at hc
      subst hc
      split at h
      · intro H locs lsA hl hz hP hS
        exact lv_iadd hx hb hd (hK _ _ _ _ _ _ h hls (t2 trivial (t1 (t1 hst))) H locs lsA hl hz hP hS)
      · cases h
    | imul =>
      dsimp only at h
      have hc := hc0; simp only [bm_chk, am_chk, decide_eq_true_eq] at hc
      subst hc
      split at h
      · intro H locs lsA hl hz hP hS
        exact lv_imul hx hb hd (hK _ _ _ _ _ _ h hls (t2 trivial (t1 (t1 hst))) H locs lsA hl hz hP hS)
      · cases h
    | dup =>
      dsimp only at h
      have hc := hc0; simp only [bm_chk, am_chk, decide_eq_true_eq] at hc
      subst hc
      split at h
      · intro H locs lsA hl hz hP hS
        exact lv_dup hx hb hd rfl (hK _ _ _ _ _ _ h hls (t2 (hst _ List.mem_cons_self) hst) H locs lsA hl hz hP hS)
      · cases h
    | goto off =>
      dsimp only at h
      have hc := hc0; simp only [bm_chk, am_chk, decide_eq_true_eq] at hc
      obtain ⟨rfl, ht⟩ := hc
      intro H locs lsA hl hz hP hS
      exact lv_goto hx hb hd ht (hK _ _ _ _ _ _ h hls hst H locs lsA hl hz hP hS)
    | if_icmp cn off =>
      dsimp only at h
      have hc := hc0; simp only [bm_chk, am_chk, decide_eq_true_eq] at hc
      obtain ⟨rfl, ht⟩ := hc
      split at h
      · cases cn with
        | ge =>
          simp only at h
          split at h
          · rename_i hq
            intro H locs lsA hl hz hP hS
            exact lv_icmp_ge hx hb hd ht (fun _ => hK _ _ _ _ _ _ h hls (t1 (t1 hst)) H locs lsA hl hz hP hS) (fun z => absurd hq z)
          · rename_i hq
            intro H locs lsA hl hz hP hS
            exact lv_icmp_ge hx hb hd ht (fun z => absurd z hq) (fun _ => hK _ _ _ _ _ _ h hls (t1 (t1 hst)) H locs lsA hl hz hP hS)
        | gt =>
          simp only at h
          split at h
          · rename_i hq
            intro H locs lsA hl hz hP hS
            exact lv_icmp_gt hx hb hd ht (fun _ => hK _ _ _ _ _ _ h hls (t1 (t1 hst)) H locs lsA hl hz hP hS) (fun z => absurd hq z)
          · rename_i hq
            intro H locs lsA hl hz hP hS
            exact lv_icmp_gt hx hb hd ht (fun z => absurd z hq) (fun _ => hK _ _ _ _ _ _ h hls (t1 (t1 hst)) H locs lsA hl hz hP hS)
        | _ => cases h
      · cases h
    | new idx =>
      dsimp only at h
      have hc := hc0; simp only [bm_chk, decide_eq_true_eq] at hc
      obtain ⟨rfl, ha⟩ := hc
      cases hq : (Nat.ble (nc + 1) R.cells && Nat.ble (ns + am_nf a) R.slots) with
      | false => rw [hq] at h; cases h
      | true =>
        rw [hq] at h
        simp only [Bool.and_eq_true] at hq
        simp only [cond_true] at h
        exact bm_s_new C' ha (fun w hw2 => hw w hw2) hd (Nat.le_of_ble_eq_true hq.1) (Nat.le_of_ble_eq_true hq.2) (hK _ _ _ _ _ _ h hls (t2 trivial hst))
    | newarray t =>
      dsimp only at h
      have hc := hc0; simp only [bm_chk, decide_eq_true_eq] at hc
      obtain ⟨rfl, ha⟩ := hc
      split at h
      · split at h
        · rename_i n r hn
          obtain ⟨n1, n2, n3, n4⟩ := hn
          exact bm_s_newa C' ha (hw _ (by simp [bm_need])) hd n1 n2 n3 n4 (hK _ _ _ _ _ _ h hls (t2 trivial (t1 hst)))
        · cases h
      · cases h
    | anewarray idx =>
      dsimp only at h
      have hc := hc0; simp only [bm_chk, decide_eq_true_eq] at hc
      obtain ⟨rfl, ha⟩ := hc
      split at h
      · split at h
        · rename_i n r hn
          obtain ⟨n1, n2, n3, n4⟩ := hn
          exact bm_s_anew C' ha (hw _ (by simp [bm_need])) hd n1 n2 n3 n4 (hK _ _ _ _ _ _ h hls (t2 trivial (t1 hst)))
        · cases h
      · cases h
    | getfield idx =>
      dsimp only at h
      have hc := hc0; simp only [bm_chk, am_chk, decide_eq_true_eq] at hc
      obtain ⟨rfl, hb11, ha⟩ := hc
      split at h
      · rename_i q r
        split at h
        · rename_i c2 vs hM
          cases hq : Nat.beq c2 b with
          | false => rw [hq] at h; cases h
          | true =>
            rw [hq] at h
            have e0 := Nat.eq_of_beq_eq_true hq
            subst e0
            simp only [cond_true] at h
            split at h
            · rename_i q2 hv
              exact bm_s_get C' hb11 ha hM hv (hw _ (by simp [bm_need, am_need])) hd (hK _ _ _ _ _ _ h hls (t2 trivial (t1 hst)))
            · cases h
        · cases h
      · cases h
    | putfield idx =>
      dsimp only at h
      have hc := hc0; simp only [bm_chk, am_chk, decide_eq_true_eq] at hc
      obtain ⟨rfl, hb11, ha⟩ := hc
      have hob := hput pc idx _ _ _ _ hat
      split at h
      · rename_i q2 q r
        split at h
        · rename_i c2 vs k2 hM hft
          cases hq : (Nat.beq c2 b && Nat.blt a vs.length) with
          | false => rw [hq] at h; cases h
          | true =>
            rw [hq] at h
            simp only [Bool.and_eq_true] at hq
            have e0 := Nat.eq_of_beq_eq_true hq.1
            subst e0
            simp only [cond_true] at h
            exact bm_s_put C' hb11 ha hob hM (Nat.blt_eq.mp hq.2) (hw _ (by simp [bm_need, am_need])) hd (Or.inl ⟨q2, rfl, k2, hft⟩) (hK _ _ _ _ _ _ h hls (t1 (t1 hst)))
        · cases h
      · rename_i x q r
        split at h
        · rename_i c2 vs hM hft
          cases hq : (Nat.beq c2 b && Nat.blt a vs.length) with
          | false => rw [hq] at h; cases h
          | true =>
            rw [hq] at h
            simp only [Bool.and_eq_true] at hq
            have e0 := Nat.eq_of_beq_eq_true hq.1
            subst e0
            simp only [cond_true] at h
            split at h
            · rename_i hbx
              exact bm_s_put C' hb11 ha hob hM (Nat.blt_eq.mp hq.2) (hw _ (by simp [bm_need, am_need])) hd (Or.inr ⟨x, rfl, hft, hbx⟩) (hK _ _ _ _ _ _ h hls (t1 (t1 hst)))
            · cases h
        · cases h
      · cases h
    | iastore =>
      dsimp only at h
      have hc := hc0; simp only [bm_chk, am_chk, decide_eq_true_eq] at hc
      subst hc
      split at h
      · rename_i y x q r
        split at h
        · rename_i vs hM
          split at h
          · rename_i hi
            exact bm_s_iast C' hM hi hd (hK _ _ _ _ _ _ h hls (t1 (t1 (t1 hst))))
          · cases h
        · cases h
      · cases h
    | aastore =>
      dsimp only at h
      have hc := hc0; simp only [bm_chk, am_chk, decide_eq_true_eq] at hc
      subst hc
      split at h
      · rename_i q2 x q r
        split at h
        · rename_i c1 vs c2 vs2 hM hM2
          split at h
          · rename_i hi
            obtain ⟨rfl, hk5, hin⟩ := hi
            by_cases hk : c2 = 1 ∨ c2 = 4 ∨ c2 = 5 ∨ c2 = 6 ∨ c2 = 8
            · exact bm_s_aast C' hM hM2 hk hin hd (hK _ _ _ _ _ _ h hls (t1 (t1 (t1 hst))))
            · exact absurd hk5 hk
          · cases h
        · cases h
      · cases h
    | invokespecial idx =>
      dsimp only at h
      have hc := hc0; simp only [bm_chk, decide_eq_true_eq] at hc
      subst hc
      split at h
      · rename_i q r
        cases hwt : Nat.ble (am_wt r) 8 with
        | false => rw [hwt] at h; cases h
        | true =>
          rw [hwt] at h
          simp only [cond_true] at h
          have hwt := Nat.le_of_ble_eq_true hwt
          cases hb0 : Nat.beq b 0 with
          | true =>
            rw [hb0] at h
            simp only [cond_true] at h
            have e0 := Nat.eq_of_beq_eq_true hb0
            subst e0
            have hw' : ∀ w ∈ ([.methodLink own idx objectInit, .instanceMethod objectInit, .code objectInit ⟨#[0xb1]⟩ 1 none] : List Cond), w ∈ am_U := fun w hw2 => hw w (by simp only [bm_need, if_true]; exact hw2)
            intro H locs lsA hl hz hP hS
            refine W.objInit hx hb hown (hts _ (hw' _ List.mem_cons_self)) (hts _ (hw' _ (List.mem_cons_of_mem _ List.mem_cons_self))) (hts _ (hw' _ (List.mem_cons_of_mem _ (List.mem_cons_of_mem _ List.mem_cons_self)))) rfl (by rw [hml]; exact hl.1) rfl hd hfr1 ?_ (hK _ _ _ _ _ _ h hls (t1 hst) H locs lsA hl hz hP hS)
            have := bm_wt_le (ad := bm_ad B) (t1 hst)
            show 2 * 0 + ((r.map (am_co (bm_ad B))).map fun v => v.category).sum + 12 ≤ R.locals
            omega
          | false =>
            rw [hb0] at h
            simp only [cond_false] at h
            have hbne : b ≠ 0 := fun e => by subst e; cases hb0
            split at h
            · rename_i F mc' ms' hF
              cases hq : (Nat.ble (nc + mc') R.cells && Nat.ble (ns + ms') R.slots) with
              | false => rw [hq] at h; cases h
              | true =>
                rw [hq] at h
                simp only [Bool.and_eq_true] at hq
                simp only [cond_true] at h
                split at h
                · rename_i M' hFM
                  obtain ⟨cq, hcq, hCal⟩ := hcs a _ hF
                  have hw' : ∀ w ∈ ([.instanceMethod cq.1, .initialized cq.1.cls] ++ (if (own, idx, cq.1, RX9) ∈ bm_nl then [] else [.methodLink own idx cq.1]) : List Cond), w ∈ am_U := fun w hw2 => hw w (by
                    simp only [bm_need]
                    rw [if_neg hbne, hcq]
                    exact hw2)
                  refine bm_s_call C' (idx := idx) (F := (F, mc', ms')) hCal ⟨Nat.le_of_ble_eq_true hq.1, Nat.le_of_ble_eq_true hq.2⟩ ⟨fun w hw2 => hw' w (List.mem_append_left _ hw2), ?_⟩ hd hFM (t1 hst) hwt (hK _ _ _ _ _ _ h hls (t1 hst))
                  by_cases hn : (own, idx, cq.1, RX9) ∈ bm_nl
                  · exact Or.inr hn
                  · refine Or.inl (hw' _ (List.mem_append_right _ ?_))
                    rw [if_neg hn]
                    exact List.mem_cons_self
                · cases h
            · cases h
      · cases h
    | return_ =>
      dsimp only [bm_fin] at h
      have hc := hc0; simp only [bm_chk, am_chk, decide_eq_true_eq] at hc
      subst hc
      split at h
      · cases h
        exact hfin pc a b z ls hat
      · cases h
    | _ => simp [bm_fin] at h
theorem bm_run_ok (C : bm_Cx p s m args c meth dC dI B cy cc own nL) (ho : ∃ k, k < 11 ∧ own = am_N k) {cs : List (bm_F × Nat × Nat)} {P : am_P} {ci : List bm_C}
    (hrow : ∀ (pc : Nat) (r : am_Row), am_at P pc = some r → decode cc pc = .ok (r.1, r.2.1) ∧ bm_chk nL pc r = true ∧ ∀ w ∈ bm_need own ci r, w ∈ am_U)
    (hput : ∀ (pc : Nat) (k len a b : Nat) (z : Value), am_at P pc = some (.putfield k, len, a, b, z) → own = am_N b)
    (hcs : ∀ (a : Nat) (F : bm_F × Nat × Nat), cs[a]? = some F → ∃ q : bm_C, ci[a]? = some q ∧ bm_Cal l dC dI B cy R q F)
    (hfr1 : 1 ≤ R.frames) (hlo1 : 20 ≤ R.locals) {Mf : bm_M} {nf sf : Nat}
    (hfin : ∀ (pc : Nat) (a b : Nat) (z : Value) (ls : List am_V), am_at P pc = some (.return_, 1, a, b, z) → bm_Wp p l e R s m args below meth c Q dC dI B cy nL pc ls [] Mf nf sf) :
    ∀ (n pc : Nat) (ls st : List am_V) (M : bm_M) (nc ns : Nat), (∀ v ∈ ls, bm_ok v) → (∀ v ∈ st, bm_ok v) → bm_run cs R.cells R.slots P n pc ls st M nc ns = some (Mf, nf, sf) → bm_Wp p l e R s m args below meth c Q dC dI B cy nL pc ls st M nc ns := by
  intro n
  induction n with
  | zero => intro pc ls st M nc ns _ _ h; cases h
  | succ n ih =>
    intro pc ls st M nc ns h3 h4 h
    exact bm_step_ok C ho hrow hput hcs hfr1 hlo1 (fun pc' ls' st' M' nc' ns' hk q1 q2 => ih pc' ls' st' M' nc' ns' q1 q2 hk) hfin pc ls st M nc ns h3 h4 h
end BMU
