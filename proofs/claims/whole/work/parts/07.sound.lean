/-! ===== the step, the run ===== -/
def am_Sc (rt : Nat) (ad : Nat → Nat → Nat) (X : Nat × (Nat → Int32)) (s : State) : Prop := rt = 5 → va_X (ad 29 0) X.1 X.2 s s.heap ∧ ad 29 0 < s.heap.size ∧ ¬ am_A ad (ad 29 0)
section AMU
variable {p : Program} {l : Launch} {e : Env} {R : Room} {s : State} {m : MethodId} {args : Array Value} {below : List Frame} {meth : Method} {c : Code} {Q : State → Prop}
variable {dC : Nat → ClassId} {dI : Nat → Nat → Nat} {ad : Nat → Nat → Nat} {cy : Nat → ClassId} {cc : ByteArray} {own : String} {nL : Nat}
theorem am_ok_ls {ls : List am_V} (h : ∀ v ∈ ls, am_ok v) : am_nod ls := fun j x e => absurd (h _ (List.mem_of_getElem? e)) id
theorem am_ok_kill {ls : List am_V} (h : ∀ v ∈ ls, am_ok v) (i : Nat) : ∀ v ∈ am_kill ls i, am_ok v := by
  intro v hv
  unfold am_kill at hv
  cases i with
  | zero => exact h v hv
  | succ j =>
    simp only at hv
    split at hv
    · rcases List.mem_or_eq_of_mem_set hv with h1 | h1
      · exact h v h1
      · rw [h1]; exact trivial
    · exact h v hv
theorem am_ok_set1 {ls : List am_V} {i : Nat} {w : am_V} (h : ∀ v ∈ ls, am_ok v) (hw : am_ok w) : ∀ v ∈ am_set1 ls i w, am_ok v := by
  intro v hv
  rcases List.mem_or_eq_of_mem_set hv with h1 | h1
  · exact am_ok_kill h i v h1
  · rw [h1]; exact hw
theorem am_ok_set2 {ls : List am_V} {i : Nat} {w : am_V} (h : ∀ v ∈ ls, am_ok v) (hw : am_ok w) : ∀ v ∈ am_set2 ls i w, am_ok v := by
  intro v hv
  rcases List.mem_or_eq_of_mem_set hv with h1 | h1
  · rcases List.mem_or_eq_of_mem_set h1 with h2 | h2
    · exact am_ok_kill h i v h2
    · rw [h2]; exact hw
  · rw [h1]; exact trivial
theorem am_wid {cells slots gc gs pc : Nat} {ls st : List am_V} {M : am_M} (k : am_Wp p l e R s m args below meth c Q dC dI ad cy nL (cells + gc) (slots + gs) pc ls st M) : am_Wp p l e R s m args below meth c Q dC dI ad cy nL cells slots pc ls st M :=
  fun H locs lsA hl hP hS => W.widen (Nat.le_add_right _ _) (Nat.le_add_right _ _) (k H locs lsA hl hP hS)
theorem am_ok_at {k j : Nat} (h : am_ok (.inr (k, j))) {x : Nat × Nat} (hk : am_ar k = some x) : j < am_ct k := by
  rcases h with h | ⟨h | h | h, -⟩
  · exact h
  · simp only at h; subst h; rw [am_ar_ro.1] at hk; cases hk
  · simp only at h; subst h; rw [am_ar_ro.2.1] at hk; cases hk
  · simp only at h; subst h; rw [am_ar_ro.2.2] at hk; cases hk
theorem am_ok_ob {k j : Nat} (h : am_ok (.inr (k, j))) (hk : k < 11) : j < am_ct k := by
  rcases h with h | ⟨h | h | h, -⟩
  · exact h
  · simp only at h; omega
  · simp only at h; omega
  · simp only at h; omega
theorem am_i32 {n : Int} (h0 : 0 ≤ n) (h1 : n < 1000) : (Int32.ofInt n).toInt = n := Int32.toInt_ofInt_of_le (by omega) (by omega)
theorem am_sw_ok {α : Type} {K : Nat → Option α} {d : Nat} {x : Int32} {r : α} : ∀ {L : List (Int32 × Nat)}, am_sw K d x L = some r → (∃ (j : Nat) (q : Int32 × Nat), L[j]? = some q ∧ x = q.1 ∧ K q.2 = some r ∧ ∀ (i : Nat) (q' : Int32 × Nat), i < j → L[i]? = some q' → x ≠ q'.1) ∨ ((∀ q ∈ L, x ≠ q.1) ∧ K d = some r)
  | [], h => Or.inr ⟨fun _ h => (nomatch h), h⟩
  | q :: l, h => by
    unfold am_sw at h
    by_cases hx : x = q.1
    · rw [if_pos hx] at h
      exact Or.inl ⟨0, q, rfl, hx, h, fun i _ hi => by omega⟩
    · rw [if_neg hx] at h
      rcases am_sw_ok h with ⟨j, q', h1, h2, h3, h4⟩ | ⟨h1, h2⟩
      · refine Or.inl ⟨j + 1, q', by simpa using h1, h2, h3, fun i z hi hz => ?_⟩
        cases i with
        | zero => simp at hz; rw [← hz]; exact hx
        | succ i => exact h4 i z (by omega) (by simpa using hz)
      · refine Or.inr ⟨fun z hz => ?_, h2⟩
        rcases List.mem_cons.mp hz with rfl | hz
        · exact hx
        · exact h1 z hz
theorem am_lnk {own : String} {ci : List am_C} {idx len a b : Nat} {z : Value} {q : am_C} (hq : ci[a]? = some q) (hw : ∀ w ∈ am_need own ci (.invokestatic idx, len, a, b, z), w ∈ am_U) : Cond.methodLink own idx q.1 ∈ am_U ∨ (own, idx, q.1, RX9) ∈ am_nl := by
  obtain ⟨y, w, rest⟩ := q
  by_cases h : (own, idx, y, RX9) ∈ am_nl
  · exact Or.inr h
  · refine Or.inl (hw _ ?_)
    simp only [am_need]
    rw [hq]
    refine List.mem_append_right _ ?_
    rw [if_neg h]
    exact List.mem_cons_self
set_option maxHeartbeats 4000000 in
theorem am_step_ok (C : am_Cx p s m args c dC dI ad cy cc own nL) {cs : List am_F} {hs : List (Nat × Nat × String × Value)} {rt : Nat} {X : Nat × (Nat → Int32)} {P : am_P} {ci : List am_C} {gc gs cells slots : Nat}
    (hrow : ∀ (pc : Nat) (r : am_Row), am_at P pc = some r → decode cc pc = .ok (r.1, r.2.1) ∧ am_chk nL pc r = true ∧ ∀ w ∈ am_need own ci r, w ∈ am_U)
    (hcs : ∀ (a : Nat) (F : am_F), cs[a]? = some F → ∃ q : am_C, ci[a]? = some q ∧ am_Cal l dC dI ad cy R gc gs q F)
    (hcv : ∀ (pc : Nat) (i : Instr) (len a b : Nat) (z : Value) (q : am_C), am_at P pc = some (i, len, a, b, z) → ci[a]? = some q → (∀ idx, i = .invokestatic idx → b = q.2.2.2.2.1) ∧ (∀ idx k, i = .invokevirtual idx → z = .ref k → b = q.2.2.2.2.1 + 1 ∧ q.2.2.2.1 = some k))
    (hX : am_Sc rt ad X s) (hroom : cells + gc ≤ R.cells ∧ slots + gs ≤ R.slots)
    {K : Nat → List am_V → List am_V → am_M → am_R} {o : am_O} {Mf : am_M}
    (hK : ∀ pc ls st M, K pc ls st M = some (o, Mf) → (∀ v ∈ ls, am_ok v) → (∀ v ∈ st, am_ok v) → am_Wp p l e R s m args below meth c Q dC dI ad cy nL (cells + gc) (slots + gs) pc ls st M)
    (hfin : ∀ (pc : Nat) (i : Instr) (a b : Nat) (z : Value) (ls st : List am_V), am_at P pc = some (i, 1, a, b, z) → am_fin rt i ls st = some o → (∀ v ∈ ls, am_ok v) → (∀ v ∈ st, am_ok v) → am_Wp p l e R s m args below meth c Q dC dI ad cy nL cells slots pc ls st Mf)
    (hthr : ∀ (pc : Nat) (i : Instr) (a b : Nat) (z : Value) (ls av rest : List am_V) (M M1 : am_M) (E : String) (F : am_F), am_at P pc = some (i, 3, a, b, z) → cs[a]? = some F → F av M = some (.inr E, M1) → am_Cl i z b av rest → (am_catch hs pc E = none ∧ o = .inr E ∧ Mf = M1 ∨ ∃ v, am_catch hs pc E = some v ∧ o = .inl (some (.inl v)) ∧ Mf = M1) → (∀ v ∈ ls, am_ok v) → (∀ v ∈ av, am_ok v) → (∀ v ∈ rest, am_ok v) → am_Wp p l e R s m args below meth c Q dC dI ad cy nL cells slots pc ls (av.reverse ++ rest) M)
    (pc : Nat) (ls st : List am_V) (M : am_M) (hls : ∀ v ∈ ls, am_ok v) (hst : ∀ v ∈ st, am_ok v) (h : am_step cs hs rt X P K pc ls st M = some (o, Mf)) : am_Wp p l e R s m args below meth c Q dC dI ad cy nL cells slots pc ls st M := by
  have C' := C
  obtain ⟨hx, hb, hml, hown, hts, hKK, hD, hRo, hNk⟩ := C
  unfold am_step at h
  cases hat : am_at P pc with
  | none => rw [hat] at h; cases h
  | some row =>
    obtain ⟨i, len, a, b, z⟩ := row
    obtain ⟨hd, hc, hw⟩ := hrow pc _ hat
    rw [hat] at h
    simp only at hd h
    have t1 : ∀ {v : am_V} {l : List am_V}, (∀ w ∈ v :: l, am_ok w) → ∀ w ∈ l, am_ok w := fun h w hw => h w (List.mem_cons_of_mem _ hw)
    have t2 : ∀ {v : am_V} {l : List am_V}, am_ok v → (∀ w ∈ l, am_ok w) → ∀ w ∈ v :: l, am_ok w := fun h1 h2 w hw => (List.mem_cons.mp hw).elim (fun e => e ▸ h1) (h2 w)
    have kw : ∀ {pc' : Nat} {ls' st' : List am_V} {M' : am_M}, K pc' ls' st' M' = some (o, Mf) → (∀ v ∈ ls', am_ok v) → (∀ v ∈ st', am_ok v) → am_Wp p l e R s m args below meth c Q dC dI ad cy nL cells slots pc' ls' st' M' := fun h1 h2 h3 => am_wid (hK _ _ _ _ h1 h2 h3)
    cases i with
    | iconst v =>
      dsimp only at h
      simp only [am_chk, decide_eq_true_eq, Bool.and_eq_true] at hc
      obtain ⟨rfl, rfl⟩ := hc
      intro H locs lsA hl hP hS
      exact lv_iconst hx hb hd rfl (kw h hls (t2 trivial hst) H locs lsA hl hP hS)
    | bipush v =>
      dsimp only at h
      simp only [am_chk, decide_eq_true_eq, Bool.and_eq_true] at hc
      obtain ⟨rfl, rfl⟩ := hc
      intro H locs lsA hl hP hS
      exact lv_bipush hx hb hd rfl (kw h hls (t2 trivial hst) H locs lsA hl hP hS)
    | sipush v =>
      dsimp only at h
      simp only [am_chk, decide_eq_true_eq, Bool.and_eq_true] at hc
      obtain ⟨rfl, rfl⟩ := hc
      intro H locs lsA hl hP hS
      exact lv_sipush hx hb hd rfl (kw h hls (t2 trivial hst) H locs lsA hl hP hS)
    | lconst v =>
      dsimp only at h
      simp only [am_chk, decide_eq_true_eq, Bool.and_eq_true] at hc
      obtain ⟨rfl, rfl⟩ := hc
      intro H locs lsA hl hP hS
      exact lv_lconst hx hb hd rfl (kw h hls (t2 trivial hst) H locs lsA hl hP hS)
    | ldc k =>
      dsimp only at h
      simp only [am_chk, decide_eq_true_eq, Bool.and_eq_true] at hc
      obtain ⟨rfl, hz⟩ := hc
      split at hz
      · intro H locs lsA hl hP hS
        exact lv_ldc hx hb hown (hts _ (hw _ (by simp [am_need]))) hd (kw h hls (t2 trivial hst) H locs lsA hl hP hS)
      · cases hz
    | ldc2_w k =>
      dsimp only at h
      simp only [am_chk, decide_eq_true_eq, Bool.and_eq_true] at hc
      obtain ⟨rfl, hz⟩ := hc
      split at hz
      · intro H locs lsA hl hP hS
        exact lv_ldc2 hx hb hown (hts _ (hw _ (by simp [am_need]))) hd (kw h hls (t2 trivial hst) H locs lsA hl hP hS)
      · cases hz
    | aconst_null =>
      dsimp only at h
      simp only [am_chk, decide_eq_true_eq, Bool.and_eq_true] at hc
      subst hc
      intro H locs lsA hl hP hS
      exact lv_null hx hb hd (kw h hls (t2 trivial hst) H locs lsA hl hP hS)
    | iload_n k =>
      dsimp only at h
      simp only [am_chk, decide_eq_true_eq, Bool.and_eq_true] at hc
      obtain ⟨rfl, rfl⟩ := hc
      split at h
      · rename_i x hv
        intro H locs lsA hl hP hS
        exact lv_iload_n hx hb hd rfl (am_lv_at hl hv rfl) (kw h hls (t2 trivial hst) H locs lsA hl hP hS)
      · cases h
    | iload k =>
      dsimp only at h
      simp only [am_chk, decide_eq_true_eq, Bool.and_eq_true] at hc
      obtain ⟨rfl, rfl⟩ := hc
      split at h
      · rename_i x hv
        intro H locs lsA hl hP hS
        exact lv_iload hx hb hd (am_lv_at hl hv rfl) (kw h hls (t2 trivial hst) H locs lsA hl hP hS)
      · cases h
    | lload_n k =>
      dsimp only at h
      simp only [am_chk, decide_eq_true_eq, Bool.and_eq_true] at hc
      obtain ⟨rfl, rfl⟩ := hc
      split at h
      · rename_i x hv
        intro H locs lsA hl hP hS
        exact lv_lload_n hx hb hd rfl (am_lv_at hl hv rfl) (kw h hls (t2 trivial hst) H locs lsA hl hP hS)
      · cases h
    | lload k =>
      dsimp only at h
      simp only [am_chk, decide_eq_true_eq, Bool.and_eq_true] at hc
      obtain ⟨rfl, rfl⟩ := hc
      split at h
      · rename_i x hv
        intro H locs lsA hl hP hS
        exact lv_lload hx hb hd (am_lv_at hl hv rfl) (kw h hls (t2 trivial hst) H locs lsA hl hP hS)
      · cases h
    | aload_n k =>
      dsimp only at h
      simp only [am_chk, decide_eq_true_eq, Bool.and_eq_true] at hc
      obtain ⟨rfl, rfl⟩ := hc
      split at h
      · rename_i q hv
        intro H locs lsA hl hP hS
        exact lv_aload_n hx hb hd rfl (am_lv_at hl hv rfl) (kw h hls (t2 (hls _ (List.mem_of_getElem? hv)) hst) H locs lsA hl hP hS)
      · rename_i hv
        intro H locs lsA hl hP hS
        exact lv_aload_nN hx hb hd rfl (am_lv_at hl hv rfl) (kw h hls (t2 trivial hst) H locs lsA hl hP hS)
      · cases h
    | aload k =>
      dsimp only at h
      simp only [am_chk, decide_eq_true_eq, Bool.and_eq_true] at hc
      obtain ⟨rfl, rfl⟩ := hc
      split at h
      · rename_i q hv
        intro H locs lsA hl hP hS
        exact lv_aload hx hb hd (am_lv_at hl hv rfl) (kw h hls (t2 (hls _ (List.mem_of_getElem? hv)) hst) H locs lsA hl hP hS)
      · rename_i hv
        intro H locs lsA hl hP hS
        exact lv_aloadN hx hb hd (am_lv_at hl hv rfl) (kw h hls (t2 trivial hst) H locs lsA hl hP hS)
      · cases h
    | istore_n k =>
      dsimp only at h
      simp only [am_chk, decide_eq_true_eq, Bool.and_eq_true] at hc
      obtain ⟨rfl, rfl, hn⟩ := hc
      split at h
      · rename_i x r
        intro H locs lsA hl hP hS
        exact lv_istore_n hx hb hd rfl hl hn rfl (fun lsB hl2 => kw h (am_ok_set1 hls trivial) (t1 hst) H locs lsB (am_lv_set1 (v := .inl _) (am_ok_ls hls) hl2) hP hS)
      · cases h
    | istore k =>
      dsimp only at h
      simp only [am_chk, decide_eq_true_eq, Bool.and_eq_true] at hc
      obtain ⟨rfl, rfl, hn⟩ := hc
      split at h
      · rename_i x r
        intro H locs lsA hl hP hS
        exact lv_istore hx hb hd hl hn rfl (fun lsB hl2 => kw h (am_ok_set1 hls trivial) (t1 hst) H locs lsB (am_lv_set1 (v := .inl _) (am_ok_ls hls) hl2) hP hS)
      · cases h
    | lstore_n k =>
      dsimp only at h
      simp only [am_chk, decide_eq_true_eq, Bool.and_eq_true] at hc
      obtain ⟨rfl, rfl, hn⟩ := hc
      split at h
      · rename_i x r
        intro H locs lsA hl hP hS
        exact lv_lstore_n hx hb hd rfl hl hn rfl (fun lsB hl2 => kw h (am_ok_set2 hls trivial) (t1 hst) H locs lsB (am_lv_set2 (v := .inl _) (am_ok_ls hls) hl2) hP hS)
      · cases h
    | lstore k =>
      dsimp only at h
      simp only [am_chk, decide_eq_true_eq, Bool.and_eq_true] at hc
      obtain ⟨rfl, rfl, hn⟩ := hc
      split at h
      · rename_i x r
        intro H locs lsA hl hP hS
        exact lv_lstore hx hb hd hl hn rfl (fun lsB hl2 => kw h (am_ok_set2 hls trivial) (t1 hst) H locs lsB (am_lv_set2 (v := .inl _) (am_ok_ls hls) hl2) hP hS)
      · cases h
    | astore_n k =>
      dsimp only at h
      simp only [am_chk, decide_eq_true_eq, Bool.and_eq_true] at hc
      obtain ⟨rfl, rfl, hn⟩ := hc
      split at h
      · rename_i q r
        intro H locs lsA hl hP hS
        exact lv_astore_n hx hb hd rfl hl hn rfl (fun lsB hl2 => kw h (am_ok_set1 hls (hst _ List.mem_cons_self)) (t1 hst) H locs lsB (am_lv_set1 (v := .inr q) (am_ok_ls hls) hl2) hP hS)
      · rename_i r
        intro H locs lsA hl hP hS
        exact lv_astore_nN hx hb hd rfl hl hn rfl (fun lsB hl2 => kw h (am_ok_set1 hls trivial) (t1 hst) H locs lsB (am_lv_set1 (v := .inl .null) (am_ok_ls hls) hl2) hP hS)
      · cases h
    | astore k =>
      dsimp only at h
      simp only [am_chk, decide_eq_true_eq, Bool.and_eq_true] at hc
      obtain ⟨rfl, rfl, hn⟩ := hc
      split at h
      · rename_i q r
        intro H locs lsA hl hP hS
        exact lv_astore hx hb hd hl hn rfl (fun lsB hl2 => kw h (am_ok_set1 hls (hst _ List.mem_cons_self)) (t1 hst) H locs lsB (am_lv_set1 (v := .inr q) (am_ok_ls hls) hl2) hP hS)
      · rename_i r
        intro H locs lsA hl hP hS
        exact lv_astoreN hx hb hd hl hn rfl (fun lsB hl2 => kw h (am_ok_set1 hls trivial) (t1 hst) H locs lsB (am_lv_set1 (v := .inl .null) (am_ok_ls hls) hl2) hP hS)
      · cases h
    | iinc k v =>
      dsimp only at h
      simp only [am_chk, decide_eq_true_eq, Bool.and_eq_true] at hc
      obtain ⟨rfl, rfl, hn, rfl⟩ := hc
      split at h
      · rename_i x v2 hv he
        cases he
        intro H locs lsA hl hP hS
        obtain ⟨kx, hkx⟩ := List.getElem?_of_mem (am_lv_mem.mpr ⟨_, _, hv, rfl, rfl⟩ : (0 + k, am_co ad (.inl (.int x))) ∈ am_lv ad 0 ls)
        rw [Nat.zero_add] at hkx
        exact lv_iinc hx hb hd hl hkx rfl hn rfl (fun lsB hl2 => kw h (am_ok_set1 hls trivial) hst H locs lsB (am_lv_set1 (v := .inl _) (am_ok_ls hls) hl2) hP hS)
      · cases h
    | iadd =>
      dsimp only at h
      simp only [am_chk, decide_eq_true_eq, Bool.and_eq_true] at hc
      subst hc
      split at h
      · intro H locs lsA hl hP hS
        exact lv_iadd hx hb hd (kw h hls (t2 trivial (t1 (t1 hst))) H locs lsA hl hP hS)
      · cases h
    | isub =>
      dsimp only at h
      simp only [am_chk, decide_eq_true_eq, Bool.and_eq_true] at hc
      subst hc
      split at h
      · intro H locs lsA hl hP hS
        exact lv_isub hx hb hd (kw h hls (t2 trivial (t1 (t1 hst))) H locs lsA hl hP hS)
      · cases h
    | imul =>
      dsimp only at h
      simp only [am_chk, decide_eq_true_eq, Bool.and_eq_true] at hc
      subst hc
      split at h
      · intro H locs lsA hl hP hS
        exact lv_imul hx hb hd (kw h hls (t2 trivial (t1 (t1 hst))) H locs lsA hl hP hS)
      · cases h
    | iand =>
      dsimp only at h
      simp only [am_chk, decide_eq_true_eq, Bool.and_eq_true] at hc
      subst hc
      split at h
      · intro H locs lsA hl hP hS
        exact lv_iand hx hb hd (kw h hls (t2 trivial (t1 (t1 hst))) H locs lsA hl hP hS)
      · cases h
    | ior =>
      dsimp only at h
      simp only [am_chk, decide_eq_true_eq, Bool.and_eq_true] at hc
      subst hc
      split at h
      · intro H locs lsA hl hP hS
        exact lv_ior hx hb hd (kw h hls (t2 trivial (t1 (t1 hst))) H locs lsA hl hP hS)
      · cases h
    | ishr =>
      dsimp only at h
      simp only [am_chk, decide_eq_true_eq, Bool.and_eq_true] at hc
      subst hc
      split at h
      · intro H locs lsA hl hP hS
        exact lv_ishr hx hb hd (kw h hls (t2 trivial (t1 (t1 hst))) H locs lsA hl hP hS)
      · cases h
    | ladd =>
      dsimp only at h
      simp only [am_chk, decide_eq_true_eq, Bool.and_eq_true] at hc
      subst hc
      split at h
      · intro H locs lsA hl hP hS
        exact lv_ladd hx hb hd (kw h hls (t2 trivial (t1 (t1 hst))) H locs lsA hl hP hS)
      · cases h
    | lsub =>
      dsimp only at h
      simp only [am_chk, decide_eq_true_eq, Bool.and_eq_true] at hc
      subst hc
      split at h
      · intro H locs lsA hl hP hS
        exact lv_lsub hx hb hd (kw h hls (t2 trivial (t1 (t1 hst))) H locs lsA hl hP hS)
      · cases h
    | lmul =>
      dsimp only at h
      simp only [am_chk, decide_eq_true_eq, Bool.and_eq_true] at hc
      subst hc
      split at h
      · intro H locs lsA hl hP hS
        exact lv_lmul hx hb hd (kw h hls (t2 trivial (t1 (t1 hst))) H locs lsA hl hP hS)
      · cases h
    | lxor =>
      dsimp only at h
      simp only [am_chk, decide_eq_true_eq, Bool.and_eq_true] at hc
      subst hc
      split at h
      · intro H locs lsA hl hP hS
        exact lv_lxor hx hb hd (kw h hls (t2 trivial (t1 (t1 hst))) H locs lsA hl hP hS)
      · cases h
    | lcmp =>
      dsimp only at h
      simp only [am_chk, decide_eq_true_eq, Bool.and_eq_true] at hc
      subst hc
      split at h
      · intro H locs lsA hl hP hS
        exact W.lcmp hx hb hd (kw h hls (t2 trivial (t1 (t1 hst))) H locs lsA hl hP hS)
      · cases h
    | lshl =>
      dsimp only at h
      simp only [am_chk, decide_eq_true_eq, Bool.and_eq_true] at hc
      subst hc
      split at h
      · intro H locs lsA hl hP hS
        exact lv_lshl hx hb hd rfl (kw h hls (t2 trivial (t1 (t1 hst))) H locs lsA hl hP hS)
      · cases h
    | idiv =>
      dsimp only at h
      simp only [am_chk, decide_eq_true_eq, Bool.and_eq_true] at hc
      subst hc
      split at h
      · split at h
        · cases h
        · rename_i hne
          intro H locs lsA hl hP hS
          exact lv_idiv hx hb hd hne (kw h hls (t2 trivial (t1 (t1 hst))) H locs lsA hl hP hS)
      · cases h
    | irem =>
      dsimp only at h
      simp only [am_chk, decide_eq_true_eq, Bool.and_eq_true] at hc
      subst hc
      split at h
      · split at h
        · cases h
        · rename_i hne
          intro H locs lsA hl hP hS
          exact lv_irem hx hb hd hne (kw h hls (t2 trivial (t1 (t1 hst))) H locs lsA hl hP hS)
      · cases h
    | ldiv =>
      dsimp only at h
      simp only [am_chk, decide_eq_true_eq, Bool.and_eq_true] at hc
      subst hc
      split at h
      · split at h
        · cases h
        · rename_i hne
          intro H locs lsA hl hP hS
          exact lv_ldiv hx hb hd hne (kw h hls (t2 trivial (t1 (t1 hst))) H locs lsA hl hP hS)
      · cases h
    | lrem =>
      dsimp only at h
      simp only [am_chk, decide_eq_true_eq, Bool.and_eq_true] at hc
      subst hc
      split at h
      · split at h
        · cases h
        · rename_i hne
          intro H locs lsA hl hP hS
          exact lv_lrem hx hb hd hne (kw h hls (t2 trivial (t1 (t1 hst))) H locs lsA hl hP hS)
      · cases h
    | i2l =>
      dsimp only at h
      simp only [am_chk, decide_eq_true_eq, Bool.and_eq_true] at hc
      subst hc
      split at h
      · intro H locs lsA hl hP hS
        exact lv_i2l hx hb hd rfl (kw h hls (t2 trivial (t1 hst)) H locs lsA hl hP hS)
      · cases h
    | l2i =>
      dsimp only at h
      simp only [am_chk, decide_eq_true_eq, Bool.and_eq_true] at hc
      subst hc
      split at h
      · intro H locs lsA hl hP hS
        exact lv_l2i hx hb hd rfl (kw h hls (t2 trivial (t1 hst)) H locs lsA hl hP hS)
      · cases h
    | dup =>
      dsimp only at h
      simp only [am_chk, decide_eq_true_eq, Bool.and_eq_true] at hc
      subst hc
      split at h
      · intro H locs lsA hl hP hS
        exact lv_dup hx hb hd rfl (kw h hls (t2 trivial hst) H locs lsA hl hP hS)
      · intro H locs lsA hl hP hS
        exact lv_dup hx hb hd rfl (kw h hls (t2 (hst _ List.mem_cons_self) hst) H locs lsA hl hP hS)
      · cases h
    | dup2 =>
      dsimp only at h
      simp only [am_chk, decide_eq_true_eq, Bool.and_eq_true] at hc
      subst hc
      split at h
      · intro H locs lsA hl hP hS
        exact lv_dup2_11 hx hb hd rfl rfl (kw h hls (t2 trivial (t2 (t1 hst _ List.mem_cons_self) hst)) H locs lsA hl hP hS)
      · cases h
    | pop =>
      dsimp only at h
      simp only [am_chk, decide_eq_true_eq, Bool.and_eq_true] at hc
      subst hc
      split at h
      · intro H locs lsA hl hP hS
        exact lv_pop hx hb hd rfl (kw h hls (t1 hst) H locs lsA hl hP hS)
      · intro H locs lsA hl hP hS
        exact lv_pop hx hb hd rfl (kw h hls (t1 hst) H locs lsA hl hP hS)
      · cases h
    | goto off =>
      dsimp only at h
      simp only [am_chk, decide_eq_true_eq, Bool.and_eq_true] at hc
      obtain ⟨rfl, ht⟩ := hc
      intro H locs lsA hl hP hS
      exact lv_goto hx hb hd ht (kw h hls hst H locs lsA hl hP hS)
    | ifCond cn off =>
      dsimp only at h
      simp only [am_chk, decide_eq_true_eq, Bool.and_eq_true] at hc
      obtain ⟨rfl, ht⟩ := hc
      split at h
      · cases cn with
        | eq =>
          simp only at h
          split at h
          · rename_i hq
            intro H locs lsA hl hP hS
            exact lv_if_eq hx hb hd ht (fun z => kw h hls (t1 hst) H locs lsA hl hP hS) (fun z => absurd hq z)
          · rename_i hq
            intro H locs lsA hl hP hS
            exact lv_if_eq hx hb hd ht (fun z => absurd z hq) (fun z => kw h hls (t1 hst) H locs lsA hl hP hS)
        | ne =>
          simp only at h
          split at h
          · rename_i hq
            intro H locs lsA hl hP hS
            exact lv_if_ne hx hb hd ht (fun z => absurd hq z) (fun z => kw h hls (t1 hst) H locs lsA hl hP hS)
          · rename_i hq
            intro H locs lsA hl hP hS
            exact lv_if_ne hx hb hd ht (fun z => kw h hls (t1 hst) H locs lsA hl hP hS) (fun z => absurd z hq)
        | lt =>
          simp only at h
          split at h
          · rename_i hq
            intro H locs lsA hl hP hS
            exact lv_if_lt hx hb hd ht (fun z => kw h hls (t1 hst) H locs lsA hl hP hS) (fun z => absurd hq z)
          · rename_i hq
            intro H locs lsA hl hP hS
            exact lv_if_lt hx hb hd ht (fun z => absurd z hq) (fun z => kw h hls (t1 hst) H locs lsA hl hP hS)
        | ge =>
          simp only at h
          split at h
          · rename_i hq
            intro H locs lsA hl hP hS
            exact lv_if_ge hx hb hd ht (fun z => kw h hls (t1 hst) H locs lsA hl hP hS) (fun z => absurd hq z)
          · rename_i hq
            intro H locs lsA hl hP hS
            exact lv_if_ge hx hb hd ht (fun z => absurd z hq) (fun z => kw h hls (t1 hst) H locs lsA hl hP hS)
        | gt =>
          simp only at h
          split at h
          · rename_i hq
            intro H locs lsA hl hP hS
            exact lv_if_gt hx hb hd ht (fun z => kw h hls (t1 hst) H locs lsA hl hP hS) (fun z => absurd hq z)
          · rename_i hq
            intro H locs lsA hl hP hS
            exact lv_if_gt hx hb hd ht (fun z => absurd z hq) (fun z => kw h hls (t1 hst) H locs lsA hl hP hS)
        | le =>
          simp only at h
          split at h
          · rename_i hq
            intro H locs lsA hl hP hS
            exact lv_if_le hx hb hd ht (fun z => kw h hls (t1 hst) H locs lsA hl hP hS) (fun z => absurd hq z)
          · rename_i hq
            intro H locs lsA hl hP hS
            exact lv_if_le hx hb hd ht (fun z => absurd z hq) (fun z => kw h hls (t1 hst) H locs lsA hl hP hS)
      · cases h
    | if_icmp cn off =>
      dsimp only at h
      simp only [am_chk, decide_eq_true_eq, Bool.and_eq_true] at hc
      obtain ⟨rfl, ht⟩ := hc
      split at h
      · cases cn with
        | eq =>
          simp only at h
          split at h
          · rename_i hq
            intro H locs lsA hl hP hS
            exact lv_icmp_eq hx hb hd ht (fun z => kw h hls (t1 (t1 hst)) H locs lsA hl hP hS) (fun z => absurd hq z)
          · rename_i hq
            intro H locs lsA hl hP hS
            exact lv_icmp_eq hx hb hd ht (fun z => absurd z hq) (fun z => kw h hls (t1 (t1 hst)) H locs lsA hl hP hS)
        | ne =>
          simp only at h
          split at h
          · rename_i hq
            intro H locs lsA hl hP hS
            exact lv_icmp_ne hx hb hd ht (fun z => absurd hq z) (fun z => kw h hls (t1 (t1 hst)) H locs lsA hl hP hS)
          · rename_i hq
            intro H locs lsA hl hP hS
            exact lv_icmp_ne hx hb hd ht (fun z => kw h hls (t1 (t1 hst)) H locs lsA hl hP hS) (fun z => absurd z hq)
        | lt =>
          simp only at h
          split at h
          · rename_i hq
            intro H locs lsA hl hP hS
            exact lv_icmp_lt hx hb hd ht (fun z => kw h hls (t1 (t1 hst)) H locs lsA hl hP hS) (fun z => absurd hq z)
          · rename_i hq
            intro H locs lsA hl hP hS
            exact lv_icmp_lt hx hb hd ht (fun z => absurd z hq) (fun z => kw h hls (t1 (t1 hst)) H locs lsA hl hP hS)
        | ge =>
          simp only at h
          split at h
          · rename_i hq
            intro H locs lsA hl hP hS
            exact lv_icmp_ge hx hb hd ht (fun z => kw h hls (t1 (t1 hst)) H locs lsA hl hP hS) (fun z => absurd hq z)
          · rename_i hq
            intro H locs lsA hl hP hS
            exact lv_icmp_ge hx hb hd ht (fun z => absurd z hq) (fun z => kw h hls (t1 (t1 hst)) H locs lsA hl hP hS)
        | gt =>
          simp only at h
          split at h
          · rename_i hq
            intro H locs lsA hl hP hS
            exact lv_icmp_gt hx hb hd ht (fun z => kw h hls (t1 (t1 hst)) H locs lsA hl hP hS) (fun z => absurd hq z)
          · rename_i hq
            intro H locs lsA hl hP hS
            exact lv_icmp_gt hx hb hd ht (fun z => absurd z hq) (fun z => kw h hls (t1 (t1 hst)) H locs lsA hl hP hS)
        | le =>
          simp only at h
          split at h
          · rename_i hq
            intro H locs lsA hl hP hS
            exact lv_icmp_le hx hb hd ht (fun z => kw h hls (t1 (t1 hst)) H locs lsA hl hP hS) (fun z => absurd hq z)
          · rename_i hq
            intro H locs lsA hl hP hS
            exact lv_icmp_le hx hb hd ht (fun z => absurd z hq) (fun z => kw h hls (t1 (t1 hst)) H locs lsA hl hP hS)
      · cases h
    | ifnull off =>
      dsimp only at h
      simp only [am_chk, decide_eq_true_eq, Bool.and_eq_true] at hc
      obtain ⟨rfl, ht⟩ := hc
      split at h
      · intro H locs lsA hl hP hS
        exact lv_ifnull hx hb hd (kw h hls (t1 hst) H locs lsA hl hP hS)
      · intro H locs lsA hl hP hS
        exact lv_ifnullN hx hb hd ht (kw h hls (t1 hst) H locs lsA hl hP hS)
      · cases h
    | ifnonnull off =>
      dsimp only at h
      simp only [am_chk, decide_eq_true_eq, Bool.and_eq_true] at hc
      obtain ⟨rfl, ht⟩ := hc
      split at h
      · intro H locs lsA hl hP hS
        exact lv_ifnonnull hx hb hd ht (kw h hls (t1 hst) H locs lsA hl hP hS)
      · intro H locs lsA hl hP hS
        exact lv_ifnonnullN hx hb hd (kw h hls (t1 hst) H locs lsA hl hP hS)
      · cases h
    | tableswitch df lo hi os =>
      dsimp only at h
      simp only [am_chk, decide_eq_true_eq, Bool.and_eq_true] at hc
      obtain ⟨⟨h0, h1, h2, h3⟩, h4⟩ := hc
      split at h
      · rename_i x r
        intro H locs lsA hl hP hS
        have hg : ∀ j, j < os.size → 0 ≤ (pc : Int) + os.getD j 0 := fun j hj => of_decide_eq_true (List.all_eq_true.mp h4 j (List.mem_range.mpr hj))
        rcases am_sw_ok h with ⟨j, q, e1, e2, e3, -⟩ | ⟨e1, e2⟩
        · rw [List.getElem?_map] at e1
          cases hr : (List.range os.size)[j]? with
          | none => rw [hr] at e1; cases e1
          | some j2 =>
            rw [hr] at e1
            obtain ⟨e5, e6⟩ := List.getElem?_eq_some_iff.mp hr
            rw [List.length_range] at e5
            rw [List.getElem_range] at e6
            subst e6
            cases e1
            simp only at e2 e3
            have ex : x.toInt = lo + (j : Int) := by rw [e2]; exact am_i32 (by omega) (by omega)
            refine lv_tableIn hx hb hd (by omega) (by omega) (off := os.getD j 0) ?_ ?_ (kw e3 hls (t1 hst) H locs lsA hl hP hS)
            · rw [show (x.toInt - lo).toNat = j by omega, Array.getD_eq_getD_getElem?, Array.getElem?_eq_getElem e5]; rfl
            · have := hg j e5; omega
        · refine lv_tableOut hx hb hd ?_ (by omega) (kw e2 hls (t1 hst) H locs lsA hl hP hS)
          rcases Int.lt_or_le x.toInt lo with hz | hz
          · exact Or.inl hz
          · rcases Int.lt_or_le hi x.toInt with hz2 | hz2
            · exact Or.inr hz2
            · exfalso
              refine e1 (Int32.ofInt (lo + (((x.toInt - lo).toNat : Nat) : Int)), ((pc : Int) + os.getD (x.toInt - lo).toNat 0).toNat) (List.mem_map.mpr ⟨(x.toInt - lo).toNat, List.mem_range.mpr (by omega), rfl⟩) ?_
              apply Int32.toInt_inj.mp
              rw [am_i32 (by omega) (by omega)]
              omega
      · cases h
    | lookupswitch df ps =>
      dsimp only at h
      simp only [am_chk, decide_eq_true_eq, Bool.and_eq_true] at hc
      obtain ⟨⟨h0, h1⟩, h4⟩ := hc
      split at h
      · rename_i x r
        intro H locs lsA hl hP hS
        have key : ∀ (L : List (Int × Int)), (∀ q ∈ L, 0 ≤ (pc : Int) + q.2 ∧ 0 ≤ q.1 ∧ q.1 < 1000) → am_sw (fun t => K t ls r M) ((pc : Int) + df).toNat x (L.map (fun q => (Int32.ofInt q.1, ((pc : Int) + q.2).toNat))) = some (o, Mf) → ∃ tgt : Nat, (pc : Int) + Op.lookupswitch.offset L df x.toInt = (tgt : Int) ∧ K tgt ls r M = some (o, Mf) := by
          intro L
          induction L with
          | nil => intro _ hk; exact ⟨((pc : Int) + df).toNat, by show (pc : Int) + df = _; omega, hk⟩
          | cons q L ih =>
            intro hq hk
            rw [List.map_cons] at hk
            unfold am_sw at hk
            obtain ⟨g1, g2, g3⟩ := hq q List.mem_cons_self
            by_cases hxq : x = Int32.ofInt q.1
            · rw [if_pos hxq] at hk
              have : x.toInt = q.1 := by rw [hxq]; exact am_i32 g2 g3
              exact ⟨((pc : Int) + q.2).toNat, by simp [Op.lookupswitch.offset, this]; omega, hk⟩
            · rw [if_neg hxq] at hk
              obtain ⟨tgt, i1, i2⟩ := ih (fun z hz => hq z (List.mem_cons_of_mem _ hz)) hk
              have : ¬ x.toInt = q.1 := fun e => hxq (Int32.toInt_inj.mp (by rw [e, am_i32 g2 g3]))
              refine ⟨tgt, ?_, i2⟩
              rw [← i1]
              simp [Op.lookupswitch.offset, this, Ne.symm this]
        obtain ⟨tgt, i1, i2⟩ := key ps.toList (fun q hq => of_decide_eq_true (List.all_eq_true.mp h4 q hq)) h
        exact lv_lookup hx hb hd h1 rfl i1 (kw i2 hls (t1 hst) H locs lsA hl hP hS)
      · cases h
    | getfield idx =>
      dsimp only at h
      simp only [am_chk, decide_eq_true_eq, Bool.and_eq_true] at hc
      obtain ⟨rfl, hb11, ha⟩ := hc
      split at h
      · rename_i k j r
        cases hk : Nat.beq k b with
        | false => rw [hk] at h; cases h
        | true =>
          rw [hk] at h
          have hkb := Nat.eq_of_beq_eq_true hk
          subst hkb
          have hj := am_ok_ob (hst _ List.mem_cons_self) hb11
          have hwd : Cond.fieldLink own idx (am_T k a).1 (am_T k a).2.1 (am_T k a).2.2.1 ∈ am_U := hw _ (by simp [am_need])
          simp only [cond_true] at h
          split at h
          · rename_i k2 hk2
            exact am_s_get C' hb11 ha hj hwd hd (v := .inr (k2, j)) (by unfold am_fv; rw [hk2]; rfl) (kw h hls (t2 (Or.inl (Nat.lt_of_lt_of_le hj (am_ft_ct k hb11 a ha k2 hk2))) (t1 hst)))
          · rename_i hk2
            cases hz : am_fz k a with
            | true => rw [hz] at h; exact am_s_get C' hb11 ha hj hwd hd (v := .inl (.int (am_b (M k j a)))) (by unfold am_fv; rw [hk2, hz]; rfl) (kw h hls (t2 trivial (t1 hst)))
            | false => rw [hz] at h; exact am_s_get C' hb11 ha hj hwd hd (v := .inl (.int (M k j a))) (by unfold am_fv; rw [hk2, hz]; rfl) (kw h hls (t2 trivial (t1 hst)))
      · cases h
    | putfield idx =>
      dsimp only at h
      simp only [am_chk, decide_eq_true_eq, Bool.and_eq_true] at hc
      obtain ⟨rfl, hb11, ha⟩ := hc
      split at h
      · rename_i x k j r
        cases hk : Nat.beq k b with
        | false => rw [hk] at h; cases h
        | true =>
          rw [hk] at h
          have hkb := Nat.eq_of_beq_eq_true hk
          subst hkb
          have hj := am_ok_ob (t1 hst _ List.mem_cons_self) hb11
          have hwd : Cond.fieldLink own idx (am_T k a).1 (am_T k a).2.1 (am_T k a).2.2.1 ∈ am_U := hw _ (by simp [am_need])
          simp only [cond_true] at h
          split at h
          · cases h
          · rename_i hk2
            cases hz : am_fz k a with
            | true =>
              rw [hz] at h
              simp only [cond_true] at h
              split at h
              · rename_i hbx
                exact am_s_put C' hb11 ha hj hwd hd hk2 (fun _ => hbx) (kw h hls (t1 (t1 hst)))
              · cases h
            | false => rw [hz] at h; exact am_s_put C' hb11 ha hj hwd hd hk2 (fun z => by rw [hz] at z; cases z) (kw h hls (t1 (t1 hst)))
      · cases h
    | getstatic idx =>
      dsimp only at h
      simp only [am_chk, decide_eq_true_eq, Bool.and_eq_true] at hc
      obtain ⟨rfl, ha⟩ := hc
      intro H locs lsA hl hP hS
      rcases ha with rfl | rfl
      · exact va_gets hx hb hRo.1 hS hown (hts _ (hw _ (by simp [am_need]))) (fun x h => h) hd (kw h hls (t2 (Or.inr ⟨Or.inl rfl, rfl⟩) hst) H locs lsA hl hP hS)
      · exact va_gets hx hb hRo.2.2.1 hS hown (hts _ (hw _ (by simp [am_need]))) (fun x h => h) hd (kw h hls (t2 (Or.inr ⟨Or.inr (Or.inl rfl), rfl⟩) hst) H locs lsA hl hP hS)
    | arraylength =>
      dsimp only at h
      simp only [am_chk, decide_eq_true_eq, Bool.and_eq_true] at hc
      subst hc
      split at h
      · rename_i k j r
        cases hk : (Nat.beq k 29 && Nat.beq rt 5) with
        | true =>
          rw [hk] at h
          simp only [Bool.and_eq_true] at hk
          have h29 := Nat.eq_of_beq_eq_true hk.1
          have h5 := Nat.eq_of_beq_eq_true hk.2
          subst h29
          obtain ⟨x1, x2, x3⟩ := hX h5
          have hj0 : j = 0 := by
            rcases hst _ List.mem_cons_self with q | q
            · exact absurd q (by rw [show am_ct 29 = 0 from rfl]; exact Nat.not_lt_zero _)
            · exact q.2
          subst hj0
          intro H locs lsA hl hP hS
          exact va_slen hx hb x1 x2 x3 hS hd (kw h hls (t2 trivial (t1 hst)) H locs lsA hl hP hS)
        | false =>
          rw [hk] at h
          simp only [cond_false] at h
          split at h
          · rename_i e1 n1 hk2
            have hj := am_ok_at (hst _ List.mem_cons_self) hk2
            by_cases he : e1 < 3
            · exact am_s_alen C' hk2 he hj hd (kw h hls (t2 trivial (t1 hst)))
            · exact am_s_alenq C' hk2 he hj hd (kw h hls (t2 trivial (t1 hst)))
          · cases h
      · cases h
    | iaload =>
      dsimp only at h
      simp only [am_chk, decide_eq_true_eq, Bool.and_eq_true] at hc
      subst hc
      split at h
      · rename_i x k j r
        cases hk : (Nat.beq k 27 || Nat.beq k 28) with
        | true =>
          rw [hk] at h
          simp only [cond_true] at h
          split at h
          · rename_i hin
            have h27 : k = 27 ∨ k = 28 := by
              simp only [Bool.or_eq_true] at hk
              exact hk.imp Nat.eq_of_beq_eq_true Nat.eq_of_beq_eq_true
            have hj0 : j = 0 := by
              rcases t1 hst _ List.mem_cons_self with q | q
              · rcases h27 with e | e
                · subst e; exact absurd q (by rw [show am_ct 27 = 0 from rfl]; exact Nat.not_lt_zero _)
                · subst e; exact absurd q (by rw [show am_ct 28 = 0 from rfl]; exact Nat.not_lt_zero _)
              · exact q.2
            subst hj0
            intro H locs lsA hl hP hS
            rcases h27 with e | e
            · subst e; exact va_ti hx hb hRo.2.1 hS (am_in_vp hin) rfl hd (kw h hls (t2 trivial (t1 (t1 hst))) H locs lsA hl hP hS)
            · subst e; exact va_ti hx hb hRo.2.2.2.1 hS (am_in_vp hin) rfl hd (kw h hls (t2 trivial (t1 (t1 hst))) H locs lsA hl hP hS)
          · cases h
        | false =>
          rw [hk] at h
          simp only [cond_false] at h
          cases hk9 : (Nat.beq k 29 && Nat.beq rt 5) with
          | true =>
            rw [hk9] at h
            simp only [Bool.and_eq_true] at hk9
            simp only [cond_true] at h
            have h29 := Nat.eq_of_beq_eq_true hk9.1
            have h5 := Nat.eq_of_beq_eq_true hk9.2
            subst h29
            obtain ⟨x1, x2, x3⟩ := hX h5
            have hj0 : j = 0 := by
              rcases t1 hst _ List.mem_cons_self with q | q
              · exact absurd q (by rw [show am_ct 29 = 0 from rfl]; exact Nat.not_lt_zero _)
              · exact q.2
            subst hj0
            split at h
            · rename_i hin
              intro H locs lsA hl hP hS
              exact va_sld hx hb x1 x2 x3 hS (am_in_vp hin) hd (kw h hls (t2 trivial (t1 (t1 hst))) H locs lsA hl hP hS)
            · cases h
          | false =>
            rw [hk9] at h
            simp only [cond_false] at h
            split at h
            · rename_i n hk2
              split at h
              · rename_i hin
                exact am_s_iald C' hk2 (am_ok_at (t1 hst _ List.mem_cons_self) hk2) hin hd (kw h hls (t2 trivial (t1 (t1 hst))))
              · cases h
            · cases h
      · cases h
    | iastore =>
      dsimp only at h
      simp only [am_chk, decide_eq_true_eq, Bool.and_eq_true] at hc
      subst hc
      split at h
      · split at h
        · rename_i n hk2
          split at h
          · rename_i hin
            exact am_s_iast C' hk2 (am_ok_at (t1 (t1 hst) _ List.mem_cons_self) hk2) hin hd (kw h hls (t1 (t1 (t1 hst))))
          · cases h
        · cases h
      · cases h
    | baload =>
      dsimp only at h
      simp only [am_chk, decide_eq_true_eq, Bool.and_eq_true] at hc
      subst hc
      split at h
      · split at h
        · rename_i n hk2
          split at h
          · rename_i hin
            exact am_s_baload C' hk2 (am_ok_at (t1 hst _ List.mem_cons_self) hk2) hin hd (kw h hls (t2 trivial (t1 (t1 hst))))
          · cases h
        · cases h
      · cases h
    | bastore =>
      dsimp only at h
      simp only [am_chk, decide_eq_true_eq, Bool.and_eq_true] at hc
      subst hc
      split at h
      · split at h
        · rename_i n hk2
          split at h
          · rename_i hin
            exact am_s_bast C' hk2 (am_ok_at (t1 (t1 hst) _ List.mem_cons_self) hk2) hin.1 hin.2 hd (kw h hls (t1 (t1 (t1 hst))))
          · cases h
        · cases h
      · cases h
    | laload =>
      dsimp only at h
      simp only [am_chk, decide_eq_true_eq, Bool.and_eq_true] at hc
      subst hc
      split at h
      · split at h
        · rename_i n hk2
          split at h
          · rename_i hin
            exact am_s_laload C' hk2 (am_ok_at (t1 hst _ List.mem_cons_self) hk2) hin hd (kw h hls (t2 trivial (t1 (t1 hst))))
          · cases h
        · cases h
      · cases h
    | lastore =>
      dsimp only at h
      simp only [am_chk, decide_eq_true_eq, Bool.and_eq_true] at hc
      subst hc
      split at h
      · split at h
        · rename_i n hk2
          split at h
          · rename_i hin
            exact am_s_last C' hk2 (am_ok_at (t1 (t1 hst) _ List.mem_cons_self) hk2) hin hd (kw h hls (t1 (t1 (t1 hst))))
          · cases h
        · cases h
      · cases h
    | aaload =>
      dsimp only at h
      simp only [am_chk, decide_eq_true_eq, Bool.and_eq_true] at hc
      subst hc
      split at h
      · rename_i x k j r
        split at h
        · rename_i e1 n1 hk2
          split at h
          · rename_i hin
            refine am_s_aald C' hk2 (am_ok_at (t1 hst _ List.mem_cons_self) hk2) hin hd (kw h hls (t2 (Or.inl ?_) (t1 (t1 hst))))
            have hv := am_ar_ct k (am_ar_lt hk2) e1 n1 hk2
            have := hin.2
            have h0 := hin.1
            show x.toNatClampNeg < am_ct e1
            have : x.toNatClampNeg = x.toInt.toNat := rfl
            omega
          · cases h
        · cases h
      · cases h
    | invokestatic idx =>
      dsimp only at h
      simp only [am_chk, decide_eq_true_eq, Bool.and_eq_true] at hc
      subst hc
      cases hq : (Nat.beq (st.take b).length b && Nat.ble (am_wt (st.drop b)) 8) with
      | false => rw [hq] at h; cases h
      | true =>
        rw [hq] at h
        simp only [Bool.and_eq_true] at hq
        simp only [cond_true] at h
        have q1 := Nat.eq_of_beq_eq_true hq.1
        have q2 := Nat.le_of_ble_eq_true hq.2
        have hav : ∀ v ∈ (st.take b).reverse, am_ok v := fun v hv => hst v (List.mem_of_mem_take (List.mem_reverse.mp hv))
        have hre : ∀ v ∈ st.drop b, am_ok v := fun v hv => hst v (List.mem_of_mem_drop hv)
        have est : (st.take b).reverse.reverse ++ st.drop b = st := by rw [List.reverse_reverse, List.take_append_drop]
        unfold am_ret at h
        unfold am_call at h
        cases hF : cs[a]? with
        | none => rw [hF] at h; cases h
        | some F =>
          rw [hF] at h
          simp only at h
          obtain ⟨q, hq3, hCal⟩ := hcs a F hF
          have hln : (st.take b).reverse.length = q.2.2.2.2.1 := by rw [List.length_reverse, q1]; exact (hcv pc _ _ _ _ _ q hat hq3).1 idx rfl
          cases hR : F (st.take b).reverse M with
          | none => rw [hR] at h; cases h
          | some res =>
            obtain ⟨ro, M1⟩ := res
            rw [hR] at h
            cases ro with
            | inl r =>
              simp only at h
              cases hvv : am_okv r with
              | false => rw [hvv] at h; cases h
              | true =>
              rw [hvv] at h
              simp only [cond_true] at h
              have hro := am_okv_ok hvv
              rw [← est]
              refine am_s_call C' (a := a) (b := b) (z := z) (idx := idx) (gc := gc) (gs := gs) hCal hroom (Or.inl ⟨rfl, ⟨fun w hw2 => hw w (by simp only [am_need]; rw [hq3]; exact List.mem_append_left _ hw2), am_lnk hq3 hw⟩, hln⟩) hd hR hav hre q2 (hK _ _ _ _ h hls (fun v hv => ?_))
              rcases List.mem_append.mp hv with h1 | h1
              · exact hro v (by cases r <;> simp at h1 ⊢; exact h1.symm)
              · exact hre v h1
            | inr E =>
              simp only at h
              rw [← est]
              refine hthr pc _ a b z ls _ _ M M1 E F hat hF hR ⟨Or.inl ⟨idx, rfl⟩, by rw [List.length_reverse]; exact q1, q2⟩ ?_ hls hav hre
              cases hcq : am_catch hs pc E with
              | none => rw [hcq] at h; cases h; exact Or.inl ⟨rfl, rfl, rfl⟩
              | some v => rw [hcq] at h; cases h; exact Or.inr ⟨v, rfl, rfl, rfl⟩
    | invokevirtual idx =>
      dsimp only at h
      simp only [am_chk, decide_eq_true_eq, Bool.and_eq_true] at hc
      obtain ⟨rfl, -⟩ := hc
      split at h
      · rename_i k2 k j as hta
        cases hq : (Nat.beq k k2 && Nat.beq (st.take b).length b && Nat.ble (am_wt (st.drop b)) 8) with
        | false => rw [hq] at h; cases h
        | true =>
          rw [hq] at h
          simp only [Bool.and_eq_true] at hq
          simp only [cond_true] at h
          have q0 := Nat.eq_of_beq_eq_true hq.1.1
          subst q0
          have q1 := Nat.eq_of_beq_eq_true hq.1.2
          have q2 := Nat.le_of_ble_eq_true hq.2
          have hav : ∀ v ∈ (.inr (k, j) :: as : List am_V), am_ok v := fun v hv => hst v (List.mem_of_mem_take (List.mem_reverse.mp (by rw [hta]; exact hv)))
          have hre : ∀ v ∈ st.drop b, am_ok v := fun v hv => hst v (List.mem_of_mem_drop hv)
          have est : (.inr (k, j) :: as : List am_V).reverse ++ st.drop b = st := by rw [← hta, List.reverse_reverse, List.take_append_drop]
          have hl1 : (.inr (k, j) :: as : List am_V).length = b := by rw [← hta, List.length_reverse]; exact q1
          unfold am_ret at h
          unfold am_call at h
          cases hF : cs[a]? with
          | none => rw [hF] at h; cases h
          | some F =>
            rw [hF] at h
            simp only at h
            obtain ⟨q, hq3, hCal⟩ := hcs a F hF
            obtain ⟨hn1, hn2⟩ := (hcv pc _ _ _ _ _ q hat hq3).2 idx k rfl rfl
            cases hR : F (.inr (k, j) :: as) M with
            | none => rw [hR] at h; cases h
            | some res =>
              obtain ⟨ro, M1⟩ := res
              rw [hR] at h
              cases ro with
              | inl r =>
                simp only at h
                cases hvv : am_okv r with
                | false => rw [hvv] at h; cases h
                | true =>
                rw [hvv] at h
                simp only [cond_true] at h
                have hro := am_okv_ok hvv
                rw [← est]
                refine am_s_call C' (a := a) (b := b) (z := .ref k) (idx := idx) (gc := gc) (gs := gs) hCal hroom (Or.inr ⟨rfl, fun w hw2 => hw w (by simp only [am_need]; rw [hq3]; exact hw2), k, j, as, rfl, by rw [List.length_cons] at hl1; omega, hn2⟩) hd hR hav hre q2 (hK _ _ _ _ h hls (fun v hv => ?_))
                rcases List.mem_append.mp hv with h1 | h1
                · exact hro v (by cases r <;> simp at h1 ⊢; exact h1.symm)
                · exact hre v h1
              | inr E =>
                simp only at h
                rw [← est]
                refine hthr pc _ a b (.ref k) ls _ _ M M1 E F hat hF hR ⟨Or.inr ⟨idx, k, j, as, rfl, rfl, rfl⟩, hl1, q2⟩ ?_ hls hav hre
                cases hcq : am_catch hs pc E with
                | none => rw [hcq] at h; cases h; exact Or.inl ⟨rfl, rfl, rfl⟩
                | some v => rw [hcq] at h; cases h; exact Or.inr ⟨v, rfl, rfl, rfl⟩
      · cases h
    | return_ =>
      dsimp only at h
      simp only [am_chk, decide_eq_true_eq] at hc
      subst hc
      cases hf : am_fin rt .return_ ls st with
      | none => rw [hf] at h; cases h
      | some o2 => rw [hf] at h; cases h; exact hfin pc _ a b z ls st hat hf hls hst
    | ireturn =>
      dsimp only at h
      simp only [am_chk, decide_eq_true_eq] at hc
      subst hc
      cases hf : am_fin rt .ireturn ls st with
      | none => rw [hf] at h; cases h
      | some o2 => rw [hf] at h; cases h; exact hfin pc _ a b z ls st hat hf hls hst
    | lreturn =>
      dsimp only at h
      simp only [am_chk, decide_eq_true_eq] at hc
      subst hc
      cases hf : am_fin rt .lreturn ls st with
      | none => rw [hf] at h; cases h
      | some o2 => rw [hf] at h; cases h; exact hfin pc _ a b z ls st hat hf hls hst
    | areturn =>
      dsimp only at h
      simp only [am_chk, decide_eq_true_eq] at hc
      subst hc
      cases hf : am_fin rt .areturn ls st with
      | none => rw [hf] at h; cases h
      | some o2 => rw [hf] at h; cases h; exact hfin pc _ a b z ls st hat hf hls hst
    | _ => simp [am_fin] at h
theorem am_run_ok (C : am_Cx p s m args c dC dI ad cy cc own nL) {cs : List am_F} {hs : List (Nat × Nat × String × Value)} {rt : Nat} {X : Nat × (Nat → Int32)} {P : am_P} {ci : List am_C} {gc gs : Nat}
    (hrow : ∀ (pc : Nat) (r : am_Row), am_at P pc = some r → decode cc pc = .ok (r.1, r.2.1) ∧ am_chk nL pc r = true ∧ ∀ w ∈ am_need own ci r, w ∈ am_U)
    (hcs : ∀ (a : Nat) (F : am_F), cs[a]? = some F → ∃ q : am_C, ci[a]? = some q ∧ am_Cal l dC dI ad cy R gc gs q F)
    (hcv : ∀ (pc : Nat) (i : Instr) (len a b : Nat) (z : Value) (q : am_C), am_at P pc = some (i, len, a, b, z) → ci[a]? = some q → (∀ idx, i = .invokestatic idx → b = q.2.2.2.2.1) ∧ (∀ idx k, i = .invokevirtual idx → z = .ref k → b = q.2.2.2.2.1 + 1 ∧ q.2.2.2.1 = some k))
    (hX : am_Sc rt ad X s) {o : am_O} {Mf : am_M} {Cm Sm : Nat} (hCm : Cm ≤ R.cells) (hSm : Sm ≤ R.slots)
    (hfin : ∀ (cells slots pc : Nat) (i : Instr) (a b : Nat) (z : Value) (ls st : List am_V), cells ≤ Cm → slots ≤ Sm → am_at P pc = some (i, 1, a, b, z) → am_fin rt i ls st = some o → (∀ v ∈ ls, am_ok v) → (∀ v ∈ st, am_ok v) → am_Wp p l e R s m args below meth c Q dC dI ad cy nL cells slots pc ls st Mf)
    (hthr : ∀ (cells slots pc : Nat) (i : Instr) (a b : Nat) (z : Value) (ls av rest : List am_V) (M M1 : am_M) (E : String) (F : am_F), cells ≤ Cm → slots ≤ Sm → am_at P pc = some (i, 3, a, b, z) → cs[a]? = some F → F av M = some (.inr E, M1) → am_Cl i z b av rest → (am_catch hs pc E = none ∧ o = .inr E ∧ Mf = M1 ∨ ∃ v, am_catch hs pc E = some v ∧ o = .inl (some (.inl v)) ∧ Mf = M1) → (∀ v ∈ ls, am_ok v) → (∀ v ∈ av, am_ok v) → (∀ v ∈ rest, am_ok v) → am_Wp p l e R s m args below meth c Q dC dI ad cy nL cells slots pc ls (av.reverse ++ rest) M) :
    ∀ (n cells slots pc : Nat) (ls st : List am_V) (M : am_M), cells + n * gc ≤ Cm → slots + n * gs ≤ Sm → (∀ v ∈ ls, am_ok v) → (∀ v ∈ st, am_ok v) → am_run cs hs rt X P n pc ls st M = some (o, Mf) → am_Wp p l e R s m args below meth c Q dC dI ad cy nL cells slots pc ls st M := by
  intro n
  induction n with
  | zero => intro cells slots pc ls st M _ _ _ _ h; cases h
  | succ n ih =>
    intro cells slots pc ls st M h1 h2 h3 h4 h
    rw [Nat.succ_mul] at h1 h2
    exact am_step_ok C hrow hcs hcv hX ⟨by omega, by omega⟩ (fun pc' ls' st' M' hk q1 q2 => ih (cells + gc) (slots + gs) pc' ls' st' M' (by omega) (by omega) q1 q2 hk)
      (fun pc' i a b z ls' st' => hfin cells slots pc' i a b z ls' st' (by omega) (by omega)) (fun pc' i a b z ls' av rest M' M1 E F => hthr cells slots pc' i a b z ls' av rest M' M1 E F (by omega) (by omega)) pc ls st M h3 h4 h
end AMU
