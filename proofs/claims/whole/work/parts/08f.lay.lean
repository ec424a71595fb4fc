/-! ===== how a method's rows are laid before am_meth_ok ===== -/
theorem am_find_mem : ∀ {l : List (Nat × am_Row)} {pc : Nat} {r : am_Row}, am_find l pc = some r → (pc, r) ∈ l
  | [], _, _, h => by cases h
  | q :: l, pc, r, h => by
    unfold am_find at h
    cases hb : Nat.beq q.1 pc with
    | true => rw [hb] at h; cases h; have := Nat.eq_of_beq_eq_true hb; subst this; exact List.mem_cons_self
    | false => rw [hb] at h; exact List.mem_cons_of_mem _ (am_find_mem h)
theorem am_at_mem {P : am_P} {pc : Nat} {r : am_Row} (h : am_at P pc = some r) : ∃ l ∈ P, (pc, r) ∈ l := by
  unfold am_at at h
  cases hq : P[pc / 16]? with
  | none => rw [hq] at h; cases h
  | some l => rw [hq] at h; exact ⟨l, List.mem_of_getElem? hq, am_find_mem h⟩
theorem am_rows_of {P : am_P} {cc : ByteArray} {nL : Nat} {own : String} {ci : List am_C} (h : P.all (fun l => l.all (fun q => decide (decode cc q.1 = .ok (q.2.1, q.2.2.1)) && am_chk nL q.1 q.2)) = true) (hw : ∀ l ∈ P, ∀ q ∈ l, ∀ w ∈ am_need own ci q.2, w ∈ am_U) :
    ∀ (pc : Nat) (r : am_Row), am_at P pc = some r → decode cc pc = .ok (r.1, r.2.1) ∧ am_chk nL pc r = true ∧ ∀ w ∈ am_need own ci r, w ∈ am_U := by
  intro pc r hr
  obtain ⟨l, h1, h2⟩ := am_at_mem hr
  have h3 := List.all_eq_true.mp (List.all_eq_true.mp h l h1) _ h2
  simp only [Bool.and_eq_true, decide_eq_true_eq] at h3
  exact ⟨h3.1, h3.2, hw l h1 _ h2⟩
theorem am_inU {w : Cond} (i : Nat) (h : lw_tbl[i]? = some w) (hg : goodWord w = true) : w ∈ am_U := List.mem_filter.mpr ⟨List.mem_of_getElem? h, hg⟩
theorem am_words_of {P : am_P} {own : String} {ci : List am_C} (ps : List Nat) (h : P.flatMap (fun l => l.flatMap (fun q => am_need own ci q.2)) = ps.filterMap (fun i => lw_tbl[i]?)) (hg : (P.flatMap (fun l => l.flatMap (fun q => am_need own ci q.2))).all goodWord = true) : ∀ l ∈ P, ∀ q ∈ l, ∀ w ∈ am_need own ci q.2, w ∈ am_U := by
  intro l hl q hq w hw
  have hm : w ∈ P.flatMap (fun l => l.flatMap (fun q => am_need own ci q.2)) := List.mem_flatMap.mpr ⟨l, hl, List.mem_flatMap.mpr ⟨q, hq, hw⟩⟩
  have hg2 := List.all_eq_true.mp hg w hm
  rw [h] at hm
  obtain ⟨i, -, hi⟩ := List.mem_filterMap.mp hm
  exact am_inU i hi hg2
def am_chv (ci : List am_C) (r : am_Row) : Bool := match r with
  | (i, _, a, b, z) => match i with
    | .invokestatic _ => (match ci[a]? with | some q => Nat.beq b q.2.2.2.2.1 | none => true)
    | .invokevirtual _ => (match z, ci[a]? with | .ref k, some q => Nat.beq b (q.2.2.2.2.1 + 1) && decide (q.2.2.2.1 = some k) | _, _ => true)
    | _ => true
theorem am_cv_of {P : am_P} {ci : List am_C} (h : P.all (fun l => l.all (fun q => am_chv ci q.2)) = true) : ∀ (pc : Nat) (i : Instr) (len a b : Nat) (z : Value) (q : am_C), am_at P pc = some (i, len, a, b, z) → ci[a]? = some q → (∀ idx, i = .invokestatic idx → b = q.2.2.2.2.1) ∧ (∀ idx k, i = .invokevirtual idx → z = .ref k → b = q.2.2.2.2.1 + 1 ∧ q.2.2.2.1 = some k) := by
  intro pc i len a b z q hr hq
  obtain ⟨l, h1, h2⟩ := am_at_mem hr
  have h3 := List.all_eq_true.mp (List.all_eq_true.mp h l h1) _ h2
  refine ⟨fun idx hi => ?_, fun idx k hi hz => ?_⟩
  · subst hi
    simp only [am_chv, hq] at h3
    exact Nat.eq_of_beq_eq_true h3
  · subst hi
    subst hz
    simp only [am_chv, hq, Bool.and_eq_true, decide_eq_true_eq] at h3
    exact ⟨Nat.eq_of_beq_eq_true h3.1, h3.2⟩
theorem am_cs_nil {l : Launch} {dC : Nat → ClassId} {dI ad : Nat → Nat → Nat} {cy : Nat → ClassId} {R : Room} {gc gs : Nat} : ∀ (a : Nat) (F : am_F), ([] : List am_F)[a]? = some F → ∃ q : am_C, ([] : List am_C)[a]? = some q ∧ am_Cal l dC dI ad cy R gc gs q F := fun a F h => by simp at h
theorem am_cs_cons {l : Launch} {dC : Nat → ClassId} {dI ad : Nat → Nat → Nat} {cy : Nat → ClassId} {R : Room} {gc gs : Nat} {F0' : am_F} {q0 : am_C} {cs : List am_F} {ci : List am_C} (h : am_Cal l dC dI ad cy R gc gs q0 F0') (t : ∀ (a : Nat) (F : am_F), cs[a]? = some F → ∃ q : am_C, ci[a]? = some q ∧ am_Cal l dC dI ad cy R gc gs q F) :
    ∀ (a : Nat) (F : am_F), (F0' :: cs)[a]? = some F → ∃ q : am_C, (q0 :: ci)[a]? = some q ∧ am_Cal l dC dI ad cy R gc gs q F
  | 0, F, h2 => by cases h2; exact ⟨q0, rfl, h⟩
  | a + 1, F, h2 => t a F h2
