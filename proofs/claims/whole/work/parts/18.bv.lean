section BMV
variable {l : Launch} {dC : Nat → ClassId} {dI : Nat → Nat → Nat} {B : Nat} {cy : Nat → ClassId}
theorem bm_meth_ok {y : MethodName} {cc : ByteArray} {nL N : Nat} {rm : Room} {cs : List (bm_F × Nat × Nat)} {ci : List bm_C} {P : am_P} (hy : plainName y.cls = true) (hnm : y.name = "<init>") (ho : ∃ k, k < 11 ∧ y.cls = am_N k)
    (hrow : ∀ (pc : Nat) (r : am_Row), am_at P pc = some r → decode cc pc = .ok (r.1, r.2.1) ∧ bm_chk nL pc r = true ∧ ∀ w ∈ bm_need y.cls ci r, w ∈ am_U)
    (hput : ∀ (pc : Nat) (k len a b : Nat) (z : Value), am_at P pc = some (.putfield k, len, a, b, z) → y.cls = am_N b)
    (hcs : ∀ (a : Nat) (F : bm_F × Nat × Nat), cs[a]? = some F → ∃ q : bm_C, ci[a]? = some q ∧ bm_Cal l dC dI B cy rm q F)
    (hfr1 : 1 ≤ rm.frames) (hlo1 : 20 ≤ rm.locals) : bm_Ok l dC dI B cy y (.code y cc nL none) rm (bm_meth cs rm.cells rm.slots nL N P) := by
  intro j M M' hF
  unfold bm_meth at hF
  split at hF
  · rename_i Mf nc ns hrun
    cases hq : (Nat.ble nc rm.cells && Nat.ble ns rm.slots && Nat.blt 0 nL) with
    | false => rw [hq] at hF; cases hF
    | true =>
      rw [hq] at hF
      simp only [Bool.and_eq_true] at hq
      obtain ⟨⟨q1, q2⟩, q3⟩ := hq
      have q1 := Nat.le_of_ble_eq_true q1
      have q2 := Nat.le_of_ble_eq_true q2
      have q3 := Nat.blt_eq.mp q3
      cases hF
      refine Met.ofW (cc := cc) (maxL := nL) (ret := none) hy rfl ?_
      intro p e s m args below meth c s₁ Bd hml hv
      obtain ⟨rfl, hsz, hP, hK, hNk⟩ := hv
      have hx := Bd.exec
      have hb := Bd.bytes
      have hr := Bd.returns
      have hlocks := Bd.notSynchronized
      have hts0 := atoms_spec (ws := Cond.code y cc nL none :: am_U) Bd.pre
      have hown : s.vm.findClass y.cls = some m.cls := findClass_of_methodNamed Bd.named
      have hin : meth.name = "<init>" := (name_of_methodNamed Bd.named Bd.method).1.trans hnm
      have C : bm_Cx p s m ([Value.ref (B + j)] : List Value).toArray c meth dC dI B cy cc y.cls nL := ⟨hx, hb, hml, hown, fun w hw => hts0 w (List.mem_cons_of_mem _ hw), hK, hNk, by rw [hsz]; exact Nat.le_add_right _ _, fun _ => hin⟩
      have hl := lv_entry ([Value.ref (B + j)] : List Value) (n := nL) (by show 1 ≤ nL; omega)
      rw [lg_entry_eq]
      have hok : ∀ v ∈ am_ent nL [.inr (0, j)], bm_ok v := by
        intro v hv
        rcases List.mem_append.mp hv with h | h
        · rcases List.mem_cons.mp h with rfl | h
          · exact trivial
          · cases h
        · rw [List.eq_of_mem_replicate h]; exact trivial
      refine bm_run_ok (Q := MQ below (bm_Q dC dI B cy M') ([Value.ref (B + j)] : List Value).toArray s rm.cells rm.slots (bm_A B)) (R := (headSpec (Cond.code y cc nL none :: am_U) rm).room) C ho hrow hput hcs hfr1 hlo1 (Mf := M') (nf := nc) (sf := ns) ?_ N 0 (am_ent nL [.inr (0, j)]) [] M 0 0 hok (fun _ h => nomatch h) hrun s.heap [] _ ?_ hsz hP va_S.rf
      · intro pc a b z ls hat H locs lsA hl hz hP hS
        obtain ⟨hd, -, -⟩ := hrow pc _ hat
        exact W.widen q1 q2 (W.vret hx hb hr (fun t ht _ => ⟨rfl, by rw [ht]; exact hz, by rw [ht]; exact hP, hS.F ht⟩) hS.2.2 hd hlocks)
      · refine ⟨hl.1, hl.2.1, fun q hq => hl.2.2 q ?_⟩
        unfold am_ent at hq
        rw [am_lv_rep] at hq
        exact hq
  · cases hF
theorem bm_rows_of {P : am_P} {cc : ByteArray} {nL : Nat} {own : String} {ci : List bm_C} (h : P.all (fun l => l.all (fun q => decide (decode cc q.1 = .ok (q.2.1, q.2.2.1)) && bm_chk nL q.1 q.2)) = true) (hw : ∀ l ∈ P, ∀ q ∈ l, ∀ w ∈ bm_need own ci q.2, w ∈ am_U) :
    ∀ (pc : Nat) (r : am_Row), am_at P pc = some r → decode cc pc = .ok (r.1, r.2.1) ∧ bm_chk nL pc r = true ∧ ∀ w ∈ bm_need own ci r, w ∈ am_U := by
  intro pc r hr
  obtain ⟨l, h1, h2⟩ := am_at_mem hr
  have h3 := List.all_eq_true.mp (List.all_eq_true.mp h l h1) _ h2
  simp only [Bool.and_eq_true, decide_eq_true_eq] at h3
  exact ⟨h3.1, h3.2, hw l h1 _ h2⟩
theorem bm_words_of {P : am_P} {own : String} {ci : List bm_C} (ps : List Nat) (h : P.flatMap (fun l => l.flatMap (fun q => bm_need own ci q.2)) = ps.filterMap (fun i => lw_tbl[i]?)) (hg : (P.flatMap (fun l => l.flatMap (fun q => bm_need own ci q.2))).all goodWord = true) : ∀ l ∈ P, ∀ q ∈ l, ∀ w ∈ bm_need own ci q.2, w ∈ am_U := by
  intro l hl q hq w hw
  have hm : w ∈ P.flatMap (fun l => l.flatMap (fun q => bm_need own ci q.2)) := List.mem_flatMap.mpr ⟨l, hl, List.mem_flatMap.mpr ⟨q, hq, hw⟩⟩
  have hg2 := List.all_eq_true.mp hg w hm
  rw [h] at hm
  obtain ⟨i, -, hi⟩ := List.mem_filterMap.mp hm
  exact am_inU i hi hg2
theorem bm_put_of {P : am_P} {own : String} (h : P.all (fun l => l.all (fun q => match q.2 with | (.putfield _, _, _, b, _) => decide (own = am_N b) | _ => true)) = true) : ∀ (pc : Nat) (k len a b : Nat) (z : Value), am_at P pc = some (.putfield k, len, a, b, z) → own = am_N b := by
  intro pc k len a b z hr
  obtain ⟨l, h1, h2⟩ := am_at_mem hr
  have h3 := List.all_eq_true.mp (List.all_eq_true.mp h l h1) _ h2
  exact of_decide_eq_true h3
theorem bm_cs_nil {R : Room} : ∀ (a : Nat) (F : bm_F × Nat × Nat), ([] : List (bm_F × Nat × Nat))[a]? = some F → ∃ q : bm_C, ([] : List bm_C)[a]? = some q ∧ bm_Cal l dC dI B cy R q F := fun a F h => by simp at h
theorem bm_cs_cons {R : Room} {F0' : bm_F × Nat × Nat} {q0 : bm_C} {cs : List (bm_F × Nat × Nat)} {ci : List bm_C} (h : bm_Cal l dC dI B cy R q0 F0') (t : ∀ (a : Nat) (F : bm_F × Nat × Nat), cs[a]? = some F → ∃ q : bm_C, ci[a]? = some q ∧ bm_Cal l dC dI B cy R q F) :
    ∀ (a : Nat) (F : bm_F × Nat × Nat), (F0' :: cs)[a]? = some F → ∃ q : bm_C, (q0 :: ci)[a]? = some q ∧ bm_Cal l dC dI B cy R q F
  | 0, F, h2 => by cases h2; exact ⟨q0, rfl, h⟩
  | a + 1, F, h2 => t a F h2
end BMV
