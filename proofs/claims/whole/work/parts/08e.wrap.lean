/-! ===== a method with handlers that call a method which may throw, and return a constant in each handler ===== -/
/-- what stands at a handler: the exception is stored, a constant returned -/
def am_hrow (cc : ByteArray) (nL h : Nat) (v : Value) : Bool := match decode cc h with
  | .ok (.astore k, 2) => decide (k < nL) && (match decode cc (h + 2) with | .ok (.iconst z, 1) => decide (v = .int (Int32.ofInt z)) | _ => false) && decide (decode cc (h + 3) = .ok (.ireturn, 1))
  | .ok (.astore_n k, 1) => decide ((k : Nat) < nL) && (match decode cc (h + 1) with | .ok (.iconst z, 1) => decide (v = .int (Int32.ofInt z)) | _ => false) && decide (decode cc (h + 2) = .ok (.ireturn, 1))
  | _ => false
/-- the small machine's handlers are the table's -/
def am_chh (cc : ByteArray) (nL : Nat) : List (Nat × Nat × String × Value) → List (Nat × Nat × Nat × Nat) → Bool
  | [], [] => true
  | q :: hs, r :: hh => decide (q.1 = r.1 ∧ q.2.1 = r.2.1 ∧ q.2.2.1 ∈ am_ex ∧ r.2.2.2 ≠ 0) && am_hrow cc nL r.2.2.1 q.2.2.2 && am_chh cc nL hs hh
  | _, _ => false
/-- the words of the handlers' classes -/
def am_hw (own : String) : List (Nat × Nat × String × Value) → List (Nat × Nat × Nat × Nat) → List Cond
  | q :: hs, r :: hh => .classLink own r.2.2.2 q.2.2.1 :: am_hw own hs hh
  | _, _ => []
section AMWR
variable {p : Program} {l : Launch} {e : Env} {R : Room} {s : State} {m : MethodId} {args : Array Value} {below : List Frame} {meth : Method} {c : Code} {H : Heap} {locs : List Loc} {cells slots : Nat} {Q : State → Prop} {ls : Array Slot} {rest : List Value} {cc : ByteArray} {own : String} {nL : Nat}
/-- from the handler on -/
theorem am_handler (hx : p.tables.exec = Jvm.exec) (hb : c.code = cc) {h : Nat} {v : Value} (hh : am_hrow cc nL h v = true) {lv : List (Nat × Value)} (hl : lv_has ls nL lv) {q : Addr}
    (kk : ∀ (z : Int32) (pc : Nat) (ls2 : Array Slot), v = .int z → decode cc pc = .ok (.ireturn, 1) → W p l e R s m args below meth c H locs cells slots Q (F0 m pc ls2 [.int z])) : W p l e R s m args below meth c H locs cells slots Q (F0 m h ls [.ref q]) := by
  unfold am_hrow at hh
  split at hh
  · rename_i k hd
    simp only [Bool.and_eq_true, decide_eq_true_eq] at hh
    obtain ⟨⟨h1, h2⟩, h3⟩ := hh
    split at h2
    · rename_i z hz
      simp only [decide_eq_true_eq] at h2
      exact lv_astore hx hb hd hl h1 rfl (fun ls2 _ => lv_iconst hx hb hz rfl (kk _ _ ls2 h2 h3))
    · cases h2
  · rename_i k hd
    simp only [Bool.and_eq_true, decide_eq_true_eq] at hh
    obtain ⟨⟨h1, h2⟩, h3⟩ := hh
    split at h2
    · rename_i z hz
      simp only [decide_eq_true_eq] at h2
      exact lv_astore_n hx hb hd rfl hl h1 rfl (fun ls2 _ => lv_iconst hx hb hz rfl (kk _ _ ls2 h2 h3))
    · cases h2
  · cases hh
/-- the catching row of a table -/
theorem am_find_h {E : String} {v : Value} {pc : Nat} : ∀ {hs : List (Nat × Nat × String × Value)} {hh : List (Nat × Nat × Nat × Nat)}, am_chh cc nL hs hh = true → am_catch hs pc E = some v →
    ∃ pre x suf, tableOf hh = pre ++ x :: suf ∧ (∀ z ∈ pre, covers z pc = false ∨ (z.catchType ≠ 0 ∧ ∃ nm ∈ am_ex, Cond.classLink own z.catchType nm ∈ am_hw own hs hh ∧ E ≠ nm)) ∧ covers x pc = true ∧ x.catchType ≠ 0 ∧ Cond.classLink own x.catchType E ∈ am_hw own hs hh ∧ E ∈ am_ex ∧ am_hrow cc nL x.handlerPc v = true
  | [], _, _, h => by cases h
  | q :: hs, [], h, _ => by cases h
  | q :: hs, r :: hh, h, hc => by
    simp only [am_chh, Bool.and_eq_true, decide_eq_true_eq] at h
    obtain ⟨⟨⟨h1, h2, h3, h4⟩, h5⟩, h6⟩ := h
    obtain ⟨q1, q2, q3, q4⟩ := q
    obtain ⟨r1, r2, r3, r4⟩ := r
    simp only at h1 h2 h3 h4 h5
    subst h1; subst h2
    unfold am_catch at hc
    by_cases hk : q1 ≤ pc ∧ pc < q2 ∧ q3 = E
    · rw [if_pos hk] at hc
      cases hc
      obtain ⟨k1, k2, rfl⟩ := hk
      refine ⟨[], ⟨q1, q2, r3, r4⟩, tableOf hh, rfl, (fun _ h => (nomatch h)), ?_, h4, List.mem_cons_self, h3, h5⟩
      simp [covers, k1, k2]
    · rw [if_neg hk] at hc
      obtain ⟨pre, x, suf, g1, g2, g3, g4, g5, g6, g7⟩ := am_find_h h6 hc
      refine ⟨⟨q1, q2, r3, r4⟩ :: pre, x, suf, by show _ :: tableOf hh = _; rw [g1]; rfl, fun z hz => ?_, g3, g4, List.mem_cons_of_mem _ g5, g6, g7⟩
      rcases List.mem_cons.mp hz with rfl | hz
      · by_cases hcv : q1 ≤ pc ∧ pc < q2
        · exact Or.inr ⟨h4, q3, h3, List.mem_cons_self, fun e => hk ⟨hcv.1, hcv.2, e.symm⟩⟩
        · refine Or.inl ?_
          simp only [covers, Bool.and_eq_false_iff, decide_eq_false_iff_not]
          by_cases h9 : q1 ≤ pc
          · exact Or.inr (fun h8 => hcv ⟨h9, h8⟩)
          · exact Or.inl h9
      · rcases g2 z hz with h | ⟨a1, nm, a2, a3, a4⟩
        · exact Or.inl h
        · exact Or.inr ⟨a1, nm, a2, List.mem_cons_of_mem _ a3, a4⟩
end AMWR
section AMWS
variable {l : Launch} {dC : Nat → ClassId} {dI : Nat → Nat → Nat} {ad : Nat → Nat → Nat} {cy : Nat → ClassId}
theorem am_wrap_ok {y : MethodName} {cc : ByteArray} {nL N : Nat} {rm : Room} {cs : List am_F} {ci : List am_C} {P : am_P} {hs : List (Nat × Nat × String × Value)} {hh : List (Nat × Nat × Nat × Nat)} (hy : plainName y.cls = true) (hrm : rm.cells = 1 ∧ rm.slots = 6)
    (hrow : ∀ (pc : Nat) (r : am_Row), am_at P pc = some r → decode cc pc = .ok (r.1, r.2.1) ∧ am_chk nL pc r = true ∧ ∀ w ∈ am_need y.cls ci r, w ∈ am_U)
    (hcs : ∀ (a : Nat) (F : am_F), cs[a]? = some F → ∃ q : am_C, ci[a]? = some q ∧ am_Cal l dC dI ad cy rm 0 0 q F)
    (hcT : ∀ (a : Nat) (F : am_F) (q : am_C), cs[a]? = some F → ci[a]? = some q → (∃ av M E M', F av M = some (.inr E, M')) → am_CalT l dC dI ad cy rm q F ∧ ∀ idx, (y.cls, idx, q.1, RX9) ∉ am_nl)
    (hcv : ∀ (pc : Nat) (i : Instr) (len a b : Nat) (z : Value) (q : am_C), am_at P pc = some (i, len, a, b, z) → ci[a]? = some q → (∀ idx, i = .invokestatic idx → b = q.2.2.2.2.1) ∧ (∀ idx k, i = .invokevirtual idx → z = .ref k → b = q.2.2.2.2.1 + 1 ∧ q.2.2.2.1 = some k))
    (hchh : am_chh cc nL hs hh = true) (hhw : ∀ w ∈ am_hw y.cls hs hh, w ∈ am_U) (hcast : ∀ E ∈ am_ex, Cond.castable E E ∈ am_xw) :
    am_Ok l dC dI ad cy y (.codeWith y cc nL (some .int) hh) rm (am_meth cs hs 1 nL N P) := by
  intro av M M' r hav hF
  unfold am_meth at hF
  cases hle : Nat.ble (am_lay av).length nL with
  | false => rw [hle] at hF; cases hF
  | true =>
    rw [hle] at hF
    simp only [cond_true] at hF
    have hle := Nat.le_of_ble_eq_true hle
    rw [hrm.1, hrm.2]
    refine va_MetW (cc := cc) (maxL := nL) (ret := some .int) (hh := hh) hy rfl ?_
    intro p e s m args below meth c s₁ B hml hv
    obtain ⟨rfl, hP, hK, hD, hRo, hNk⟩ := hv
    have hx := B.exec
    have hb := B.bytes
    have hr := B.returns
    have hlocks := B.notSynchronized
    have hts0 := atoms_spec (ws := Cond.codeWith y cc nL (some .int) hh :: am_U) B.pre
    have htab : c.exceptionTable.toList = tableOf hh := vx_table (x := y) B (hts0 _ List.mem_cons_self)
    have hts : ∀ w ∈ am_U, w.before (av.map (am_co ad)).toArray s = true := fun w hw => hts0 w (List.mem_cons_of_mem _ hw)
    have hown : s.vm.findClass y.cls = some m.cls := findClass_of_methodNamed B.named
    have C : am_Cx p s m (av.map (am_co ad)).toArray c dC dI ad cy cc y.cls nL := ⟨hx, hb, hml, hown, hts, hK, fun M2 => am_D_of hD (fun _ _ _ h => h) M2, hRo, hNk⟩
    have hl := lv_entry (av.map (am_co ad)) (n := nL) (by rw [am_lay_len hav]; exact hle)
    rw [lg_entry_eq]
    refine am_run_ok (Q := MQ below (am_Q dC dI ad cy r M') (av.map (am_co ad)).toArray s 1 6 (am_A ad)) (o := .inl r) (Mf := M') (Cm := 0) (Sm := 0) (gc := 0) (gs := 0) C hrow hcs hcv ?_ (Nat.zero_le _) (Nat.zero_le _) ?_ ?_ N 0 0 0 (am_ent nL av) [] M (by omega) (by omega) (am_ent_ok hav) (fun _ h => nomatch h) hF s.heap [] _ ?_ hP va_S.rf
    · intro h5
      cases h5
    · intro cells slots pc i a b z ls st h1 h2 hat hf hls hst H locs lsA hl hP hS
      obtain ⟨hd, -, -⟩ := hrow pc _ hat
      simp only at hd
      have hq : ∀ t : State, t.heap = H → s.WarmedH t.vm → am_Q dC dI ad cy r M' (av.map (am_co ad)).toArray s (.returned (r.map (am_co ad))) t := fun t ht _ => ⟨rfl, by rw [ht]; exact hP, hS.F ht⟩
      cases i with
      | ireturn =>
        simp only [am_fin] at hf
        split at hf
        · rename_i x
          have hf' : some (Sum.inl (some (Sum.inl (Value.int x))) : am_O) = some (.inl r) := hf
          cases hf'
          exact W.widen (k := 1) (n := 6) (by omega) (by omega) (W.iret hx hb hr hq hS.2.2 hd hlocks)
        · cases hf
      | return_ => simp only [am_fin] at hf; split at hf <;> cases hf
      | lreturn => simp only [am_fin] at hf; split at hf <;> cases hf
      | areturn => simp only [am_fin] at hf; split at hf <;> cases hf
      | _ => simp [am_fin] at hf
    · intro cells slots pc i a b z ls av2 rest M2 M1 E2 F h1 h2 hat hF2 hR hCl ho hls hav2 hre
      obtain rfl : cells = 0 := by omega
      obtain rfl : slots = 0 := by omega
      rcases ho with ⟨-, h, -⟩ | ⟨v, hcq, h, hMM⟩
      · cases h
      · subst hMM
        cases h
        obtain ⟨hd, -, hw⟩ := hrow pc _ hat
        obtain ⟨q, hq3, -⟩ := hcs a F hF2
        obtain ⟨hCT, hnn⟩ := hcT a F q hF2 hq3 ⟨_, _, _, _, hR⟩
        obtain ⟨hcl, hlen, hwt⟩ := hCl
        obtain ⟨pre, x, suf, g1, g2, g3, g4, g5, g6, g7⟩ := am_find_h (own := y.cls) hchh hcq
        have hrc : 0 + 1 ≤ (headSpec (Cond.codeWith y cc nL (some .int) hh :: am_U) rm).room.cells ∧ 0 + 6 ≤ (headSpec (Cond.codeWith y cc nL (some .int) hh :: am_U) rm).room.slots := ⟨Nat.le_of_eq hrm.1.symm, Nat.le_of_eq hrm.2.symm⟩
        have fin : ∀ (H1 : Heap) (locs1 : List Loc) (lsA : Array Slot) (q9 : Addr) (ce : Cell), lv_has lsA nL (am_lv ad 0 ls) → va_P (dC, dI) vwCl (am_W ad cy M') H1 → va_S (am_A ad) s.heap H1 locs1 → H1[q9]? = some ce → ce.vm = .none → s.vm.findClass E2 = some ce.cls → vx_W p l e (headSpec (Cond.codeWith y cc nL (some .int) hh :: am_U) rm).room s m (av.map (am_co ad)).toArray below meth c H1 locs1 (0 + 1) (0 + 6) (MQ below (am_Q dC dI ad cy (some (.inl v)) M') (av.map (am_co ad)).toArray s 1 6 (am_A ad)) (F0 m pc lsA (rest.map (am_co ad))) q9 := by
          intro H1 locs1 lsA q9 ce hl1 hP1 hS1 hce hcv1 hcl2
          refine am_catchW hown pre x suf (htab.trans g1) (fun z hz => ?_) g3 g4 (hts _ (hhw _ g5)) (va_Nw.use rfl (hNk.2.1 _ (hcast E2 g6))) hce hcv1 hcl2 ?_
          · rcases g2 z hz with h | ⟨a1, nm, a2, a3, a4⟩
            · exact Or.inl h
            · exact Or.inr ⟨a1, nm, hts _ (hhw _ a3), hNk.2.2 E2 g6 nm a2 a4⟩
          · refine am_handler hx hb g7 hl1 (fun z9 pc9 ls9 hz9 hd9 => ?_)
            subst hz9
            exact W.iret hx hb hr (fun t ht _ => ⟨rfl, by rw [ht]; exact hP1, hS1.F ht⟩) hS1.2.2 hd9 hlocks
        rcases hcl with ⟨idx, rfl⟩ | ⟨idx, k, j, as, rfl, rfl, rfl⟩
        · refine am_s_callT C (idx := idx) hCT hrc (Or.inl ⟨rfl, ⟨fun w hw2 => hw w (by simp only [am_need]; rw [hq3]; exact List.mem_append_left _ hw2), ?_⟩, ?_⟩) hd hR hav2 hre hwt fin
          · rcases am_lnk hq3 hw with h | h
            · exact h
            · exact absurd h (hnn idx)
          · rw [hlen]; exact (hcv pc _ _ _ _ _ q hat hq3).1 idx rfl
        · obtain ⟨hn1, hn2⟩ := (hcv pc _ _ _ _ _ q hat hq3).2 idx k rfl rfl
          exact am_s_callT C (idx := idx) hCT hrc (Or.inr ⟨rfl, fun w hw2 => hw w (by simp only [am_need]; rw [hq3]; exact hw2), k, j, as, rfl, by rw [List.length_cons] at hlen; omega, hn2⟩) hd hR hav2 hre hwt fin
    · refine ⟨hl.1, hl.2.1, fun q hq => hl.2.2 q (am_lay_args hav q ?_)⟩
      unfold am_ent at hq
      rw [am_lv_rep] at hq
      exact hq
end AMWS
