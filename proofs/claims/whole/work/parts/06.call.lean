/-! ===== one step ===== -/
/-- the arguments of a call, as the small machine takes them -/
def am_Cl (i : Instr) (z : Value) (b : Nat) (av rest : List am_V) : Prop :=
  ((∃ idx, i = .invokestatic idx) ∨ (∃ idx k j as, i = .invokevirtual idx ∧ z = .ref k ∧ av = .inr (k, j) :: as)) ∧ av.length = b ∧ am_wt rest ≤ 8
/-- a callee, as its caller needs it -/
def am_Cal (l : Launch) (dC : Nat → ClassId) (dI : Nat → Nat → Nat) (ad : Nat → Nat → Nat) (cy : Nat → ClassId) (R : Room) (gc gs : Nat) (q : am_C) (F : am_F) : Prop := match q with
  | (y, w, rm, rc, np, mL) => am_Ok l dC dI ad cy y w rm F ∧ w ∈ am_U ∧ rm.cells ≤ gc ∧ rm.slots ≤ gs ∧ rm.frames + 1 ≤ R.frames ∧ 8 + (mL + 11) + rm.locals ≤ R.locals ∧
    (y.cls ≠ "java/lang/invoke/MethodHandle" ∧ y.cls ≠ "java/lang/invoke/VarHandle" ∧ (parseMethodDescriptor y.desc).map (fun d => d.parameters.length) = some np) ∧
    (match rc with | some k => k < 11 ∧ y.cls = am_N k | none => True) ∧ ((∃ bytes ret, w = .code y bytes mL ret) ∨ (rc = none ∧ ∃ bytes ret hh, w = .codeWith y bytes mL ret hh))
section AMT
variable {p : Program} {l : Launch} {e : Env} {R : Room} {s : State} {m : MethodId} {args : Array Value} {below : List Frame} {meth : Method} {c : Code} {Q : State → Prop}
variable {dC : Nat → ClassId} {dI : Nat → Nat → Nat} {ad : Nat → Nat → Nat} {cy : Nat → ClassId} {cc : ByteArray} {own : String} {nL : Nat}
theorem am_co_cat {v : am_V} (h : am_ok v) : (am_co ad v).category ≤ (match v with | .inl (.long _) => 2 | _ => 1) := by
  cases v with
  | inl w => cases w <;> first | exact Nat.le_refl _ | (exact absurd h id)
  | inr q => exact Nat.le_refl _
theorem am_wt_le : ∀ {st : List am_V}, (∀ v ∈ st, am_ok v) → ((st.map (am_co ad)).map fun v => v.category).sum ≤ am_wt st
  | [], _ => Nat.le_refl _
  | v :: l, h => by
    have ih := am_wt_le (st := l) (fun w hw => h w (List.mem_cons_of_mem _ hw))
    have h1 := am_co_cat (ad := ad) (h v List.mem_cons_self)
    rw [List.map_cons, List.map_cons, List.sum_cons]
    cases v with
    | inl w =>
      cases w with
      | long x => show _ ≤ 2 + am_wt l; exact Nat.add_le_add h1 ih
      | int x => show _ ≤ 1 + am_wt l; exact Nat.add_le_add h1 ih
      | null => show _ ≤ 1 + am_wt l; exact Nat.add_le_add h1 ih
      | float x => show _ ≤ 1 + am_wt l; exact Nat.add_le_add h1 ih
      | double x => exact absurd (h _ List.mem_cons_self) id
      | ref x => show _ ≤ 1 + am_wt l; exact Nat.add_le_add h1 ih
      | _ => show _ ≤ 1 + am_wt l; exact Nat.add_le_add h1 ih
    | inr q => show _ ≤ 1 + am_wt l; exact Nat.add_le_add h1 ih
theorem am_back {H : Heap} {locs : List Loc} {cells slots mc ms pc : Nat} {lsA : Array Slot} {st0 rest : List Value} {a' : Array Value} {r : Option am_V} {M' : am_M} (hr : va_Run p l e R s m args below meth c H locs cells slots mc ms (F0 m pc lsA st0) rest (am_Q dC dI ad cy r M' a') (am_A ad)) (hS : va_S (am_A ad) s.heap H locs)
    (kk : ∀ (H1 : Heap) (locs1 : List Loc), va_P (dC, dI) vwCl (am_W ad cy M') H1 → va_S (am_A ad) s.heap H1 locs1 → W p l e R s m args below meth c H1 locs1 (cells + mc) (slots + ms) Q (F0 m (pc + 3) lsA ((r.map (am_co ad)).toList ++ rest))) : W p l e R s m args below meth c H locs cells slots Q (F0 m pc lsA st0) := by
  intro T hT X
  obtain ⟨v, st₀, t, T', L, h0, X', hL, e1, e2, ⟨hv, hP, hz, hk⟩, st⟩ := hr T hT X
  cases hv
  rw [h0] at hz hk
  obtain ⟨t2, a1, b1⟩ := kk T'.heap (locs ++ L) (by rw [e1]; exact hP)
    ⟨Nat.le_trans hS.1 (by rw [e1]; exact hz), fun q h1 h2 => by rw [e1, hk q (Nat.lt_of_lt_of_le h1 hS.1) h2]; exact hS.2.1 q h1 h2, fun q hq => by
      rcases List.mem_append.mp hq with h | h
      · exact hS.2.2 q h
      · exact hL q h⟩ T' rfl X'
  exact ⟨t2, st t2 a1, b1⟩
theorem am_good (q : Cond) (h : q ∈ am_U) : GoodIn am_U (q :: am_U) := fun w hw => by
  rcases List.mem_cons.mp hw with rfl | hw
  · exact ⟨h, good_of_word (List.mem_filter.mp h).2⟩
  · exact ⟨hw, good_of_word (List.mem_filter.mp hw).2⟩
theorem am_pre {C0 : am_Cx p s m args c dC dI ad cy cc own nL} {H : Heap} {locs : List Loc} {M : am_M} {av : List am_V} (hP : va_P (dC, dI) vwCl (am_W ad cy M) H) (hS : va_S (am_A ad) s.heap H locs) : ∀ U : State, U.heap = H → s.WarmedH U.vm → va_Pc (av.map (am_co ad)) (am_St dC dI ad cy M) (av.map (am_co ad)).toArray U := by
  intro U hU hW
  obtain ⟨-, -, -, -, -, hK, hD, hRo, hNk⟩ := C0
  refine ⟨rfl, by rw [hU]; exact hP, va_K.moved hW.alike hK, hD M, ?_, am_Nk.warm hW hNk⟩
  rw [hU]
  exact am_Ro.moved hW.alike (am_Ro.kept hRo hS.2.1)
theorem am_no_cw : ∀ q ∈ am_nl, (lw_tbl.any (fun w => match w with | .codeWith y _ _ _ _ => decide (y = q.2.2.1) | _ => false)) = false := by decide +kernel
theorem am_s_call (C : am_Cx p s m args c dC dI ad cy cc own nL) {cells slots gc gs pc idx a b : Nat} {i : Instr} {z : Value} {ls av rest : List am_V} {M M' : am_M} {r : Option am_V} {q : am_C} {F : am_F} (hq : am_Cal l dC dI ad cy R gc gs q F) (hroom : cells + gc ≤ R.cells ∧ slots + gs ≤ R.slots)
    (hi : i = .invokestatic idx ∧ ((∀ w ∈ ([.static q.1, .initialized q.1.cls] : List Cond), w ∈ am_U) ∧ (Cond.methodLink own idx q.1 ∈ am_U ∨ (own, idx, q.1, RX9) ∈ am_nl)) ∧ av.length = q.2.2.2.2.1 ∨ i = .invokevirtual idx ∧ (∀ w ∈ ([.methodLink own idx q.1, .instanceMethod q.1, .selects q.1.cls q.1 q.1, .initialized q.1.cls] : List Cond), w ∈ am_U) ∧ ∃ k j as, av = .inr (k, j) :: as ∧ as.length = q.2.2.2.2.1 ∧ q.2.2.2.1 = some k)
    (hd : decode cc pc = .ok (i, 3)) (hF : F av M = some (.inl r, M')) (hav : ∀ v ∈ av, am_ok v) (hrest : ∀ v ∈ rest, am_ok v) (hwt : am_wt rest ≤ 8)
    (kk : am_Wp p l e R s m args below meth c Q dC dI ad cy nL (cells + gc) (slots + gs) (pc + 3) ls (r.toList ++ rest) M') : am_Wp p l e R s m args below meth c Q dC dI ad cy nL cells slots pc ls (av.reverse ++ rest) M := by
  obtain ⟨y, w, rm, rc, np, mL⟩ := q
  obtain ⟨hOk, hw, hc1, hc2, hfr, hlo, hyd, hrc, hcode⟩ := hq
  have hM := hOk av M M' r hav hF
  intro H locs lsA hl hP hS
  have C' := C
  obtain ⟨hx, hbb, hml, hown, hts, hK, hD, hRo, hNk⟩ := C
  have hsum : 2 * 0 + ((rest.map (am_co ad)).map fun v => v.category).sum ≤ 8 := by have := am_wt_le (ad := ad) hrest; omega
  have hcr : cells + rm.cells ≤ R.cells ∧ slots + rm.slots ≤ R.slots := ⟨by omega, by omega⟩
  have fin : ∀ (hr : va_Run p l e R s m args below meth c H locs cells slots rm.cells rm.slots (F0 m pc lsA ((av.reverse ++ rest).map (am_co ad))) (rest.map (am_co ad)) (am_Q dC dI ad cy r M' (av.map (am_co ad)).toArray) (am_A ad)), W p l e R s m args below meth c H locs cells slots Q (F0 m pc lsA ((av.reverse ++ rest).map (am_co ad))) := by
    intro hr
    refine am_back hr hS (fun H1 locs1 hP1 hS1 => W.widen (k := cells + gc) (n := slots + gs) (by omega) (by omega) ?_)
    have := kk H1 locs1 lsA hl hP1 hS1
    rw [List.map_append] at this
    cases r with
    | none => exact this
    | some v => exact this
  have hst : (F0 m pc lsA ((av.reverse ++ rest).map (am_co ad))).stack = (av.map (am_co ad)).reverse ++ rest.map (am_co ad) := by
    show (av.reverse ++ rest).map (am_co ad) = _
    rw [List.map_append, List.map_reverse]
  rcases hi with ⟨rfl, hn, hlen⟩ | ⟨rfl, hn, k, j, as, rfl, hlen, hk⟩
  · obtain ⟨hn0, hn1⟩ := hn
    have hst0 := hn0 _ List.mem_cons_self
    have hin0 := hn0 (.initialized y.cls) (List.mem_cons_of_mem _ List.mem_cons_self)
    have three : Cond.methodLink own idx y ∈ am_U → ∀ w ∈ ([.methodLink own idx y, .static y, .initialized y.cls] : List Cond), w ∈ am_U := by
      intro hm w hw3
      rcases List.mem_cons.mp hw3 with rfl | hw3
      · exact hm
      · exact hn0 w hw3
    rcases hcode with ⟨bytes, ret, rfl⟩ | ⟨-, bytes, ret, hh, rfl⟩
    · rcases hn1 with hm | hm
      · refine fin (va_runS ⟨hx, hbb, hml, hown, hts⟩ hM (va_cwS np hts ?_ rfl rfl rfl hyd ⟨hfr, hlo⟩) ⟨am_St_blind, am_pre (C0 := C') hP hS⟩ rfl (by rw [List.length_map]; exact hlen) hl.1 hst hsum hd hcr)
        intro w hw2
        rcases List.mem_append.mp (show w ∈ ([.methodLink own idx y, .static y, .initialized y.cls] : List Cond) ++ (Cond.code y bytes mL ret :: am_U) from hw2) with h | h
        · exact ⟨three hm w h, good_of_word (List.mem_filter.mp (three hm w h)).2⟩
        · exact am_good _ hw w h
      · exact fin (va_runSN (host := RX9) ⟨hx, hbb, hml, hown, hts⟩ hM ⟨va_cnB np hts (am_good _ hw) rfl rfl rfl (hNk.1 _ hm) (hts _ hin0) hyd ⟨hfr, hlo⟩, hts _ hst0, trivial⟩ ⟨am_St_blind, am_pre (C0 := C') hP hS⟩ rfl (by rw [List.length_map]; exact hlen) hl.1 hst hsum hd hcr)
    · rcases hn1 with hm | hm
      · refine fin (vx_runSW (hh := hh) ⟨hx, hbb, hml, hown, hts⟩ hM (vx_cwSW np hts ?_ rfl rfl rfl hyd ⟨hfr, hlo⟩) ⟨am_St_blind, am_pre (C0 := C') hP hS⟩ rfl (by rw [List.length_map]; exact hlen) hl.1 hst hsum hd hcr)
        intro w hw2
        rcases List.mem_append.mp (show w ∈ ([.methodLink own idx y, .static y, .initialized y.cls] : List Cond) ++ (Cond.codeWith y bytes mL ret hh :: am_U) from hw2) with h | h
        · exact ⟨three hm w h, good_of_word (List.mem_filter.mp (three hm w h)).2⟩
        · exact am_good _ hw w h
      · exfalso
        have h1 := am_no_cw _ hm
        have h2 := List.any_eq_false.mp h1 _ (List.mem_filter.mp hw).1
        simp at h2
  · rcases hcode with ⟨bytes, ret, rfl⟩ | ⟨h0, -⟩
    · have hk' : rc = some k := hk
      subst hk'
      obtain ⟨hk11, hyc⟩ := hrc
      have hjk : j < am_ct k := by
        rcases hav _ List.mem_cons_self with h | h
        · exact h
        · exfalso; obtain ⟨h, -⟩ := h; omega
      obtain ⟨q0, h1, -⟩ := am_obj (ad := ad) (cy := cy) (M := M) hk11 hjk
      refine fin (va_runV (C := y.cls) (b := ad k j) (As := as.map (am_co ad)) (rest := rest.map (am_co ad)) ⟨hx, hbb, hml, hown, hts⟩ hM (cwV np hts ?_ rfl rfl rfl ⟨rfl, hyd⟩ ⟨hfr, hlo⟩) ⟨am_St_blind, ?_, am_pre (C0 := C') (av := .inr (k, j) :: as) hP hS⟩ rfl (by rw [List.length_map]; exact hlen) hl.1 ?_ hsum hd hcr)
      · intro w hw2
        rcases List.mem_append.mp (show w ∈ ([.methodLink own idx y, .instanceMethod y, .selects y.cls y y, .initialized y.cls] : List Cond) ++ (Cond.code y bytes mL ret :: am_U) from hw2) with h | h
        · exact ⟨hn w h, good_of_word (List.mem_filter.mp (hn w h)).2⟩
        · exact am_good _ hw w h
      · have := va_recv hK hP (am_cl_at k hk11) h1
        rw [hyc]
        exact this
      · rw [hst, List.map_cons, List.reverse_cons, List.append_assoc]
        rfl
    · exfalso
      have hk' : rc = some k := hk
      rw [h0] at hk'
      cases hk'
end AMT
