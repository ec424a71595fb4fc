/-! ===== throwing: the four that throw, and a method that lets a callee's exception through ===== -/
def am_XC (dC : Nat → ClassId) (dI : Nat → Nat → Nat) (ad : Nat → Nat → Nat) (cy : Nat → ClassId) (E : String) (M : am_M) : String → State → State → Prop := fun E' st t =>
  E' = E ∧ va_P (dC, dI) vwCl (am_W ad cy M) t.heap ∧ va_F (am_A ad) st t
def am_rT (rm : Room) : Room := { frames := rm.frames, cells := 1, slots := 6, locals := rm.locals }
/-- the contract of a method where its meaning is a throw -/
def am_OkT (l : Launch) (dC : Nat → ClassId) (dI : Nat → Nat → Nat) (ad : Nat → Nat → Nat) (cy : Nat → ClassId) (y : MethodName) (w : Cond) (rm : Room) (F : am_F) : Prop :=
  ∀ (av : List am_V) (M M' : am_M) (E : String), (∀ v ∈ av, am_ok v) → F av M = some (.inr E, M') →
    vx_Met l y (w :: am_U) (am_rT rm) (va_Pc (av.map (am_co ad)) (am_St dC dI ad cy M)) (fun _ _ _ _ => False) (am_XC dC dI ad cy E M') 1 6 (am_A ad)
section AMZ
variable {p : Program} {l : Launch} {e : Env} {R : Room} {s : State} {m : MethodId} {args : Array Value} {below : List Frame} {meth : Method} {c : Code} {Q : State → Prop}
variable {dC : Nat → ClassId} {dI : Nat → Nat → Nat} {ad : Nat → Nat → Nat} {cy : Nat → ClassId} {cc : ByteArray} {own : String} {nL : Nat}
/-- a callee in its throwing mode, as its caller needs it -/
def am_CalT (l : Launch) (dC : Nat → ClassId) (dI : Nat → Nat → Nat) (ad : Nat → Nat → Nat) (cy : Nat → ClassId) (R : Room) (q : am_C) (F : am_F) : Prop := match q with
  | (y, w, rm, rc, np, mL) => am_OkT l dC dI ad cy y w rm F ∧ w ∈ am_U ∧ rm.frames + 1 ≤ R.frames ∧ 8 + (mL + 11) + rm.locals ≤ R.locals ∧
    (y.cls ≠ "java/lang/invoke/MethodHandle" ∧ y.cls ≠ "java/lang/invoke/VarHandle" ∧ (parseMethodDescriptor y.desc).map (fun d => d.parameters.length) = some np) ∧
    (match rc with | some k => k < 11 ∧ y.cls = am_N k | none => True) ∧ ∃ bytes ret, w = .code y bytes mL ret
theorem am_backT {H : Heap} {locs : List Loc} {cells slots pc : Nat} {lsA : Array Slot} {st0 rest : List Value} {a' : Array Value} {E : String} {M' : am_M} (hr : vx_Run p l e R s m args below meth c H locs cells slots 1 6 (F0 m pc lsA st0) rest ((fun (_ : Array Value) (_ : State) (_ : Outcome) (_ : State) => False) a') (am_XC dC dI ad cy E M') (am_A ad)) (hS : va_S (am_A ad) s.heap H locs)
    (kk : ∀ (H1 : Heap) (locs1 : List Loc) (q : Addr) (ce : Cell), va_P (dC, dI) vwCl (am_W ad cy M') H1 → va_S (am_A ad) s.heap H1 locs1 → H1[q]? = some ce → ce.vm = .none → s.vm.findClass E = some ce.cls → vx_W p l e R s m args below meth c H1 locs1 (cells + 1) (slots + 6) Q (F0 m pc lsA rest) q) : W p l e R s m args below meth c H locs cells slots Q (F0 m pc lsA st0) := by
  intro T hT X
  rcases hr T hT X with ⟨v, st₀, t, T', L, h0, X', hL, e1, e2, hF, st⟩ | ⟨q, st₀, t, T', L, E', ce, h0, X', hL, e1, e2, ⟨rfl, hP, hz, hk⟩, hce, hcv, hcl, st⟩
  · exact absurd hF id
  · rw [h0] at hz hk
    obtain ⟨t2, a1, b1⟩ := kk T'.heap (locs ++ L) q ce (by rw [e1]; exact hP)
      ⟨Nat.le_trans hS.1 (by rw [e1]; exact hz), fun q h1 h2 => by rw [e1, hk q (Nat.lt_of_lt_of_le h1 hS.1) h2]; exact hS.2.1 q h1 h2, fun q hq => by
        rcases List.mem_append.mp hq with h | h
        · exact hS.2.2 q h
        · exact hL q h⟩ (by rw [e1]; exact hce) hcv hcl T' rfl X'
    exact ⟨t2, st.trans a1, b1⟩
theorem am_s_callT (C : am_Cx p s m args c dC dI ad cy cc own nL) {cells slots pc idx : Nat} {i : Instr} {ls av rest : List am_V} {M M' : am_M} {E : String} {q : am_C} {F : am_F} (hq : am_CalT l dC dI ad cy R q F) (hroom : cells + 1 ≤ R.cells ∧ slots + 6 ≤ R.slots)
    (hi : i = .invokestatic idx ∧ ((∀ w ∈ ([.static q.1, .initialized q.1.cls] : List Cond), w ∈ am_U) ∧ Cond.methodLink own idx q.1 ∈ am_U) ∧ av.length = q.2.2.2.2.1 ∨ i = .invokevirtual idx ∧ (∀ w ∈ ([.methodLink own idx q.1, .instanceMethod q.1, .selects q.1.cls q.1 q.1, .initialized q.1.cls] : List Cond), w ∈ am_U) ∧ ∃ k j as, av = .inr (k, j) :: as ∧ as.length = q.2.2.2.2.1 ∧ q.2.2.2.1 = some k)
    (hd : decode cc pc = .ok (i, 3)) (hF : F av M = some (.inr E, M')) (hav : ∀ v ∈ av, am_ok v) (hrest : ∀ v ∈ rest, am_ok v) (hwt : am_wt rest ≤ 8)
    (kk : ∀ (H1 : Heap) (locs1 : List Loc) (lsA : Array Slot) (q : Addr) (ce : Cell), lv_has lsA nL (am_lv ad 0 ls) → va_P (dC, dI) vwCl (am_W ad cy M') H1 → va_S (am_A ad) s.heap H1 locs1 → H1[q]? = some ce → ce.vm = .none → s.vm.findClass E = some ce.cls → vx_W p l e R s m args below meth c H1 locs1 (cells + 1) (slots + 6) Q (F0 m pc lsA (rest.map (am_co ad))) q) : am_Wp p l e R s m args below meth c Q dC dI ad cy nL cells slots pc ls (av.reverse ++ rest) M := by
  obtain ⟨y, w, rm, rc, np, mL⟩ := q
  obtain ⟨hOk, hw, hfr, hlo, hyd, hrc, bytes, ret, rfl⟩ := hq
  have hM := hOk av M M' E hav hF
  intro H locs lsA hl hP hS
  have C' := C
  obtain ⟨hx, hbb, hml, hown, hts, hK, hD, hRo, hNk⟩ := C
  have hsum : 2 * 0 + ((rest.map (am_co ad)).map fun v => v.category).sum ≤ 8 := by have := am_wt_le (ad := ad) hrest; omega
  have hst : (F0 m pc lsA ((av.reverse ++ rest).map (am_co ad))).stack = (av.map (am_co ad)).reverse ++ rest.map (am_co ad) := by
    show (av.reverse ++ rest).map (am_co ad) = _
    rw [List.map_append, List.map_reverse]
  rcases hi with ⟨rfl, hn, hlen⟩ | ⟨rfl, hn, k, j, as, rfl, hlen, hk⟩
  · obtain ⟨hn0, hm⟩ := hn
    have three : ∀ w ∈ ([.methodLink own idx y, .static y, .initialized y.cls] : List Cond), w ∈ am_U := by
      intro w hw3
      rcases List.mem_cons.mp hw3 with rfl | hw3
      · exact hm
      · exact hn0 w hw3
    refine am_backT (a' := (av.map (am_co ad)).toArray) (vx_runS ⟨hx, hbb, hml, hown, hts⟩ hM (va_cwS np hts ?_ rfl rfl rfl hyd ⟨hfr, hlo⟩) ⟨am_St_blind, am_pre (C0 := C') hP hS⟩ rfl (by rw [List.length_map]; exact hlen) hl.1 hst hsum hd hroom) hS (fun H1 locs1 q ce h1 h2 => kk H1 locs1 lsA q ce hl h1 h2)
    intro w hw2
    rcases List.mem_append.mp (show w ∈ ([.methodLink own idx y, .static y, .initialized y.cls] : List Cond) ++ (Cond.code y bytes mL ret :: am_U) from hw2) with h | h
    · exact ⟨three w h, good_of_word (List.mem_filter.mp (three w h)).2⟩
    · exact am_good _ hw w h
  · have hk' : rc = some k := hk
    subst hk'
    obtain ⟨hk11, hyc⟩ := hrc
    have hjk : j < am_ct k := am_ok_ob (hav _ List.mem_cons_self) hk11
    obtain ⟨q0, h1, -⟩ := am_obj (ad := ad) (cy := cy) (M := M) hk11 hjk
    refine am_backT (a' := (((.inr (k, j) :: as : List am_V)).map (am_co ad)).toArray) (vx_runV (C := y.cls) (b := ad k j) (As := as.map (am_co ad)) (rest := rest.map (am_co ad)) ⟨hx, hbb, hml, hown, hts⟩ hM (cwV np hts ?_ rfl rfl rfl ⟨rfl, hyd⟩ ⟨hfr, hlo⟩) ⟨am_St_blind, ?_, am_pre (C0 := C') (av := .inr (k, j) :: as) hP hS⟩ rfl (by rw [List.length_map]; exact hlen) hl.1 ?_ hsum hd hroom) hS (fun H1 locs1 q ce h1 h2 => kk H1 locs1 lsA q ce hl h1 h2)
    · intro w hw2
      rcases List.mem_append.mp (show w ∈ ([.methodLink own idx y, .instanceMethod y, .selects y.cls y y, .initialized y.cls] : List Cond) ++ (Cond.code y bytes mL ret :: am_U) from hw2) with h | h
      · exact ⟨hn w h, good_of_word (List.mem_filter.mp (hn w h)).2⟩
      · exact am_good _ hw w h
    · have := va_recv hK hP (am_cl_at k hk11) h1
      rw [hyc]
      exact this
    · rw [hst, List.map_cons, List.reverse_cons, List.append_assoc]
      rfl
/-- a method that lets a callee's exception through -/
theorem am_meth_okT {y : MethodName} {cc : ByteArray} {nL N rt : Nat} {ret : Option FieldType} {rm : Room} {cs : List am_F} {ci : List am_C} {P : am_P} (hy : plainName y.cls = true) (hrt : am_rtc rt ret)
    (hrow : ∀ (pc : Nat) (r : am_Row), am_at P pc = some r → decode cc pc = .ok (r.1, r.2.1) ∧ am_chk nL pc r = true ∧ ∀ w ∈ am_need y.cls ci r, w ∈ am_U)
    (hcs : ∀ (a : Nat) (F : am_F), cs[a]? = some F → ∃ q : am_C, ci[a]? = some q ∧ am_Cal l dC dI ad cy (am_rT rm) 0 0 q F)
    (hcT : ∀ (a : Nat) (F : am_F) (q : am_C), cs[a]? = some F → ci[a]? = some q → (∃ av M E M', F av M = some (.inr E, M')) → am_CalT l dC dI ad cy (am_rT rm) q F ∧ ∀ idx, (y.cls, idx, q.1, RX9) ∉ am_nl)
    (hcv : ∀ (pc : Nat) (i : Instr) (len a b : Nat) (z : Value) (q : am_C), am_at P pc = some (i, len, a, b, z) → ci[a]? = some q → (∀ idx, i = .invokestatic idx → b = q.2.2.2.2.1) ∧ (∀ idx k, i = .invokevirtual idx → z = .ref k → b = q.2.2.2.2.1 + 1 ∧ q.2.2.2.1 = some k)) :
    am_OkT l dC dI ad cy y (.code y cc nL ret) rm (am_meth cs [] rt nL N P) := by
  intro av M M' E hav hF
  unfold am_meth at hF
  cases hle : Nat.ble (am_lay av).length nL with
  | false => rw [hle] at hF; cases hF
  | true =>
    rw [hle] at hF
    simp only [cond_true] at hF
    have hle := Nat.le_of_ble_eq_true hle
    refine vx_ofW (cc := cc) (maxL := nL) (ret := ret) hy rfl ?_
    intro p e s m args below meth c s₁ B hml hext hv
    obtain ⟨rfl, hP, hK, hD, hRo, hNk⟩ := hv
    have hx := B.exec
    have hb := B.bytes
    have hlocks := B.notSynchronized
    have hts0 := atoms_spec (ws := Cond.code y cc nL ret :: am_U) B.pre
    have hown : s.vm.findClass y.cls = some m.cls := findClass_of_methodNamed B.named
    have C : am_Cx p s m (av.map (am_co ad)).toArray c dC dI ad cy cc y.cls nL := ⟨hx, hb, hml, hown, fun w hw => hts0 w (List.mem_cons_of_mem _ hw), hK, fun M2 => am_D_of hD (fun _ _ _ h => h) M2, hRo, hNk⟩
    have hl := lv_entry (av.map (am_co ad)) (n := nL) (by rw [am_lay_len hav]; exact hle)
    rw [lg_entry_eq]
    refine am_run_ok (Q := vx_MQ below (fun _ _ _ _ => False) (am_XC dC dI ad cy E M') (av.map (am_co ad)).toArray s 1 6 (am_A ad)) (o := .inr E) (Mf := M') (Cm := 0) (Sm := 0) (gc := 0) (gs := 0) C hrow hcs hcv ?_ (Nat.zero_le _) (Nat.zero_le _) ?_ ?_ N 0 0 0 (am_ent nL av) [] M (by omega) (by omega) (am_ent_ok hav) (fun _ h => nomatch h) hF s.heap [] _ ?_ hP va_S.rf
    · intro h5
      subst h5
      exact absurd hrt id
    · intro cells slots pc i a b z ls st h1 h2 hat hf hls hst
      exfalso
      cases i with
      | return_ => simp only [am_fin] at hf; split at hf <;> first | (cases hq : Nat.beq rt 0 <;> rw [hq] at hf <;> cases hf) | cases hf
      | ireturn =>
        simp only [am_fin] at hf
        split at hf
        · cases hq : (Nat.beq rt 1 || Nat.beq rt 5) with
          | true => rw [hq] at hf; cases hf
          | false =>
            rw [hq] at hf
            simp only [cond_false] at hf
            cases hq2 : Nat.beq rt 2 with
            | true => rw [hq2] at hf; simp only [cond_true] at hf; split at hf <;> cases hf
            | false => rw [hq2] at hf; cases hf
        · cases hf
      | lreturn => simp only [am_fin] at hf; split at hf <;> first | (cases hq : Nat.beq rt 3 <;> rw [hq] at hf <;> cases hf) | cases hf
      | areturn => simp only [am_fin] at hf; split at hf <;> first | (cases hq : Nat.beq rt 4 <;> rw [hq] at hf <;> cases hf) | cases hf
      | _ => simp [am_fin] at hf
    · intro cells slots pc i a b z ls av2 rest M2 M1 E2 F h1 h2 hat hF2 hR hCl ho hls hav2 hre
      obtain rfl : cells = 0 := by omega
      obtain rfl : slots = 0 := by omega
      rcases ho with ⟨-, h, hMM⟩ | ⟨v, -, h, -⟩
      · cases h
        subst hMM
        obtain ⟨hd, -, hw⟩ := hrow pc _ hat
        obtain ⟨q, hq3, -⟩ := hcs a F hF2
        obtain ⟨hCT, hnn⟩ := hcT a F q hF2 hq3 ⟨_, _, _, _, hR⟩
        obtain ⟨hcl, hlen, hwt⟩ := hCl
        have fin : ∀ (H1 : Heap) (locs1 : List Loc) (lsA : Array Slot) (q9 : Addr) (ce : Cell), lv_has lsA nL (am_lv ad 0 ls) → va_P (dC, dI) vwCl (am_W ad cy M') H1 → va_S (am_A ad) s.heap H1 locs1 → H1[q9]? = some ce → ce.vm = .none → s.vm.findClass E = some ce.cls → vx_W p l e (headSpec (Cond.code y cc nL ret :: am_U) (am_rT rm)).room s m (av.map (am_co ad)).toArray below meth c H1 locs1 (0 + 1) (0 + 6) (vx_MQ below (fun _ _ _ _ => False) (am_XC dC dI ad cy E M') (av.map (am_co ad)).toArray s 1 6 (am_A ad)) (F0 m pc lsA (rest.map (am_co ad))) q9 :=
          fun H1 locs1 lsA q9 ce _ hP1 hS1 hce hcv hcl2 => vx_out (fun x hx2 => absurd (hext x hx2) id) hlocks hce hcv hcl2 (fun t ht _ => ⟨rfl, by rw [ht]; exact hP1, hS1.F ht⟩) hS1.2.2 (Nat.le_refl _) (Nat.le_refl _)
        rcases hcl with ⟨idx, rfl⟩ | ⟨idx, k, j, as, rfl, rfl, rfl⟩
        · refine am_s_callT C (idx := idx) hCT ⟨Nat.le_refl _, Nat.le_refl _⟩ (Or.inl ⟨rfl, ⟨fun w hw2 => hw w (by simp only [am_need]; rw [hq3]; exact List.mem_append_left _ hw2), ?_⟩, ?_⟩) hd hR hav2 hre hwt fin
          · rcases am_lnk hq3 hw with h | h
            · exact h
            · exact absurd h (hnn idx)
          · rw [hlen]; exact (hcv pc _ _ _ _ _ q hat hq3).1 idx rfl
        · obtain ⟨hn1, hn2⟩ := (hcv pc _ _ _ _ _ q hat hq3).2 idx k rfl rfl
          exact am_s_callT C (idx := idx) hCT ⟨Nat.le_refl _, Nat.le_refl _⟩ (Or.inr ⟨rfl, fun w hw2 => hw w (by simp only [am_need]; rw [hq3]; exact hw2), k, j, as, rfl, by rw [List.length_cons] at hlen; omega, hn2⟩) hd hR hav2 hre hwt fin
      · cases h
    · refine ⟨hl.1, hl.2.1, fun q hq => hl.2.2 q (am_lay_args hav q ?_)⟩
      unfold am_ent at hq
      rw [am_lv_rep] at hq
      exact hq
/-- the four that throw -/
theorem am_demT {l : Launch} (htr : l.stackTraces = false) {y : MethodName} {cc : ByteArray} {rm : Room} {E : String} {ik ic : Nat} {F : am_F} (hy : plainName y.cls = true) (hyc : y.cls = RX9) (hE : E ∈ am_ex) (hfit : Bundle.fit E = true)
    (d0 : decode cc 0 = .ok (.iload_n 0, 1)) (d1 : decode cc 1 = .ok (.ifCond .ne 11, 3)) (d4 : decode cc 4 = .ok (.new ik, 3)) (d7 : decode cc 7 = .ok (.dup, 1)) (d8 : decode cc 8 = .ok (.invokespecial ic, 3)) (d11 : decode cc 11 = .ok (.athrow, 1))
    (hk : Cond.classLink RX9 ik E ∈ am_U) (hini : Cond.initialized E ∈ am_U) (hat : ∀ w ∈ vx_at0 RX9 ic E ["java/lang/RuntimeException", "java/lang/Exception"], w ∈ am_U ∨ w ∈ am_xw) (hgood : ∀ w ∈ Cond.classLink RX9 ik E :: Cond.initialized E :: vx_at0 RX9 ic E ["java/lang/RuntimeException", "java/lang/Exception"], vx_ot w = true)
    (hfr : 6 ≤ rm.frames) (hlo : 100 ≤ rm.locals) (hF : ∀ av M E' M', F av M = some (.inr E', M') → av = [.inl (.int 0)] ∧ E' = E ∧ M' = M) : am_OkT l dC dI ad cy y (.code y cc 1 none) rm F := by
  intro av M M' E' hav hFv
  obtain ⟨rfl, rfl, rfl⟩ := hF av M E' M' hFv
  refine vx_ofW (cc := cc) (maxL := 1) (ret := none) hy rfl ?_
  intro p e s m args below meth c s₁ B hml hext hv
  obtain ⟨rfl, hP, hK, hD, hRo, hNk⟩ := hv
  have hx := B.exec
  have hb := B.bytes
  have hlocks := B.notSynchronized
  have hts0 := atoms_spec (ws := Cond.code y cc 1 none :: am_U) B.pre
  have hts : ∀ w ∈ am_U, w.before (([.inl (.int 0)] : List am_V).map (am_co ad)).toArray s = true := fun w hw => hts0 w (List.mem_cons_of_mem _ hw)
  have hown : s.vm.findClass RX9 = some m.cls := by rw [← hyc]; exact findClass_of_methodNamed B.named
  have hl := lv_entry (([.inl (.int 0)] : List am_V).map (am_co ad)) (n := 1) (Nat.le_of_ble_eq_true rfl)
  rw [lg_entry_eq]
  generalize (lg_sl (([.inl (.int 0)] : List am_V).map (am_co ad)) ++ List.replicate (1 - (lg_sl (([.inl (.int 0)] : List am_V).map (am_co ad))).length) Slot.unset).toArray = lsA at hl ⊢
  refine lv_iload_n hx hb d0 rfl (lv_at hl 0 rfl) ?_
  refine lv_if_ne (tgt := 12) hx hb d1 (by decide) (fun h => absurd rfl h) (fun _ => ?_)
  have hS : va_S (am_A ad) s.heap s.heap [] := va_S.rf
  refine vx_throw0 (A := am_A ad) (own := RX9) (cls := E') (names := ["java/lang/RuntimeException", "java/lang/Exception"]) (ik := ik) (ic := ic) hx hb htr hown hfit (by decide +kernel) (hts _ hk) (hts _ hini) (fun w hw => ?_) hgood hRo.2.2.2.2.1 hRo.2.2.2.2.2 hS (by rw [hl.1, hml]) d4 d7 d8 d11 (fun x hx2 => absurd (hext x hx2) id) ?_ ?_ ?_ ?_ hlocks (fun t _ hz hk2 => ?_) (fun z hz => nomatch hz) (Nat.le_refl _) (Nat.le_refl _)
  · rcases hat w hw with h | h
    · exact hts w h
    · have h1 := hNk.2.1 w h
      have h2 := (List.mem_filter.mp h).2
      cases w with
      | castable a b => exact va_Nw.use rfl h1
      | declares x => exact va_Nw.use rfl h1
      | _ => cases h2
  · show 2 + 3 < rm.frames
    omega
  · show 0 + (13 * (2 + 1) + 42) ≤ rm.locals
    omega
  · exact Nat.le_refl _
  · exact Nat.le_refl _
  · refine ⟨rfl, hP.kept (fun k q hq => hk2 q.1 (hP k q hq).lt), hz, fun q hq _ => hk2 q hq⟩
end AMZ
