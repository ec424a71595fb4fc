/-! ===== a method's contract out of its rows ===== -/
def am_rtc (rt : Nat) (ret : Option FieldType) : Prop := match rt with
  | 0 => ret = none
  | 1 => ret = some .int
  | 2 => ret = some .boolean
  | 3 => ret = some .long
  | 4 => ∃ n, ret = some (.object n)
  | _ => False
theorem am_lay_len {ad : Nat → Nat → Nat} : ∀ {av : List am_V}, (∀ v ∈ av, am_ok v) → (lg_sl (av.map (am_co ad))).length = (am_lay av).length
  | [], _ => rfl
  | v :: l, h => by
    have ih := am_lay_len (ad := ad) (av := l) (fun w hw => h w (List.mem_cons_of_mem _ hw))
    have e : lg_sl ((v :: l).map (am_co ad)) = (if (am_co ad v).category = 2 then [Slot.val (am_co ad v), .second] else [.val (am_co ad v)]) ++ lg_sl (l.map (am_co ad)) := rfl
    rw [e, List.length_append, ih]
    cases v with
    | inl w =>
      cases w with
      | long x => show 2 + _ = (am_lay l).length + 1 + 1; omega
      | double x => exact absurd (h _ List.mem_cons_self) id
      | int x => show 1 + _ = (am_lay l).length + 1; omega
      | null => show 1 + _ = (am_lay l).length + 1; omega
      | float x => show 1 + _ = (am_lay l).length + 1; omega
      | ref x => show 1 + _ = (am_lay l).length + 1; omega
      | _ => show 1 + _ = (am_lay l).length + 1; omega
    | inr q => show 1 + _ = (am_lay l).length + 1; omega
theorem am_lay_args {ad : Nat → Nat → Nat} : ∀ {av : List am_V} {n : Nat}, (∀ v ∈ av, am_ok v) → ∀ q ∈ am_lv ad n (am_lay av), q ∈ lv_args n (av.map (am_co ad))
  | [], n, _, q, h => by cases h
  | v :: l, n, hok, q, h => by
    have h' : ∀ w ∈ l, am_ok w := fun w hw => hok w (List.mem_cons_of_mem _ hw)
    have one : ∀ (w : am_V), (am_co ad w).category = 1 → q ∈ am_lv ad n (w :: am_lay l) → q ∈ lv_args n ((w :: l).map (am_co ad)) := by
      intro w hc hq
      rw [List.map_cons]
      unfold lv_args
      rw [if_neg (by rw [hc]; decide)]
      unfold am_lv at hq
      cases hd : am_isD w with
      | true => rw [hd] at hq; exact List.mem_cons_of_mem _ (am_lay_args h' q hq)
      | false =>
        rw [hd] at hq
        rcases List.mem_cons.mp hq with e | e
        · exact List.mem_cons.mpr (Or.inl e)
        · exact List.mem_cons_of_mem _ (am_lay_args h' q e)
    cases v with
    | inl w =>
      cases w with
      | long x =>
        rw [List.map_cons]
        unfold lv_args
        rw [if_pos (show (am_co ad (.inl (.long x))).category = 2 from rfl)]
        rcases List.mem_cons.mp (show q ∈ (n, am_co ad (.inl (.long x))) :: am_lv ad (n + 1 + 1) (am_lay l) from h) with e | e
        · exact List.mem_cons.mpr (Or.inl e)
        · exact List.mem_cons_of_mem _ (am_lay_args h' q e)
      | double x => exact absurd (hok _ List.mem_cons_self) id
      | int x => exact one _ rfl h
      | null => exact one _ rfl h
      | float x => exact one _ rfl h
      | ref x => exact one _ rfl h
      | _ => exact one _ rfl h
    | inr z => exact one _ rfl h
theorem am_lv_rep {ad : Nat → Nat → Nat} : ∀ (l : List am_V) (n k : Nat), am_lv ad n (l ++ List.replicate k am_D) = am_lv ad n l
  | [], n, 0 => rfl
  | [], n, k + 1 => by
    rw [List.nil_append, List.replicate_succ]
    show am_lv ad (n + 1) (List.replicate k am_D) = _
    exact am_lv_rep [] (n + 1) k
  | v :: l, n, k => by
    rw [List.cons_append]
    unfold am_lv
    rw [am_lv_rep l (n + 1) k]
theorem am_lay_ok : ∀ {av : List am_V}, (∀ v ∈ av, am_ok v) → ∀ v ∈ am_lay av, am_ok v
  | [], _, v, h => by cases h
  | w :: l, hok, v, h => by
    have h' : ∀ w ∈ l, am_ok w := fun w hw => hok w (List.mem_cons_of_mem _ hw)
    have one : ∀ w : am_V, am_ok w → v ∈ w :: am_lay l → am_ok v := fun w hw hv => (List.mem_cons.mp hv).elim (fun e => e ▸ hw) (am_lay_ok h' v)
    have hw := hok w List.mem_cons_self
    cases w with
    | inl w =>
      cases w with
      | long x =>
        rcases List.mem_cons.mp h with e | e
        · rw [e]; exact trivial
        · exact one am_D trivial e
      | double x => exact absurd hw id
      | int x => exact one _ hw h
      | null => exact one _ hw h
      | float x => exact one _ hw h
      | ref x => exact one _ hw h
      | _ => exact one _ hw h
    | inr z => exact one _ hw h
theorem am_ent_ok {av : List am_V} {n : Nat} (h : ∀ v ∈ av, am_ok v) : ∀ v ∈ am_ent n av, am_ok v := by
  intro v hv
  rcases List.mem_append.mp hv with e | e
  · exact am_lay_ok h v e
  · rw [List.eq_of_mem_replicate e]; exact trivial
section AMX
variable {l : Launch} {dC : Nat → ClassId} {dI : Nat → Nat → Nat} {ad : Nat → Nat → Nat} {cy : Nat → ClassId}
theorem am_ofW {y : MethodName} {ws ws' : List Cond} {rm : Room} {Pc : Array Value → State → Prop} {Qc : Array Value → State → Outcome → State → Prop} {mc ms : Nat} {free : Addr → Prop} {cc : ByteArray} {maxL : Nat} {ret : Option FieldType}
    (hy : plainFor y = true) (hw : ws = Cond.code y cc maxL ret :: ws')
    (body : ∀ p e s m args below meth c s₁, BodyLoose p l y (headSpec ws rm) cc maxL ret e s m args below meth c s₁ → c.maxLocals = maxL → Pc args s →
      W p l e (headSpec ws rm).room s m args below meth c s.heap [] 0 0 (MQ below Qc args s mc ms free) (entryFrame m args maxL)) : Met l y ws rm Pc Qc mc ms free := by
  refine MetFree.of_bodySF (code := cc) (maxLocals := maxL) (ret := ret) hy ?_ ?_
  · intro args s m h hn
    obtain ⟨meth, c, h1, h2, h3, h4, h5, h6, -, -⟩ := Cond.code_spec hn (atoms_spec (ws := ws) h _ (by rw [hw]; exact List.mem_cons_self))
    exact ⟨meth, c, h1, h2, h3, h4, h5, h6⟩
  · intro p e s m args below meth c s₁ B hml hP _
    have hh0 : s₁.heap = s.heap := by rw [B.state]; rfl
    obtain ⟨t, a1, o, b1, b2, b3⟩ := body p e s m args below meth c s₁ B hml hP s₁ hh0 (Stand.of_body B)
    exact ⟨t, o, a1, b1, b2, ⟨b3.1, b3.2⟩⟩
theorem am_meth_ok {y : MethodName} {cc : ByteArray} {nL N rt : Nat} {ret : Option FieldType} {rm : Room} {cs : List am_F} {ci : List am_C} {P : am_P} (hy : plainFor y = true) (hrt : am_rtc rt ret) (hrm : rm.cells = 0 ∧ rm.slots = 0)
    (hrow : ∀ (pc : Nat) (r : am_Row), am_at P pc = some r → decode cc pc = .ok (r.1, r.2.1) ∧ am_chk nL pc r = true ∧ ∀ w ∈ am_need y.cls ci r, w ∈ am_U)
    (hcs : ∀ (a : Nat) (F : am_F), cs[a]? = some F → ∃ q : am_C, ci[a]? = some q ∧ am_Cal l dC dI ad cy rm 0 0 q F)
    (hcv : ∀ (pc : Nat) (i : Instr) (len a b : Nat) (z : Value) (q : am_C), am_at P pc = some (i, len, a, b, z) → ci[a]? = some q → (∀ idx, i = .invokestatic idx → b = q.2.2.2.2.1) ∧ (∀ idx k, i = .invokevirtual idx → z = .ref k → b = q.2.2.2.2.1 + 1 ∧ q.2.2.2.1 = some k)) :
    am_Ok l dC dI ad cy y (.code y cc nL ret) rm (am_meth cs [] rt nL N P) := by
  intro av M M' r hav hF
  unfold am_meth at hF
  cases hle : Nat.ble (am_lay av).length nL with
  | false => rw [hle] at hF; cases hF
  | true =>
    rw [hle] at hF
    simp only [cond_true] at hF
    have hle := Nat.le_of_ble_eq_true hle
    rw [hrm.1, hrm.2]
    refine am_ofW (cc := cc) (maxL := nL) (ret := ret) hy rfl ?_
    intro p e s m args below meth c s₁ B hml hv
    obtain ⟨rfl, hP, hK, hD, hRo, hNk⟩ := hv
    have hx := B.exec
    have hb := B.bytes
    have hr := B.returns
    have hlocks := B.notSynchronized
    have hts0 := atoms_spec (ws := Cond.code y cc nL ret :: am_U) B.pre
    have hown : s.vm.findClass y.cls = some m.cls := findClass_of_methodNamed B.named
    have C : am_Cx p s m (av.map (am_co ad)).toArray c dC dI ad cy cc y.cls nL := ⟨hx, hb, hml, hown, fun w hw => hts0 w (List.mem_cons_of_mem _ hw), hK, fun M2 => am_D_of hD (fun _ _ _ h => h) M2, hRo, hNk⟩
    have hl := lv_entry (av.map (am_co ad)) (n := nL) (by rw [am_lay_len hav]; exact hle)
    rw [lg_entry_eq]
    refine am_run_ok (Q := MQ below (am_Q dC dI ad cy r M') (av.map (am_co ad)).toArray s 0 0 (am_A ad)) (o := .inl r) (Mf := M') (Cm := 0) (Sm := 0) (gc := 0) (gs := 0) C hrow hcs hcv ?_ (Nat.zero_le _) (Nat.zero_le _) ?_ ?_ N 0 0 0 (am_ent nL av) [] M (by omega) (by omega) (am_ent_ok hav) (fun _ h => nomatch h) hF s.heap [] _ ?_ hP va_S.rf
    · intro h5
      subst h5
      exact absurd hrt id
    · intro cells slots pc i a b z ls st h1 h2 hat hf hls hst H locs lsA hl hP hS
      obtain rfl : cells = 0 := by omega
      obtain rfl : slots = 0 := by omega
      obtain ⟨hd, -, -⟩ := hrow pc _ hat
      simp only at hd
      have hq : ∀ t : State, t.heap = H → s.WarmedH t.vm → am_Q dC dI ad cy r M' (av.map (am_co ad)).toArray s (.returned (r.map (am_co ad))) t := fun t ht _ => ⟨rfl, by rw [ht]; exact hP, hS.F ht⟩
      cases i with
      | return_ =>
        simp only [am_fin] at hf
        split at hf
        · cases h0 : Nat.beq rt 0 with
          | false => rw [h0] at hf; cases hf
          | true =>
            rw [h0] at hf
            have e0 := Nat.eq_of_beq_eq_true h0
            subst e0
            cases hf
            exact W.vret hx hb (hr.trans hrt) hq hS.2.2 hd hlocks
        · cases hf
      | ireturn =>
        simp only [am_fin] at hf
        split at hf
        · cases h0 : (Nat.beq rt 1 || Nat.beq rt 5) with
          | true =>
            rw [h0] at hf
            have e0 : rt = 1 := by
              rcases Bool.or_eq_true_iff.mp h0 with z | z
              · exact Nat.eq_of_beq_eq_true z
              · have e5 := Nat.eq_of_beq_eq_true z; subst e5; exact absurd hrt id
            subst e0
            cases hf
            exact W.iret hx hb (hr.trans hrt) hq hS.2.2 hd hlocks
          | false =>
            rw [h0] at hf
            simp only [cond_false] at hf
            cases h2 : Nat.beq rt 2 with
            | false => rw [h2] at hf; cases hf
            | true =>
              rw [h2] at hf
              simp only [cond_true] at hf
              have e0 := Nat.eq_of_beq_eq_true h2
              subst e0
              split at hf
              · rename_i hbx
                cases hf
                refine W.zret (ty := .boolean) hx hb (hr.trans hrt) ?_ hq hS.2.2 hd hlocks
                rcases am_b01 hbx with e | e <;> rw [e] <;> rfl
              · cases hf
        · cases hf
      | lreturn =>
        simp only [am_fin] at hf
        split at hf
        · cases h0 : Nat.beq rt 3 with
          | false => rw [h0] at hf; cases hf
          | true =>
            rw [h0] at hf
            have e0 := Nat.eq_of_beq_eq_true h0
            subst e0
            cases hf
            exact W.lret hx hb (hr.trans hrt) hq hS.2.2 hd hlocks
        · cases hf
      | areturn =>
        have fin : ∀ {v : am_V}, (am_co ad v = .null ∨ ∃ a, am_co ad v = .ref a) → cond (Nat.beq rt 4) (some (.inl (some v))) none = some (Sum.inl r : am_O) → W p l e (headSpec (Cond.code y cc nL ret :: am_U) rm).room s m (av.map (am_co ad)).toArray below meth c H locs 0 0 (MQ below (am_Q dC dI ad cy r M') (av.map (am_co ad)).toArray s 0 0 (am_A ad)) (F0 m pc lsA [am_co ad v]) := by
          intro v hv hg
          cases h0 : Nat.beq rt 4 with
          | false => rw [h0] at hg; cases hg
          | true =>
            rw [h0] at hg
            have e0 := Nat.eq_of_beq_eq_true h0
            subst e0
            cases hg
            obtain ⟨n, hn⟩ := hrt
            exact W.aret hx hb (hr.trans hn) (Or.inl ⟨n, rfl⟩) hv hq hS.2.2 hd hlocks
        simp only [am_fin] at hf
        split at hf
        · exact fin (Or.inr ⟨_, rfl⟩) hf
        · exact fin (Or.inl rfl) hf
        · cases hf
      | _ => simp [am_fin] at hf
    · intro cells slots pc i a b z ls av2 rest M2 M1 E F h1 h2 hat hF2 hR hCl ho hls hav2 hre
      exfalso
      rcases ho with ⟨-, h, -⟩ | ⟨v, h, -⟩
      · cases h
      · simp [am_catch] at h
    · refine ⟨hl.1, hl.2.1, fun q hq => hl.2.2 q (am_lay_args hav q ?_)⟩
      unfold am_ent at hq
      rw [am_lv_rep] at hq
      exact hq
end AMX
