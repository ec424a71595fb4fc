/-! THE CLAIM OUT OF ONE WALK OF THE LAW'S BODY. Your part is whole_start (and what it stands on); all else here is the same for every law, but numbers. -/
def R_law : String := "SampleAnalyserLaw"
def lw_P (b : Addr) (xs : List Int32) (args : Array Value) (s : State) : Prop := args = #[.ref b] ∧ s.IntsAt b xs ∧ xs.length ≤ 2560 ∧ (Jvm.Cond.and given_1 narrow_1).before args s = true
def lw_Q (_ : Array Value) (s : State) (o : Outcome) (t : State) : Prop := o = .returned (some (.int 1)) ∧ Framed s o t [] 609569 7267397
def lw_Z (below : List Frame) (a : Array Value) (s : State) : State → Prop := fun t => ∃ o, t.status = .running ∧ Ended t below o ∧ lw_Q a s o t
/-- the law's own end, with 1 on the stack, nothing written that was there before, its room as the claim has it -/
theorem lw_ret {p : Program} {l : Launch} {e : Env} {s : State} {m : MethodId} {below : List Frame} {meth : Method} {c : Code} {b : Nat} (hx : p.tables.exec = Jvm.exec) (hb : c.code = code) (hr : meth.sig.returnType = ret) (hlocks : meth.locks = false) {pc : Nat} {H : Heap} {ls : Array Slot} (hdg : decode code pc = .ok (.ireturn, 1)) : W p l e room_1 s m #[Value.ref b] below meth c H [] 609569 7267397 (lw_Z below #[Value.ref b] s) (F0 m pc ls [.int 1]) := by
  intro T hT X
  obtain ⟨fs, hret, hrun, hended, hW, hframe⟩ := X.leave (v := some (.int 1)) (hlocks := hlocks) (fun h => by rw [hr] at h; cases h)
  have hmeth' : T.vm.method? m = some meth := X.method'
  refine ⟨T.setFrames fs, ?_, .returned (some (.int 1)), hrun, hended, rfl, ⟨_, rfl⟩, hW, hframe⟩
  jvm_step X.here [X.here.top, hx, hb, hdg, hmeth', hr, ret, narrow_b1]
  (try refine ⟨rfl, ?_⟩); (try refine ⟨rfl, ?_⟩)
  first | (intro acts; rw [hret _ acts rfl rfl rfl]) | rw [hret _ _ rfl rfl rfl]
  exact Steps.refl _
/-- what holds at the law's entry: the machine, the code, the tables' words (any of lw_tbl by 'hts w (by decide +kernel)'), the script of L ints xs at the cell b, what the Statement gives of the start (any of its parts by flat_of_before) -/
def lw_At (p : Program) (s : State) (m : MethodId) (meth : Method) (c : Code) (b L : Nat) (xs : Nat → Int32) : Prop :=
  p.tables.exec = Jvm.exec ∧ c.code = code ∧ meth.sig.returnType = ret ∧ c.maxLocals = 7 ∧ s.vm.findClass R_law = some m.cls ∧ (∀ w ∈ lw_tbl, w.before #[Value.ref b] s = true) ∧ va_X b L xs s s.heap ∧ b < s.heap.size ∧ meth.locks = false ∧ (Jvm.Cond.and given_1 narrow_1).before #[Value.ref b] s = true
theorem law_htr {l : Launch} (h : l.flags = flags0) : l.stackTraces = false := by
  unfold Launch.stackTraces
  rw [h]
  decide
theorem law_lst : ∀ j : Nat, j < 16 → Cond.eq (.elem (.static RX6 "LEAST" "[I") (.int (Int32.ofNat j))) (.int (am_st 27 j)) ∈ flatC (Jvm.Cond.and given_1 narrow_1) := by decide +kernel
theorem law_mst : ∀ j : Nat, j < 16 → Cond.eq (.elem (.static RX6 "MOST" "[I") (.int (Int32.ofNat j))) (.int (am_st 28 j)) ∈ flatC (Jvm.Cond.and given_1 narrow_1) := by decide +kernel
theorem law_stw : Cond.arrayOf (.static RX6 "LEAST" "[I") .int ∈ flatC (Jvm.Cond.and given_1 narrow_1) ∧ Cond.arrayOf (.static RX6 "MOST" "[I") .int ∈ flatC (Jvm.Cond.and given_1 narrow_1) ∧ Cond.eq (.length (.static RX6 "LEAST" "[I")) (.int (Int32.ofNat 16)) ∈ flatC (Jvm.Cond.and given_1 narrow_1) ∧ Cond.eq (.length (.static RX6 "MOST" "[I")) (.int (Int32.ofNat 16)) ∈ flatC (Jvm.Cond.and given_1 narrow_1) ∧ Cond.isRef (.static Bundle.tN "UNASSIGNED_STACK" Bundle.steD) ∈ flatC (Jvm.Cond.and given_1 narrow_1) ∧ Cond.isRef (.static Bundle.tN "SUPPRESSED_SENTINEL" Bundle.listD) ∈ flatC (Jvm.Cond.and given_1 narrow_1) := by decide +kernel
theorem law_Ro {s : State} {args : Array Value} (hts : ∀ w ∈ lw_tbl, w.before args s = true) (hgv : (Jvm.Cond.and given_1 narrow_1).before args s = true) : ∃ tL tM, ∀ b, am_Ro (bm_adF s.heap.size tL tM b) s s.heap := by
  have hs := flat_of_before _ hgv
  obtain ⟨w1, w2, w3, w4, w5, w6⟩ := law_stw
  obtain ⟨v1, v2, v3, v4, v5, v6⟩ := law_stat
  have hA : ∀ a : Nat, a < s.heap.size → ¬ bm_A s.heap.size a := fun a h q => Nat.not_le_of_lt h q
  obtain ⟨tL, hL1, hL2⟩ := va_Tof (f := fun j => .int (am_st 27 j)) (N := 16) (A := bm_A s.heap.size) (by decide) (hs _ w1) (va_eqt (hs _ w3)) (fun j hj => va_eqt (hs _ (law_lst j hj))) hA
  obtain ⟨tM, hM1, hM2⟩ := va_Tof (f := fun j => .int (am_st 28 j)) (N := 16) (A := bm_A s.heap.size) (by decide) (hs _ w2) (va_eqt (hs _ w4)) (fun j hj => va_eqt (hs _ (law_mst j hj))) hA
  refine ⟨tL, tM, fun b => ?_⟩
  have hAB : ∀ q, am_A (bm_adF s.heap.size tL tM b) q → bm_A s.heap.size q := fun q h => bm_am_A h
  exact ⟨(va_Zref (hts _ v1) (hts _ v3) hL1 hA).narrow hAB, hL2.narrow hAB, (va_Zref (hts _ v2) (hts _ v3) hM1 hA).narrow hAB, hM2.narrow hAB, (vx_Zqof (hts _ v4) (hts _ v6) (hs _ w5) hA).narrow hAB, (vx_Zqof (hts _ v5) (hts _ v6) (hs _ w6) hA).narrow hAB⟩
theorem law_d0 : decode code 0 = .ok (.new 8, 3) ∧ decode code 3 = .ok (.dup, 1) ∧ decode code 4 = .ok (.invokespecial 80, 3) ∧ decode code 7 = .ok (.astore_n 1, 1) ∧ decode code 8 = .ok (.new 81, 3) ∧ decode code 11 = .ok (.dup, 1) ∧ decode code 12 = .ok (.invokespecial 83, 3) ∧ decode code 15 = .ok (.astore_n 2, 1) ∧ decode code 16 = .ok (.iconst 1, 1) ∧ decode code 17 = .ok (.newarray .long, 2) ∧ decode code 19 = .ok (.astore_n 3, 1) := by decide +kernel
theorem law_w0 : ∀ w ∈ ([.classLink RL 8 (am_N 9), .instantiable (am_N 9) (am_nf 9), .initialized (am_N 9), .instanceMethod yX9_init, .methodLink RL 80 yX9_init, .classLink RL 81 (am_N 10), .instantiable (am_N 10) (am_nf 10), .initialized (am_N 10), .instanceMethod yX10_init, .methodLink RL 83 yX10_init, .arrayClass .long] : List Cond), w ∈ am_U := by
  have key : ∀ w ∈ ([.classLink RL 8 (am_N 9), .instantiable (am_N 9) (am_nf 9), .initialized (am_N 9), .instanceMethod yX9_init, .methodLink RL 80 yX9_init, .classLink RL 81 (am_N 10), .instantiable (am_N 10) (am_nf 10), .initialized (am_N 10), .instanceMethod yX10_init, .methodLink RL 83 yX10_init, .arrayClass .long] : List Cond), (decide (w ∈ lw_tbl) && goodWord w) = true := by decide +kernel
  intro w hw
  have h := key w hw
  simp only [Bool.and_eq_true, decide_eq_true_eq] at h
  exact List.mem_filter.mpr ⟨h.1, h.2⟩
theorem law_wi (i : Nat) (w : Cond) (h : ([.classLink RL 8 (am_N 9), .instantiable (am_N 9) (am_nf 9), .initialized (am_N 9), .instanceMethod yX9_init, .methodLink RL 80 yX9_init, .classLink RL 81 (am_N 10), .instantiable (am_N 10) (am_nf 10), .initialized (am_N 10), .instanceMethod yX10_init, .methodLink RL 83 yX10_init, .arrayClass .long] : List Cond)[i]? = some w) : w ∈ am_U := law_w0 w (List.mem_of_getElem? h)
theorem law_c9 : (∀ w ∈ ([.instanceMethod cgX9_init.1, .initialized cgX9_init.1.cls] : List Cond), w ∈ am_U) ∧ (Cond.methodLink RL 80 cgX9_init.1 ∈ am_U ∨ (RL, 80, cgX9_init.1, RX9) ∈ bm_nl) :=
  ⟨List.forall_mem_cons.mpr ⟨law_wi 3 _ rfl, List.forall_mem_cons.mpr ⟨law_wi 2 _ rfl, fun _ h => nomatch h⟩⟩, Or.inl (law_wi 4 _ rfl)⟩
theorem law_c10 : (∀ w ∈ ([.instanceMethod cgX10_init.1, .initialized cgX10_init.1.cls] : List Cond), w ∈ am_U) ∧ (Cond.methodLink RL 83 cgX10_init.1 ∈ am_U ∨ (RL, 83, cgX10_init.1, RX9) ∈ bm_nl) :=
  ⟨List.forall_mem_cons.mpr ⟨law_wi 8 _ rfl, List.forall_mem_cons.mpr ⟨law_wi 7 _ rfl, fun _ h => nomatch h⟩⟩, Or.inl (law_wi 9 _ rfl)⟩
theorem law_m1 : gX9_init 0 [(9, bm_dv 9)] = some bm_x1 := by
  have h := bm_m1_some
  unfold bm_m1 at h
  exact h
theorem law_m2 : gX10_init 134 (bm_x1 ++ [(10, bm_dv 10)]) = some bm_x2 := by
  have h := bm_m2_some
  unfold bm_m2 at h
  rw [bm_x1_len] at h
  exact h
def law_l0 (b : Nat) : List am_V := [.inl (.ref b), am_D, am_D, am_D, am_D, am_D, am_D]
def law_l1 (b : Nat) : List am_V := [.inl (.ref b), .inr (0, 0), am_D, am_D, am_D, am_D, am_D]
def law_l2 (b : Nat) : List am_V := [.inl (.ref b), .inr (0, 0), .inr (0, 134), am_D, am_D, am_D, am_D]
def law_l3 (b : Nat) : List am_V := [.inl (.ref b), .inr (0, 0), .inr (0, 134), .inr (0, 171), am_D, am_D, am_D]
/-- from the entry, for every script of at most 2560 ints, the law comes to its end with true -/
theorem whole_start (G : law_goal) {p : Program} {e : Env} {s : State} {m : MethodId} {below : List Frame} {meth : Method} {c : Code} (l : Launch) (htr : l.stackTraces = false) {b L : Nat} {xs : Nat → Int32} (hL : L ≤ 2560) (C0 : lw_At p s m meth c b L xs) : W p l e room_1 s m #[Value.ref b] below meth c s.heap [] 0 0 (lw_Z below #[Value.ref b] s) (entryFrame m ([Value.ref b] : List Value).toArray 7) := by
  obtain ⟨hx, hb, hr, hml, hown, hts, hX, hbl, hlocks, hgv⟩ := C0
  obtain ⟨dC, dI, cy, hK⟩ := law_K hts
  have hNk := law_Nk hts hgv
  have hbN := law_bNk hts
  obtain ⟨tL, tM, hRo⟩ := law_Ro hts hgv
  have hRo := hRo b
  have hU : ∀ w ∈ am_U, w.before #[Value.ref b] s = true := fun w hw => hts w (List.mem_filter.mp hw).1
  obtain ⟨d0, d3, d4, d7, d8, d11, d12, d15, d16, d17, d19⟩ := law_d0
  obtain ⟨Mf, hrun⟩ := G L xs hL
  have hbA : ¬ am_A (bm_adF s.heap.size tL tM b) b := fun h => Nat.not_le_of_lt hbl (bm_am_A h)
  have C2 : am_Cx p s m #[Value.ref b] c dC dI (bm_adF s.heap.size tL tM b) cy code RL 7 := ⟨hx, hb, hml, hown, hU, hK, fun M => bm_am_D M, hRo, hNk⟩
  have loop : am_Wp p l e room_1 s m #[Value.ref b] below meth c (lw_Z below #[Value.ref b] s) dC dI (bm_adF s.heap.size tL tM b) cy 7 172 2241 20 [.inr (29, 0), .inr (9, 0), .inr (10, 0), .inr (80, 0), am_D, am_D, am_D] [] bm_M0 := by
    refine am_run_ok (cs := csL) (hs := []) (rt := 5) (X := (L, xs)) (P := pL_law) (ci := ciL) (gc := 1) (gs := 6) (o := .inl (some (.inl (.int 1)))) (Mf := Mf) (Cm := 500172) (Sm := 3002241) C2 hrowL (hcsL htr) hcvL ?_ (by decide) (by decide) ?_ ?_ 500000 172 2241 20 _ [] bm_M0 (by decide) (by decide) ?_ (fun _ h => nomatch h) hrun
    · intro _
      exact ⟨hX, hbl, hbA⟩
    · intro cells slots pc i a b' z ls st h1 h2 hat hf hls hst H locs lsA hl hP hS
      obtain ⟨hd, -, -⟩ := hrowL pc _ hat
      simp only at hd
      cases i with
      | ireturn =>
        simp only [am_fin] at hf
        split at hf
        · rename_i x
          have hf2 : (some (.inl (some (.inl (.int x)))) : Option am_O) = some (.inl (some (.inl (.int 1)))) := hf
          cases hf2
          refine va_forget (fun q hq => bm_am_A (hS.2.2 q hq)) (W.widen (k := 609569) (n := 7267397) (Nat.le_trans h1 (by decide)) (Nat.le_trans h2 (by decide)) ?_)
          exact lw_ret hx hb hr hlocks hd
        · cases hf
      | return_ =>
        simp only [am_fin] at hf
        split at hf <;> cases hf
      | lreturn =>
        simp only [am_fin] at hf
        split at hf <;> cases hf
      | areturn =>
        simp only [am_fin] at hf
        split at hf <;> cases hf
      | _ => simp [am_fin] at hf
    · intro cells slots pc i a b' z ls av rest M M1 E F h1 h2 hat hF hR hCl ho hls hav hre
      exfalso
      rcases ho with ⟨-, h, -⟩ | ⟨v, h, -⟩
      · cases h
      · simp [am_catch] at h
    · intro v hv
      simp only [List.mem_cons, List.not_mem_nil, or_false] at hv
      rcases hv with rfl | rfl | rfl | rfl | rfl | rfl | rfl
      · exact Or.inr ⟨Or.inr (Or.inr rfl), rfl⟩
      · exact Or.inl (by decide)
      · exact Or.inl (by decide)
      · exact Or.inl (by decide)
      · exact trivial
      · exact trivial
      · exact trivial
  have C1 : bm_Cx p s m #[Value.ref b] c meth dC dI s.heap.size cy code RL 7 := ⟨hx, hb, hml, hown, hU, hK, hbN, Nat.le_refl _, fun h => absurd rfl h⟩
  have s20 : bm_Wp p l e room_1 s m #[Value.ref b] below meth c (lw_Z below #[Value.ref b] s) dC dI s.heap.size cy 7 20 (law_l3 b) [] bm_xF 172 2241 := by
    intro H locs lsA hl hz hP hS
    refine va_forget (fun q hq => hS.2.2 q hq) (loop H [] lsA hl (bm_to_am hP) ⟨hS.1, fun q h1 h2 => hS.2.1 q h1 (fun h => Nat.not_le_of_lt h1 h), fun _ h => nomatch h⟩)
  have hnod : ∀ x : List am_V, (∀ v ∈ x, bm_ok v) → am_nod x := fun x h => bm_ok_nod h
  have s19 : bm_Wp p l e room_1 s m #[Value.ref b] below meth c (lw_Z below #[Value.ref b] s) dC dI s.heap.size cy 7 19 (law_l2 b) [.inr (0, 171)] bm_xF 172 2241 := by
    intro H locs lsA hl hz hP hS
    exact lv_astore_n (i := 3) (nL := 7) hx hb d19 rfl hl (by decide) rfl (fun ls' h => s20 H locs ls' (am_lv_set1 (ls := law_l2 b) (i := 3) (v := .inr (0, 171)) (bm_ok_nod (by intro v hv; simp only [law_l2, List.mem_cons, List.not_mem_nil, or_false] at hv; rcases hv with rfl | rfl | rfl | rfl | rfl | rfl | rfl <;> exact trivial)) h) hz hP hS)
  have s17 : bm_Wp p l e room_1 s m #[Value.ref b] below meth c (lw_Z below #[Value.ref b] s) dC dI s.heap.size cy 7 17 (law_l2 b) [.inl (.int 1)] bm_x2 171 2240 := by
    refine bm_s_newl C1 (law_w0 _ (by simp)) d17 (by decide) (by decide) ?_
    rw [bm_x2_len]
    exact s19
  have s16 : bm_Wp p l e room_1 s m #[Value.ref b] below meth c (lw_Z below #[Value.ref b] s) dC dI s.heap.size cy 7 16 (law_l2 b) [] bm_x2 171 2240 := by
    intro H locs lsA hl hz hP hS
    exact lv_iconst hx hb d16 (v := 1) (by decide) (s17 H locs lsA hl hz hP hS)
  have s15 : bm_Wp p l e room_1 s m #[Value.ref b] below meth c (lw_Z below #[Value.ref b] s) dC dI s.heap.size cy 7 15 (law_l1 b) [.inr (0, 134)] bm_x2 171 2240 := by
    intro H locs lsA hl hz hP hS
    exact lv_astore_n (i := 2) (nL := 7) hx hb d15 rfl hl (by decide) rfl (fun ls' h => s16 H locs ls' (am_lv_set1 (ls := law_l1 b) (i := 2) (v := .inr (0, 134)) (bm_ok_nod (by intro v hv; simp only [law_l1, List.mem_cons, List.not_mem_nil, or_false] at hv; rcases hv with rfl | rfl | rfl | rfl | rfl | rfl | rfl <;> exact trivial)) h) hz hP hS)
  have s12 : bm_Wp p l e room_1 s m #[Value.ref b] below meth c (lw_Z below #[Value.ref b] s) dC dI s.heap.size cy 7 12 (law_l1 b) [.inr (0, 134), .inr (0, 134)] (bm_x1 ++ [(10, bm_dv 10)]) 135 1066 :=
    bm_s_call C1 (q := (0, 134)) (M := bm_x1 ++ [(10, bm_dv 10)]) (F := (gX10_init, 36, 1174)) (cbX10_init (by decide) (by decide)) ⟨by decide, by decide⟩ law_c10 d12 (M' := bm_x2) (by dsimp only; exact law_m2) (by intro v hv; simp only [List.mem_cons, List.not_mem_nil, or_false] at hv; subst hv; exact trivial) (by decide) s15
  have s11 : bm_Wp p l e room_1 s m #[Value.ref b] below meth c (lw_Z below #[Value.ref b] s) dC dI s.heap.size cy 7 11 (law_l1 b) [.inr (0, 134)] (bm_x1 ++ [(10, bm_dv 10)]) 135 1066 := by
    intro H locs lsA hl hz hP hS
    exact lv_dup hx hb d11 rfl (s12 H locs lsA hl hz hP hS)
  have s8 : bm_Wp p l e room_1 s m #[Value.ref b] below meth c (lw_Z below #[Value.ref b] s) dC dI s.heap.size cy 7 8 (law_l1 b) [] bm_x1 134 1018 := by
    refine bm_s_new C1 (a := 10) (by decide) (fun w hw => law_w0 w (by simp only [List.mem_cons, List.not_mem_nil, or_false] at hw ⊢; rcases hw with rfl | rfl | rfl <;> simp)) d8 (by decide) (by decide) ?_
    rw [bm_x1_len]
    exact s11
  have s7 : bm_Wp p l e room_1 s m #[Value.ref b] below meth c (lw_Z below #[Value.ref b] s) dC dI s.heap.size cy 7 7 (law_l0 b) [.inr (0, 0)] bm_x1 134 1018 := by
    intro H locs lsA hl hz hP hS
    exact lv_astore_n (i := 1) (nL := 7) hx hb d7 rfl hl (by decide) rfl (fun ls' h => s8 H locs ls' (am_lv_set1 (ls := law_l0 b) (i := 1) (v := .inr (0, 0)) (bm_ok_nod (by intro v hv; simp only [law_l0, List.mem_cons, List.not_mem_nil, or_false] at hv; rcases hv with rfl | rfl | rfl | rfl | rfl | rfl | rfl <;> exact trivial)) h) hz hP hS)
  have s4 : bm_Wp p l e room_1 s m #[Value.ref b] below meth c (lw_Z below #[Value.ref b] s) dC dI s.heap.size cy 7 4 (law_l0 b) [.inr (0, 0), .inr (0, 0)] [(9, bm_dv 9)] 1 13 :=
    bm_s_call C1 (F := (gX9_init, 133, 1005)) (cbX9_init (by decide) (by decide)) ⟨by decide, by decide⟩ law_c9 d4 (M' := bm_x1) (by dsimp only; exact law_m1) (by intro v hv; simp only [List.mem_cons, List.not_mem_nil, or_false] at hv; subst hv; exact trivial) (by decide) s7
  have s3 : bm_Wp p l e room_1 s m #[Value.ref b] below meth c (lw_Z below #[Value.ref b] s) dC dI s.heap.size cy 7 3 (law_l0 b) [.inr (0, 0)] [(9, bm_dv 9)] 1 13 := by
    intro H locs lsA hl hz hP hS
    exact lv_dup hx hb d3 rfl (s4 H locs lsA hl hz hP hS)
  have s0 : bm_Wp p l e room_1 s m #[Value.ref b] below meth c (lw_Z below #[Value.ref b] s) dC dI s.heap.size cy 7 0 (law_l0 b) [] [] 0 0 :=
    bm_s_new C1 (a := 9) (by decide) (fun w hw => law_w0 w (by simp only [List.mem_cons, List.not_mem_nil, or_false] at hw ⊢; rcases hw with rfl | rfl | rfl <;> simp)) d0 (by decide) (by decide) s3
  rw [lg_entry_eq]
  have hl := lv_entry ([Value.ref b] : List Value) (n := 7) (by show 1 ≤ 7; omega)
  exact s0 s.heap [] _ ⟨hl.1, hl.2.1, fun q hq => hl.2.2 q hq⟩ (by rw [List.length_nil]; rfl) (fun k x h => by simp [bm_W] at h) va_S.rf

set_option maxHeartbeats 4000000 in
theorem lw_walk (G : law_goal) (l : Launch) (htr : l.stackTraces = false) (b : Addr) (xs : List Int32) : MetFree l x (headSpec (Jvm.Cond.code x code maxLocals ret :: tables_1) room_1) (lw_P b xs) (fun _ _ _ _ _ => True) lw_Q := by
  refine MetFree.of_bodyS (code := code) (maxLocals := maxLocals) (ret := ret) (by decide) ?_ ?_
  · intro args s m h hn
    obtain ⟨meth, c, h1, h2, h3, h4, h5, h6, -, -⟩ := Cond.code_spec hn (atoms_spec (ws := Jvm.Cond.code x code maxLocals ret :: tables_1) h _ List.mem_cons_self)
    exact ⟨meth, c, h1, h2, h3, h4, h5, h6⟩
  · intro p e s m args below meth c s₁ B hml0 hP _
    obtain ⟨rfl, hx, hbd, hgv⟩ := hP
    obtain ⟨scr, harrAt, hlist, hof, hsmall⟩ := hx
    obtain ⟨hcb, hkn, -, -⟩ := State.arrayAt?_spec harrAt
    have hown : s.vm.findClass R_law = some m.cls := findClass_of_methodNamed B.named
    have hts0 : ∀ c ∈ (Jvm.Cond.code x code maxLocals ret :: tables_1), c.before #[Value.ref b] s = true := atoms_spec (ws := Jvm.Cond.code x code maxLocals ret :: tables_1) B.pre
    have hts : ∀ w ∈ lw_tbl, w.before #[Value.ref b] s = true := k2_hts_sels lw_privs (fun w hw => hts0 w (List.mem_cons_of_mem _ hw)) lw_privs_ok
    have hml : c.maxLocals = 7 := B.maxLocals_eq (hts0 _ List.mem_cons_self)
    have X₀ : Stand p l e room_1 s m #[Value.ref b] below meth c s₁ [] 0 0 := Stand.of_body B
    have hh0 : s₁.heap = s.heap := by rw [B.state]; rfl
    have hsz : scr.slots.size = xs.length := by rw [← Array.length_toList, hlist, List.length_map]
    have hval : ∀ j : Nat, j < xs.length → scr.slots[j]? = some (.int (xs.getD j 0)) := fun j hj => by
      rw [← Array.getElem?_toList, hlist]
      simp [hj]
    have hbl : b < s.heap.size := (Array.getElem?_eq_some_iff.mp hcb).1
    have hX : va_X b xs.length (fun j => xs.getD j 0) s s.heap := ⟨scr, hcb, hof, hkn, hsz, hval⟩
    have K : W p l e room_1 s m #[Value.ref b] below meth c s₁.heap [] 0 0 (lw_Z below #[Value.ref b] s) (entryFrame m ([Value.ref b] : List Value).toArray 7) := by
      rw [hh0]
      exact whole_start G l htr hbd ⟨B.exec, B.bytes, B.returns, hml, hown, hts, hX, hbl, B.notSynchronized, hgv⟩
    obtain ⟨t, a1, o, b1, b2, b3⟩ := K s₁ rfl X₀
    exact ⟨t, o, a1, b1, b2, b3⟩
theorem lw_pre_spec {args : Array Value} {s : State} (h : (Jvm.Cond.and given_1 narrow_1).before args s = true) (hr : rest_1_c.before args s = true) : ∃ (b : Addr) (xs : List Int32), lw_P b xs args s := by
  have hs := flat_of_before _ h
  have hq := flat_of_before _ hr
  have hc : (Cond.count 1).before args s = true := hs _ (by decide +kernel)
  have harr : (Cond.arrayOf (.arg 0) .int).before args s = true := hs _ (by decide +kernel)
  have hle : (Cond.le (.length (.arg 0)) (.int 2560)).before args s = true := hs _ (by decide +kernel)
  have hlen : (Cond.isInt (.length (.arg 0))).before args s = true := hq _ (by decide +kernel)
  have hall : (Cond.all (.arg 0) (.isInt (.elem (.arg 0) (.index 0)))).before args s = true := hq _ (by decide +kernel)
  obtain ⟨b, xs, hb, hx⟩ := State.ints_of_pre rfl harr hlen hall
  have hsm : xs.length < 2 ^ 31 := hx.choose_spec.2.2.2
  have hev : (Term.length (.arg 0)).eval args s none [] s = some (.int xs.length.toInt32) := hx.length_eval hb
  have hv := Cond.le_ints hev (show (Term.int 2560).eval args s none [] s = some (.int 2560) from rfl)
  have hd : xs.length.toInt32 ≤ 2560 := by
    simpa [Cond.before, Cond.holds, hv] using hle
  have hN : xs.length ≤ 2560 := (Int32.ofNat_le_ofNat hsm (by decide)).mp (show Int32.ofNat xs.length ≤ Int32.ofNat 2560 from hd)
  exact ⟨b, xs, Cond.one_arg hc (show args[0]? = some (.ref b) from hb), hx, hN, h⟩
theorem lw_comes (G : law_goal) (l : Launch) (htr : l.stackTraces = false) : Comes l x (Jvm.Cond.code x code maxLocals ret :: tables_1) room_1 (fun tb e args s => Calls_1 tb e args s ∧ rest_1 tb e args s ∧ Pre_1 tb e args s)
    (fun _ _ args s o t => lw_Q args s o t) := by
  intro p e ha hc hk s m args below hf hfit hheap happ hpre
  obtain ⟨b, xs, hP⟩ := lw_pre_spec hpre.2.2 hpre.2.1
  obtain ⟨k, o, h1, h2, h3, hQ⟩ := lw_walk G l htr b xs p e ha hc hk s m args below hf ((Spec.applies_iff_loose hf).mp happ).1 hP trivial
  exact ⟨k, o, h1, h2, h3, hQ⟩
theorem lw_frame {s t : State} {o : Outcome} {args : Array Value} (h : Framed s o t [] 609569 7267397) :
    Framed s o t (fieldLocs frame_1_writes args s ++ arrayLocs frame_1_arrays args s ++ staticLocs frame_1_statics s) 609569 7267397 := h
theorem lw_limb (G : law_goal) (L : Cond) (hL : ∀ (args : Array Value) (s t : State), L.after args s (.returned (some (.int 1))) t = true) :
    ArmFor flags0 classFile x code maxLocals ret World_1 tables_1 room_1 Calls_1 rest_1 Pre_1
      (fun tb e a s o t => postC L tb e a s o t ∧ Framed s o t (fieldLocs frame_1_writes a s ++ arrayLocs frame_1_arrays a s ++ staticLocs frame_1_statics s) 609569 7267397) := by
  intro l hfl _ _ p e ha hc hk s m args below hf hfit hheap happ hpre
  obtain ⟨k, o, h1, h2, h3, rfl, hF⟩ := lw_comes G l (law_htr hfl) p e ha hc hk s m args below hf hfit hheap happ hpre
  exact ⟨k, _, h1, h2, h3, hL args s _, lw_frame hF⟩
theorem i_vc_of (G : law_goal) : Claimed_1_1 ∧ Claimed_1_2 := ⟨lw_limb G limb_1_1 (fun args s t => by simp [limb_1_1, Cond.after, Cond.holds, Cond.value]), lw_limb G limb_1_2 (fun args s t => Cond.after_iff.mpr (by
  first | (rw [show limb_1_2 = Cond.eq .result (.int 1) from rfl, Cond.eq_ints (x := 1) (y := 1) rfl rfl]; simp; done) | (simp [limb_1_2, Cond.value, Term.eval]; done)))⟩
