/-! ===== a row is right: its length, its numbers; the words that it needs ===== -/
/-- a callee: its name, its code's word, its room, its receiver's class (none: static), how many parameters its descriptor has, its locals -/
abbrev am_C : Type := MethodName × Cond × Room × Option Nat × Nat × Nat
def am_chk (nL pc : Nat) (r : am_Row) : Bool := match r with
  | (i, len, a, b, z) => match i with
    | .iconst v => decide (len = 1 ∧ z = .int (Int32.ofInt v))
    | .bipush v => decide (len = 2 ∧ z = .int (Int8.ofInt v).toInt32)
    | .sipush v => decide (len = 3 ∧ z = .int (Int16.ofInt v).toInt32)
    | .ldc _ => decide (len = 2) && (match z with | .int _ => true | _ => false)
    | .lconst v => decide (len = 1 ∧ z = .long (Int64.ofNat v))
    | .ldc2_w _ => decide (len = 3) && (match z with | .long _ => true | _ => false)
    | .iload_n k => decide (len = 1 ∧ (k : Nat) = a)
    | .lload_n k => decide (len = 1 ∧ (k : Nat) = a)
    | .aload_n k => decide (len = 1 ∧ (k : Nat) = a)
    | .iload k => decide (len = 2 ∧ k = a)
    | .lload k => decide (len = 2 ∧ k = a)
    | .aload k => decide (len = 2 ∧ k = a)
    | .istore_n k => decide (len = 1 ∧ (k : Nat) = a ∧ a < nL)
    | .lstore_n k => decide (len = 1 ∧ (k : Nat) = a ∧ a + 1 < nL)
    | .astore_n k => decide (len = 1 ∧ (k : Nat) = a ∧ a < nL)
    | .istore k => decide (len = 2 ∧ k = a ∧ a < nL)
    | .lstore k => decide (len = 2 ∧ k = a ∧ a + 1 < nL)
    | .astore k => decide (len = 2 ∧ k = a ∧ a < nL)
    | .iinc k v => decide (len = 3 ∧ k = a ∧ a < nL ∧ z = .int (Int32.ofInt v))
    | .goto o => decide (len = 3 ∧ (pc : Int) + o = (a : Int))
    | .ifCond _ o => decide (len = 3 ∧ (pc : Int) + o = (a : Int))
    | .if_icmp _ o => decide (len = 3 ∧ (pc : Int) + o = (a : Int))
    | .ifnull o => decide (len = 3 ∧ (pc : Int) + o = (a : Int))
    | .ifnonnull o => decide (len = 3 ∧ (pc : Int) + o = (a : Int))
    | .tableswitch d lo hi os => decide (0 ≤ (pc : Int) + d ∧ 0 ≤ lo ∧ hi < 1000 ∧ hi + 1 = lo + os.size) && (List.range os.size).all (fun j => decide (0 ≤ (pc : Int) + os.getD j 0))
    | .lookupswitch d ps => decide (0 ≤ (pc : Int) + d) && (ps.toList.zip (ps.toList.drop 1)).all (fun (a, next) => a.1 < next.1) && ps.toList.all (fun q => decide (0 ≤ (pc : Int) + q.2 ∧ 0 ≤ q.1 ∧ q.1 < 1000))
    | .getfield _ => decide (len = 3 ∧ b < 11 ∧ a < am_nf b)
    | .putfield _ => decide (len = 3 ∧ b < 11 ∧ a < am_nf b)
    | .getstatic _ => decide (len = 3 ∧ (a = 27 ∨ a = 28))
    | .invokestatic _ => decide (len = 3)
    | .invokevirtual _ => decide (len = 3) && (match z with | .ref c => decide (c < 11) | _ => false)
    | _ => decide (len = 1)
/-- the words that a row needs -/
def am_need (own : String) (ci : List am_C) (r : am_Row) : List Cond := match r with
  | (i, _, a, b, z) => match i with
    | .ldc k => (match z with | .int v => [.constant own k v] | _ => [])
    | .ldc2_w k => (match z with | .long v => [.constantLong own k v] | _ => [])
    | .getfield k => [.fieldLink own k (am_T b a).1 (am_T b a).2.1 (am_T b a).2.2.1]
    | .putfield k => [.fieldLink own k (am_T b a).1 (am_T b a).2.1 (am_T b a).2.2.1]
    | .getstatic k => [.fieldLink own k RX6 (if a = 27 then "LEAST" else "MOST") "[I"]
    | .invokestatic k => (match ci[a]? with | some (y, _) => [.static y, .initialized y.cls] ++ (if (own, k, y, RX9) ∈ am_nl then [] else [.methodLink own k y]) | none => [])
    | .invokevirtual k => (match ci[a]? with | some (y, _) => [.methodLink own k y, .instanceMethod y, .selects y.cls y y, .initialized y.cls] | none => [])
    | _ => []
section AMS
variable {p : Program} {l : Launch} {e : Env} {R : Room} {s : State} {m : MethodId} {args : Array Value} {below : List Frame} {meth : Method} {c : Code} {Q : State → Prop}
variable {dC : Nat → ClassId} {dI : Nat → Nat → Nat} {ad : Nat → Nat → Nat} {cy : Nat → ClassId} {cc : ByteArray} {own : String} {nL : Nat}
/-- the machine comes to Q from here, whatever the heap is that holds M -/
def am_Wp (p : Program) (l : Launch) (e : Env) (R : Room) (s : State) (m : MethodId) (args : Array Value) (below : List Frame) (meth : Method) (c : Code) (Q : State → Prop) (dC : Nat → ClassId) (dI : Nat → Nat → Nat) (ad : Nat → Nat → Nat) (cy : Nat → ClassId) (nL cells slots pc : Nat) (ls st : List am_V) (M : am_M) : Prop :=
  ∀ (H : Heap) (locs : List Loc) (lsA : Array Slot), lv_has lsA nL (am_lv ad 0 ls) → va_P (dC, dI) vwCl (am_W ad cy M) H → va_S (am_A ad) s.heap H locs → W p l e R s m args below meth c H locs cells slots Q (F0 m pc lsA (st.map (am_co ad)))
/-- what stays the same while a method runs -/
def am_Cx (p : Program) (s : State) (m : MethodId) (args : Array Value) (c : Code) (dC : Nat → ClassId) (dI : Nat → Nat → Nat) (ad : Nat → Nat → Nat) (cy : Nat → ClassId) (cc : ByteArray) (own : String) (nL : Nat) : Prop :=
  p.tables.exec = Jvm.exec ∧ c.code = cc ∧ c.maxLocals = nL ∧ s.vm.findClass own = some m.cls ∧ (∀ w ∈ am_U, w.before args s = true) ∧ va_K (dC, dI) vwCl (am_ty cy) s ∧ (∀ M, va_D (am_A ad) (am_W ad cy M)) ∧ am_Ro ad s s.heap ∧ am_Nk s
theorem am_in_u : ∀ c, c < 11 → ∀ w ∈ u_ws (am_N c) (am_T c) (am_nf c), w ∈ am_U := by
  have key : ∀ c, c < 11 → (u_ws (am_N c) (am_T c) (am_nf c)).all (fun w => decide (w ∈ lw_tbl) && goodWord w) = true := by decide +kernel
  intro c hc w hw
  have h := List.all_eq_true.mp (key c hc) w hw
  simp only [Bool.and_eq_true, decide_eq_true_eq] at h
  exact List.mem_filter.mpr ⟨h.1, h.2⟩
/-- an object's cell in the world -/
theorem am_obj {M : am_M} {k i : Nat} (hk : k < 11) (h : i < am_ct k) : ∃ q0, (am_W ad cy M)[q0]? = some (ad k i, .inr (k, (List.range (am_nf k)).map (am_fv ad k i (M k i)))) ∧ ∀ f, (am_W ad cy M).set q0 (ad k i, am_en ad cy k i f) = am_W ad cy (am_up M k i f) := by
  obtain ⟨q0, h1, h2⟩ := am_wget (ad := ad) (cy := cy) M h
  refine ⟨q0, ?_, h2⟩
  rw [h1]
  unfold am_en
  rw [am_cl_ar k hk]
theorem am_s_get (C : am_Cx p s m args c dC dI ad cy cc own nL) {cells slots pc idx a b j : Nat} {ls r : List am_V} {M : am_M} (hb : b < 11) (ha : a < am_nf b) (hj : j < am_ct b) (hw : Cond.fieldLink own idx (am_T b a).1 (am_T b a).2.1 (am_T b a).2.2.1 ∈ am_U) (hd : decode cc pc = .ok (.getfield idx, 3)) {v : am_V}
    (hv : am_co ad v = am_fv ad b j (M b j) a)
    (k : am_Wp p l e R s m args below meth c Q dC dI ad cy nL cells slots (pc + 3) ls (v :: r) M) : am_Wp p l e R s m args below meth c Q dC dI ad cy nL cells slots pc ls (.inr (b, j) :: r) M := by
  intro H locs lsA hl hP hS
  obtain ⟨hx, hbb, -, hown, hts, hK, -, -, -⟩ := C
  obtain ⟨q0, h1, -⟩ := am_obj (ad := ad) (cy := cy) (M := M) hb hj
  refine va_get hx hbb hts (am_in_u b hb) hown hK hP q0 h1 (am_cl_at b hb) a ha (hts _ hw) (fun x h => h) (v := am_co ad v) ?_ hd (k H locs lsA hl hP hS)
  rw [List.getElem?_map, List.getElem?_range ha, hv]
  rfl
theorem am_s_put (C : am_Cx p s m args c dC dI ad cy cc own nL) {cells slots pc idx a b j : Nat} {ls r : List am_V} {M : am_M} {x : Int32} (hb : b < 11) (ha : a < am_nf b) (hj : j < am_ct b) (hw : Cond.fieldLink own idx (am_T b a).1 (am_T b a).2.1 (am_T b a).2.2.1 ∈ am_U) (hd : decode cc pc = .ok (.putfield idx, 3))
    (hf : am_ft b a = none) (hz : am_fz b a = true → am_b x = x)
    (k : am_Wp p l e R s m args below meth c Q dC dI ad cy nL cells slots (pc + 3) ls r (am_put M b j a x)) : am_Wp p l e R s m args below meth c Q dC dI ad cy nL cells slots pc ls (.inl (.int x) :: .inr (b, j) :: r) M := by
  intro H locs lsA hl hP hS
  obtain ⟨hx, hbb, -, hown, hts, hK, hD, -, -⟩ := C
  obtain ⟨q0, h1, h2⟩ := am_obj (ad := ad) (cy := cy) (M := M) hb hj
  obtain ⟨hfin, hty⟩ := am_cl_num b hb a ha hf
  have hn : narrow (cond (am_fz b a) .boolean .int) (.int x) = .int x ∧ fits (cond (am_fz b a) .boolean .int) (.int x) = true := by
    cases hq : am_fz b a with
    | false => exact ⟨rfl, rfl⟩
    | true => rcases am_b01 (hz hq) with rfl | rfl <;> exact ⟨rfl, rfl⟩
  refine va_put hx hbb hts (am_in_u b hb) (fun f => (parseFieldDescriptor (am_T b f).2.2.1).getD .int) (fun f hf => by
      have := am_cl_ty b hb f hf
      cases hq : parseFieldDescriptor (am_T b f).2.2.1 with
      | none => rw [hq] at this; cases this
      | some t => rfl) (am_cl_nm b hb) hown hK hP (hD M) hS q0 h1 (am_cl_at b hb) a ha (hts _ hw) (fun x h => h) hfin hty hn.1 hn.2 (by simpa using ha) hd ?_
  intro H1 locs1 hP1 hD1 hS1
  refine k H1 locs1 lsA hl ?_ hS1
  have e : (am_W ad cy M).set q0 (ad b j, .inr (b, ((List.range (am_nf b)).map (am_fv ad b j (M b j))).set a (.int x))) = am_W ad cy (am_put M b j a x) := by
    rw [am_put_up, ← h2]
    refine congrArg (fun z => (am_W ad cy M).set q0 (ad b j, z)) ?_
    unfold am_en
    rw [am_cl_ar b hb]
    refine congrArg (fun z => Sum.inr (b, z)) ?_
    apply List.ext_getElem?
    intro f
    by_cases hfa : f = a
    · subst hfa
      rw [List.getElem?_set_self (by simpa using ha), List.getElem?_map, List.getElem?_range ha]
      have e2 : am_fv ad b j (upd (M b j) f x) f = .int x := by
        unfold am_fv
        rw [hf, show upd (M b j) f x f = x from if_pos rfl]
        cases hq : am_fz b f with
        | false => rfl
        | true => show Value.int (am_b x) = _; rw [hz hq]
      rw [Option.map_some, e2]
    · rw [List.getElem?_set_ne (Ne.symm hfa), List.getElem?_map, List.getElem?_map]
      cases hq : (List.range (am_nf b))[f]? with
      | none => rfl
      | some g =>
        have hg : g = f := by
          obtain ⟨h3, h4⟩ := List.getElem?_eq_some_iff.mp hq
          rw [List.getElem_range] at h4
          exact h4.symm
        subst hg
        rw [Option.map_some, Option.map_some]
        refine congrArg some ?_
        unfold am_fv
        rw [show upd (M b j) a x g = M b j g from if_neg hfa]
  rw [← e]
  exact hP1
theorem am_arr {M : am_M} {k i : Nat} (h : i < am_ct k) {x : va_E} (hx : am_en ad cy k i (M k i) = x) : ∃ q0, (am_W ad cy M)[q0]? = some (ad k i, x) ∧ ∀ f, (am_W ad cy M).set q0 (ad k i, am_en ad cy k i f) = am_W ad cy (am_up M k i f) := by
  obtain ⟨q0, h1, h2⟩ := am_wget (ad := ad) (cy := cy) M h
  exact ⟨q0, by rw [h1, hx], h2⟩
theorem am_s_iald (C : am_Cx p s m args c dC dI ad cy cc own nL) {cells slots pc k j n : Nat} {ls r : List am_V} {M : am_M} {x : Int32} (hk : am_ar k = some (0, n)) (hj : j < am_ct k) (hi : am_in x n) (hd : decode cc pc = .ok (.iaload, 1))
    (kk : am_Wp p l e R s m args below meth c Q dC dI ad cy nL cells slots (pc + 1) ls (.inl (.int (M k j x.toNatClampNeg)) :: r) M) : am_Wp p l e R s m args below meth c Q dC dI ad cy nL cells slots pc ls (.inl (.int x) :: .inr (k, j) :: r) M := by
  intro H locs lsA hl hP hS
  obtain ⟨hx, hbb, -, hown, hts, hK, -, -, -⟩ := C
  obtain ⟨q0, h1, -⟩ := am_arr (ad := ad) (cy := cy) (M := M) hj (x := .inl (cy 0, n, .inl (M k j))) (by unfold am_en; rw [hk])
  exact va_iald hx hbb hK hP q0 0 h1 rfl (am_in_vp hi) hd (kk H locs lsA hl hP hS)
theorem am_s_baload (C : am_Cx p s m args c dC dI ad cy cc own nL) {cells slots pc k j n : Nat} {ls r : List am_V} {M : am_M} {x : Int32} (hk : am_ar k = some (1, n)) (hj : j < am_ct k) (hi : am_in x n) (hd : decode cc pc = .ok (.baload, 1))
    (kk : am_Wp p l e R s m args below meth c Q dC dI ad cy nL cells slots (pc + 1) ls (.inl (.int (am_b (M k j x.toNatClampNeg))) :: r) M) : am_Wp p l e R s m args below meth c Q dC dI ad cy nL cells slots pc ls (.inl (.int x) :: .inr (k, j) :: r) M := by
  intro H locs lsA hl hP hS
  obtain ⟨hx, hbb, -, hown, hts, hK, -, -, -⟩ := C
  obtain ⟨q0, h1, -⟩ := am_arr (ad := ad) (cy := cy) (M := M) hj (x := .inl (cy 1, n, .inl (fun i => am_b (M k j i)))) (by unfold am_en; rw [hk])
  exact va_zald hx hbb hK hP q0 1 h1 rfl (am_in_vp hi) hd (kk H locs lsA hl hP hS)
theorem am_s_laload (C : am_Cx p s m args c dC dI ad cy cc own nL) {cells slots pc k j n : Nat} {ls r : List am_V} {M : am_M} {x : Int32} (hk : am_ar k = some (2, n)) (hj : j < am_ct k) (hi : am_in x n) (hd : decode cc pc = .ok (.laload, 1))
    (kk : am_Wp p l e R s m args below meth c Q dC dI ad cy nL cells slots (pc + 1) ls (.inl (.long (am_jn (M k j (2 * x.toNatClampNeg)) (M k j (2 * x.toNatClampNeg + 1)))) :: r) M) : am_Wp p l e R s m args below meth c Q dC dI ad cy nL cells slots pc ls (.inl (.int x) :: .inr (k, j) :: r) M := by
  intro H locs lsA hl hP hS
  obtain ⟨hx, hbb, -, hown, hts, hK, -, -, -⟩ := C
  obtain ⟨q0, h1, -⟩ := am_arr (ad := ad) (cy := cy) (M := M) hj (x := .inl (cy 2, n, .inr (.inl (fun i => am_jn (M k j (2 * i)) (M k j (2 * i + 1)))))) (by unfold am_en; rw [hk])
  exact va_lald hx hbb hK hP q0 2 h1 rfl (am_in_vp hi) hd (kk H locs lsA hl hP hS)
theorem am_s_iast (C : am_Cx p s m args c dC dI ad cy cc own nL) {cells slots pc k j n : Nat} {ls r : List am_V} {M : am_M} {x y : Int32} (hk : am_ar k = some (0, n)) (hj : j < am_ct k) (hi : am_in x n) (hd : decode cc pc = .ok (.iastore, 1))
    (kk : am_Wp p l e R s m args below meth c Q dC dI ad cy nL cells slots (pc + 1) ls r (am_put M k j x.toNatClampNeg y)) : am_Wp p l e R s m args below meth c Q dC dI ad cy nL cells slots pc ls (.inl (.int y) :: .inl (.int x) :: .inr (k, j) :: r) M := by
  intro H locs lsA hl hP hS
  obtain ⟨hx, hbb, -, hown, hts, hK, hD, -, -⟩ := C
  obtain ⟨q0, h1, h2⟩ := am_arr (ad := ad) (cy := cy) (M := M) hj (x := .inl (cy 0, n, .inl (M k j))) (by unfold am_en; rw [hk])
  refine va_iast hx hbb hK hP (hD M) hS q0 0 h1 rfl (am_in_vp hi) hd (fun H1 locs1 hP1 hD1 hS1 => kk H1 locs1 lsA hl ?_ hS1)
  rw [am_put_up, ← h2, show am_en ad cy k j (upd (M k j) x.toNatClampNeg y) = .inl (cy 0, n, .inl (upd (M k j) x.toNatClampNeg y)) by unfold am_en; rw [hk]]
  exact hP1
theorem am_s_bast (C : am_Cx p s m args c dC dI ad cy cc own nL) {cells slots pc k j n : Nat} {ls r : List am_V} {M : am_M} {x y : Int32} (hk : am_ar k = some (1, n)) (hj : j < am_ct k) (hi : am_in x n) (hy : am_b y = y) (hd : decode cc pc = .ok (.bastore, 1))
    (kk : am_Wp p l e R s m args below meth c Q dC dI ad cy nL cells slots (pc + 1) ls r (am_put M k j x.toNatClampNeg y)) : am_Wp p l e R s m args below meth c Q dC dI ad cy nL cells slots pc ls (.inl (.int y) :: .inl (.int x) :: .inr (k, j) :: r) M := by
  intro H locs lsA hl hP hS
  obtain ⟨hx, hbb, -, hown, hts, hK, hD, -, -⟩ := C
  obtain ⟨q0, h1, h2⟩ := am_arr (ad := ad) (cy := cy) (M := M) hj (x := .inl (cy 1, n, .inl (fun i => am_b (M k j i)))) (by unfold am_en; rw [hk])
  refine va_zast hx hbb hK hP (hD M) hS q0 1 h1 rfl (am_in_vp hi) hd (fun H1 locs1 hP1 hD1 hS1 => kk H1 locs1 lsA hl ?_ hS1)
  have hn : vp_nar .boolean y = y := by rcases am_b01 hy with rfl | rfl <;> rfl
  rw [am_put_up, ← h2, show am_en ad cy k j (upd (M k j) x.toNatClampNeg y) = .inl (cy 1, n, .inl (fun i => am_b (upd (M k j) x.toNatClampNeg y i))) by unfold am_en; rw [hk]]
  rw [hn] at hP1
  rw [show (fun i => am_b (upd (M k j) x.toNatClampNeg y i)) = upd (fun i => am_b (M k j i)) x.toNatClampNeg y by
    funext i
    unfold upd
    by_cases hi : i = x.toNatClampNeg
    · rw [if_pos hi, if_pos hi, hy]
    · rw [if_neg hi, if_neg hi]]
  exact hP1
theorem am_s_last (C : am_Cx p s m args c dC dI ad cy cc own nL) {cells slots pc k j n : Nat} {ls r : List am_V} {M : am_M} {x : Int32} {y : Int64} (hk : am_ar k = some (2, n)) (hj : j < am_ct k) (hi : am_in x n) (hd : decode cc pc = .ok (.lastore, 1))
    (kk : am_Wp p l e R s m args below meth c Q dC dI ad cy nL cells slots (pc + 1) ls r (am_put (am_put M k j (2 * x.toNatClampNeg) (am_hi y)) k j (2 * x.toNatClampNeg + 1) (am_lo y))) : am_Wp p l e R s m args below meth c Q dC dI ad cy nL cells slots pc ls (.inl (.long y) :: .inl (.int x) :: .inr (k, j) :: r) M := by
  intro H locs lsA hl hP hS
  obtain ⟨hx, hbb, -, hown, hts, hK, hD, -, -⟩ := C
  obtain ⟨q0, h1, h2⟩ := am_arr (ad := ad) (cy := cy) (M := M) hj (x := .inl (cy 2, n, .inr (.inl (fun i => am_jn (M k j (2 * i)) (M k j (2 * i + 1)))))) (by unfold am_en; rw [hk])
  refine va_last hx hbb hK hP (hD M) hS q0 2 h1 rfl (am_in_vp hi) hd (fun H1 locs1 hP1 hD1 hS1 => kk H1 locs1 lsA hl ?_ hS1)
  have e : am_put (am_put M k j (2 * x.toNatClampNeg) (am_hi y)) k j (2 * x.toNatClampNeg + 1) (am_lo y) = am_up M k j (upd (upd (M k j) (2 * x.toNatClampNeg) (am_hi y)) (2 * x.toNatClampNeg + 1) (am_lo y)) := by
    rw [am_put_up, am_put_up]
    funext k' i'
    unfold am_up
    by_cases hq : k' = k ∧ i' = j
    · simp [hq]
    · simp [hq]
  rw [e, ← h2, show am_en ad cy k j (upd (upd (M k j) (2 * x.toNatClampNeg) (am_hi y)) (2 * x.toNatClampNeg + 1) (am_lo y)) = .inl (cy 2, n, .inr (.inl (fun i => am_jn (upd (upd (M k j) (2 * x.toNatClampNeg) (am_hi y)) (2 * x.toNatClampNeg + 1) (am_lo y) (2 * i)) (upd (upd (M k j) (2 * x.toNatClampNeg) (am_hi y)) (2 * x.toNatClampNeg + 1) (am_lo y) (2 * i + 1))))) by unfold am_en; rw [hk]]
  rw [show (fun i => am_jn (upd (upd (M k j) (2 * x.toNatClampNeg) (am_hi y)) (2 * x.toNatClampNeg + 1) (am_lo y) (2 * i)) (upd (upd (M k j) (2 * x.toNatClampNeg) (am_hi y)) (2 * x.toNatClampNeg + 1) (am_lo y) (2 * i + 1))) = vp_updL (fun i => am_jn (M k j (2 * i)) (M k j (2 * i + 1))) x.toNatClampNeg y by
    funext i
    unfold vp_updL
    by_cases hi : i = x.toNatClampNeg
    · subst hi
      rw [if_pos rfl]
      have a1 : upd (upd (M k j) (2 * x.toNatClampNeg) (am_hi y)) (2 * x.toNatClampNeg + 1) (am_lo y) (2 * x.toNatClampNeg) = am_hi y := by simp [upd]
      have a2 : upd (upd (M k j) (2 * x.toNatClampNeg) (am_hi y)) (2 * x.toNatClampNeg + 1) (am_lo y) (2 * x.toNatClampNeg + 1) = am_lo y := by simp [upd]
      rw [a1, a2, am_jn_eq]
    · rw [if_neg hi]
      have a1 : upd (upd (M k j) (2 * x.toNatClampNeg) (am_hi y)) (2 * x.toNatClampNeg + 1) (am_lo y) (2 * i) = M k j (2 * i) := by
        unfold upd
        rw [if_neg (by omega), if_neg (by omega)]
      have a2 : upd (upd (M k j) (2 * x.toNatClampNeg) (am_hi y)) (2 * x.toNatClampNeg + 1) (am_lo y) (2 * i + 1) = M k j (2 * i + 1) := by
        unfold upd
        rw [if_neg (by omega), if_neg (by omega)]
      rw [a1, a2]]
  exact hP1
theorem am_s_aald (C : am_Cx p s m args c dC dI ad cy cc own nL) {cells slots pc k j n e' : Nat} {ls r : List am_V} {M : am_M} {x : Int32} (hk : am_ar k = some (e' + 3, n)) (hj : j < am_ct k) (hi : am_in x n) (hd : decode cc pc = .ok (.aaload, 1))
    (kk : am_Wp p l e R s m args below meth c Q dC dI ad cy nL cells slots (pc + 1) ls (.inr (e', x.toNatClampNeg) :: r) M) : am_Wp p l e R s m args below meth c Q dC dI ad cy nL cells slots pc ls (.inl (.int x) :: .inr (k, j) :: r) M := by
  intro H locs lsA hl hP hS
  obtain ⟨hx, hbb, -, hown, hts, hK, -, -, -⟩ := C
  obtain ⟨q0, h1, -⟩ := am_arr (ad := ad) (cy := cy) (M := M) hj (x := .inl (cy (e' + 3), n, .inr (.inr (.inr (.inr (fun i => some (ad e' i))))))) (by unfold am_en; rw [hk])
  have ht := am_ar_ti k (am_ar_lt hk)
  rw [hk] at ht
  simp only [decide_eq_true_eq] at ht
  rcases ht with h | h | h | h | h | h | h | h
  · omega
  · omega
  · omega
  · rw [h] at h1; exact va_aldq hx hbb hK hP q0 3 h1 rfl (am_in_vp hi) hd (kk H locs lsA hl hP hS)
  · rw [h] at h1; exact va_aldq hx hbb hK hP q0 4 h1 rfl (am_in_vp hi) hd (kk H locs lsA hl hP hS)
  · rw [h] at h1; exact va_aldq hx hbb hK hP q0 5 h1 rfl (am_in_vp hi) hd (kk H locs lsA hl hP hS)
  · rw [h] at h1; exact va_aldq hx hbb hK hP q0 6 h1 rfl (am_in_vp hi) hd (kk H locs lsA hl hP hS)
  · rw [h] at h1; exact va_aldq hx hbb hK hP q0 7 h1 rfl (am_in_vp hi) hd (kk H locs lsA hl hP hS)
theorem am_s_alen (C : am_Cx p s m args c dC dI ad cy cc own nL) {cells slots pc k j n e' : Nat} {ls r : List am_V} {M : am_M} (hk : am_ar k = some (e', n)) (he : e' < 3) (hj : j < am_ct k) (hd : decode cc pc = .ok (.arraylength, 1))
    (kk : am_Wp p l e R s m args below meth c Q dC dI ad cy nL cells slots (pc + 1) ls (.inl (.int (Int32.ofNat n)) :: r) M) : am_Wp p l e R s m args below meth c Q dC dI ad cy nL cells slots pc ls (.inr (k, j) :: r) M := by
  intro H locs lsA hl hP hS
  obtain ⟨hx, hbb, -, hown, hts, hK, -, -, -⟩ := C
  obtain ⟨q0, h1, -⟩ := am_wget (ad := ad) (cy := cy) M hj
  unfold am_en at h1
  rw [hk] at h1
  match e', he, h1 with
  | 0, _, h1 => exact va_alen hx hbb hK hP q0 0 h1 rfl rfl hd (kk H locs lsA hl hP hS)
  | 1, _, h1 => exact va_alen hx hbb hK hP q0 1 h1 rfl rfl hd (kk H locs lsA hl hP hS)
  | 2, _, h1 => exact va_alen hx hbb hK hP q0 2 h1 rfl rfl hd (kk H locs lsA hl hP hS)
theorem am_s_alenq (C : am_Cx p s m args c dC dI ad cy cc own nL) {cells slots pc k j n e' : Nat} {ls r : List am_V} {M : am_M} (hk : am_ar k = some (e', n)) (he : ¬ e' < 3) (hj : j < am_ct k) (hd : decode cc pc = .ok (.arraylength, 1))
    (kk : am_Wp p l e R s m args below meth c Q dC dI ad cy nL cells slots (pc + 1) ls (.inl (.int (Int32.ofNat n)) :: r) M) : am_Wp p l e R s m args below meth c Q dC dI ad cy nL cells slots pc ls (.inr (k, j) :: r) M := by
  intro H locs lsA hl hP hS
  obtain ⟨hx, hbb, -, hown, hts, hK, -, -, -⟩ := C
  obtain ⟨e2, rfl⟩ : ∃ e2, e' = e2 + 3 := ⟨e' - 3, by omega⟩
  obtain ⟨q0, h1, -⟩ := am_arr (ad := ad) (cy := cy) (M := M) hj (x := .inl (cy (e2 + 3), n, .inr (.inr (.inr (.inr (fun i => some (ad e2 i))))))) (by unfold am_en; rw [hk])
  have ht := am_ar_ti k (am_ar_lt hk)
  rw [hk] at ht
  simp only [decide_eq_true_eq] at ht
  rcases ht with h | h | h | h | h | h | h | h
  · omega
  · omega
  · omega
  · rw [h] at h1; exact va_alen hx hbb hK hP q0 3 h1 rfl rfl hd (kk H locs lsA hl hP hS)
  · rw [h] at h1; exact va_alen hx hbb hK hP q0 4 h1 rfl rfl hd (kk H locs lsA hl hP hS)
  · rw [h] at h1; exact va_alen hx hbb hK hP q0 5 h1 rfl rfl hd (kk H locs lsA hl hP hS)
  · rw [h] at h1; exact va_alen hx hbb hK hP q0 6 h1 rfl rfl hd (kk H locs lsA hl hP hS)
  · rw [h] at h1; exact va_alen hx hbb hK hP q0 7 h1 rfl rfl hd (kk H locs lsA hl hP hS)
end AMS
