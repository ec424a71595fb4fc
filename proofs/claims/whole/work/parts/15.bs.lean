/-! ===== the second small machine is the machine ===== -/
abbrev bm_C : Type := MethodName × Cond × Room × Nat
def bm_chk (nL pc : Nat) (r : am_Row) : Bool := match r with
  | (i, len, a, _, _) => match i with
    | .new _ => decide (len = 3 ∧ a < 11)
    | .newarray t => decide (len = 2 ∧ (t = .int ∧ a = 0 ∨ t = .boolean ∧ a = 1))
    | .anewarray _ => decide (len = 3 ∧ (a = 1 ∨ a = 4 ∨ a = 5 ∨ a = 6 ∨ a = 8))
    | .invokespecial _ => decide (len = 3)
    | _ => am_chk nL pc r
def bm_nl : List (String × Nat × MethodName × String) := [(RX9, 48, yX3_init, RX9), (RX9, 75, yX8_init, RX9), (RX9, 76, yX5_init, RX9), (RX9, 77, yX1_init, RX9), (RX9, 78, yX4_init, RX9), (RX6, 17, yX0_init, RX9), (RX6, 24, yX2_init, RX9)]
def bm_Nk (U : State) : Prop := (∀ q ∈ bm_nl, va_Nw (.methodLinkNest q.1 q.2.1 q.2.2.1 q.2.2.2) U) ∧ ∀ k ∈ ([1, 4, 5, 6, 8] : List Nat), va_AO (am_N k) U
theorem bm_Nk.warm {s U : State} (hW : s.WarmedH U.vm) (h : bm_Nk s) : bm_Nk U := ⟨fun q hq => va_Nw.warmM hW (h.1 q hq), fun k hk => va_AO.moved hW.alike (h.2 k hk)⟩
theorem bm_Nk.same {s U : State} (hv : s.vm = U.vm) (h : bm_Nk s) : bm_Nk U := bm_Nk.warm (by rw [← hv]; exact State.WarmedH.refl s) h
def bm_need (own : String) (ci : List bm_C) (r : am_Row) : List Cond := match r with
  | (i, _, a, b, _) => match i with
    | .new k => [.classLink own k (am_N a), .instantiable (am_N a) (am_nf a), .initialized (am_N a)]
    | .newarray t => [.arrayClass (newarray.typeOf t)]
    | .anewarray k => [.classLink own k (am_N a)]
    | .invokespecial k => if b = 0 then [.methodLink own k objectInit, .instanceMethod objectInit, .code objectInit ⟨#[0xb1]⟩ 1 none] else (match ci[a]? with | some (y, _) => [.instanceMethod y, .initialized y.cls] ++ (if (own, k, y, RX9) ∈ bm_nl then [] else [.methodLink own k y]) | none => [])
    | _ => am_need own [] r
def bm_St (dC : Nat → ClassId) (dI : Nat → Nat → Nat) (B : Nat) (cy : Nat → ClassId) (M : bm_M) (U : State) : Prop :=
  U.heap.size = B + M.length ∧ va_P (dC, dI) vwCl (bm_W B cy M) U.heap ∧ va_K (dC, dI) vwCl (am_ty cy) U ∧ bm_Nk U
theorem bm_St_blind {dC : Nat → ClassId} {dI : Nat → Nat → Nat} {B : Nat} {cy : Nat → ClassId} {M : bm_M} {av : List Value} : FrameBlind (va_Pc av (bm_St dC dI B cy M)) := by
  rintro a U g mk ⟨h1, h2, h3, h4, h5⟩
  exact ⟨h1, h2, h3, va_K.moved (u := U) (U := U.calling g mk a) (Vm.Alike.refl U.vm) h4, bm_Nk.same (s := U) (U := U.calling g mk a) rfl h5⟩
def bm_Q (dC : Nat → ClassId) (dI : Nat → Nat → Nat) (B : Nat) (cy : Nat → ClassId) (M : bm_M) : Array Value → State → Outcome → State → Prop := fun _ st o t =>
  o = .returned none ∧ t.heap.size = B + M.length ∧ va_P (dC, dI) vwCl (bm_W B cy M) t.heap ∧ va_F (bm_A B) st t
def bm_Ok (l : Launch) (dC : Nat → ClassId) (dI : Nat → Nat → Nat) (B : Nat) (cy : Nat → ClassId) (y : MethodName) (w : Cond) (rm : Room) (F : bm_F) : Prop :=
  ∀ (j : Nat) (M M' : bm_M), F j M = some M' → Met l y (w :: am_U) rm (va_Pc [.ref (B + j)] (bm_St dC dI B cy M)) (bm_Q dC dI B cy M') rm.cells rm.slots (bm_A B)
def bm_Cal (l : Launch) (dC : Nat → ClassId) (dI : Nat → Nat → Nat) (B : Nat) (cy : Nat → ClassId) (R : Room) (q : bm_C) (F : bm_F × Nat × Nat) : Prop := match q with
  | (y, w, rm, mL) => bm_Ok l dC dI B cy y w rm F.1 ∧ w ∈ am_U ∧ rm.cells = F.2.1 ∧ rm.slots = F.2.2 ∧ rm.frames + 1 ≤ R.frames ∧ 8 + (mL + 11) + rm.locals ≤ R.locals ∧
    (y.cls ≠ "java/lang/invoke/MethodHandle" ∧ y.cls ≠ "java/lang/invoke/VarHandle" ∧ (parseMethodDescriptor y.desc).map (fun d => d.parameters.length) = some 0) ∧ y.name = "<init>" ∧ ∃ bytes, w = .code y bytes mL none
def bm_ok : am_V → Prop
  | .inl (.double _) => False
  | _ => True
theorem bm_ok_nod {ls : List am_V} (h : ∀ v ∈ ls, bm_ok v) : am_nod ls := fun j x e => absurd (h _ (List.mem_of_getElem? e)) id
theorem bm_ok_set1 {ls : List am_V} {i : Nat} {w : am_V} (h : ∀ v ∈ ls, bm_ok v) (hw : bm_ok w) : ∀ v ∈ am_set1 ls i w, bm_ok v := by
  intro v hv
  rcases List.mem_or_eq_of_mem_set hv with h1 | h1
  · unfold am_kill at h1
    cases i with
    | zero => exact h v h1
    | succ j =>
      simp only at h1
      split at h1
      · rcases List.mem_or_eq_of_mem_set h1 with h2 | h2
        · exact h v h2
        · rw [h2]; exact trivial
      · exact h v h1
  · rw [h1]; exact hw
theorem bm_wt_le {ad : Nat → Nat → Nat} : ∀ {st : List am_V}, (∀ v ∈ st, bm_ok v) → ((st.map (am_co ad)).map fun v => v.category).sum ≤ am_wt st
  | [], _ => Nat.le_refl _
  | v :: l, h => by
    have ih := bm_wt_le (ad := ad) (st := l) (fun w hw => h w (List.mem_cons_of_mem _ hw))
    rw [List.map_cons, List.map_cons, List.sum_cons]
    cases v with
    | inl w =>
      cases w with
      | long x => show 2 + _ ≤ 2 + am_wt l; omega
      | double x => exact absurd (h _ List.mem_cons_self) id
      | int x => show 1 + _ ≤ 1 + am_wt l; omega
      | null => show 1 + _ ≤ 1 + am_wt l; omega
      | float x => show 1 + _ ≤ 1 + am_wt l; omega
      | ref x => show 1 + _ ≤ 1 + am_wt l; omega
      | _ => show 1 + _ ≤ 1 + am_wt l; omega
    | inr q => show 1 + _ ≤ 1 + am_wt l; omega
section BMS
variable {p : Program} {l : Launch} {e : Env} {R : Room} {s : State} {m : MethodId} {args : Array Value} {below : List Frame} {meth : Method} {c : Code} {Q : State → Prop}
variable {dC : Nat → ClassId} {dI : Nat → Nat → Nat} {B : Nat} {cy : Nat → ClassId} {cc : ByteArray} {own : String} {nL : Nat}
def bm_Wp (p : Program) (l : Launch) (e : Env) (R : Room) (s : State) (m : MethodId) (args : Array Value) (below : List Frame) (meth : Method) (c : Code) (Q : State → Prop) (dC : Nat → ClassId) (dI : Nat → Nat → Nat) (B : Nat) (cy : Nat → ClassId) (nL pc : Nat) (ls st : List am_V) (M : bm_M) (nc ns : Nat) : Prop :=
  ∀ (H : Heap) (locs : List Loc) (lsA : Array Slot), lv_has lsA nL (am_lv (bm_ad B) 0 ls) → H.size = B + M.length → va_P (dC, dI) vwCl (bm_W B cy M) H → va_S (bm_A B) s.heap H locs → W p l e R s m args below meth c H locs nc ns Q (F0 m pc lsA (st.map (am_co (bm_ad B))))
def bm_Cx (p : Program) (s : State) (m : MethodId) (args : Array Value) (c : Code) (meth : Method) (dC : Nat → ClassId) (dI : Nat → Nat → Nat) (B : Nat) (cy : Nat → ClassId) (cc : ByteArray) (own : String) (nL : Nat) : Prop :=
  p.tables.exec = Jvm.exec ∧ c.code = cc ∧ c.maxLocals = nL ∧ s.vm.findClass own = some m.cls ∧ (∀ w ∈ am_U, w.before args s = true) ∧ va_K (dC, dI) vwCl (am_ty cy) s ∧ bm_Nk s ∧ B ≤ s.heap.size ∧ (own ≠ RL → meth.name = "<init>")
theorem bm_hA (C : bm_Cx p s m args c meth dC dI B cy cc own nL) : ∀ q : Nat, s.heap.size ≤ q → bm_A B q := fun q h => Nat.le_trans C.2.2.2.2.2.2.2.1 h
theorem bm_dv_vp : ∀ c, c < 11 → ∀ j, j < am_nf c → defaultValue ((parseFieldDescriptor (am_T c j).2.2.1).getD .int) = vp_V ((bm_dv c).map (am_co (bm_ad 0))) j := by decide +kernel
theorem bm_dv_co (B c : Nat) : (bm_dv c).map (am_co (bm_ad B)) = (bm_dv c).map (am_co (bm_ad 0)) := by
  unfold bm_dv
  rw [List.map_map, List.map_map]
  apply List.map_congr_left
  intro f _
  show am_co _ (match am_ft c f with | some _ => _ | none => _) = am_co _ (match am_ft c f with | some _ => _ | none => _)
  cases am_ft c f <;> rfl
theorem bm_dv_len (c : Nat) : (bm_dv c).length = am_nf c := by unfold bm_dv; rw [List.length_map, List.length_range]
theorem bm_s_new (C : bm_Cx p s m args c meth dC dI B cy cc own nL) {pc idx a nc ns : Nat} {ls st : List am_V} {M : bm_M} (ha : a < 11) (hw : ∀ w ∈ ([.classLink own idx (am_N a), .instantiable (am_N a) (am_nf a), .initialized (am_N a)] : List Cond), w ∈ am_U) (hd : decode cc pc = .ok (.new idx, 3)) (hc : nc + 1 ≤ R.cells) (hs : ns + am_nf a ≤ R.slots)
    (k : bm_Wp p l e R s m args below meth c Q dC dI B cy nL (pc + 3) ls (.inr (0, M.length) :: st) (M ++ [(a, bm_dv a)]) (nc + 1) (ns + am_nf a)) : bm_Wp p l e R s m args below meth c Q dC dI B cy nL pc ls st M nc ns := by
  intro H locs lsA hl hz hP hS
  have hA := bm_hA C
  obtain ⟨hx, hb, hml, hown, hts, hK, -, -, -⟩ := C
  have hKn := hK.1 a _ (am_cl_at a ha)
  refine W.newcK hx hb hown (hts _ (hw _ List.mem_cons_self)) (hts _ (hw _ (List.mem_cons_of_mem _ List.mem_cons_self))) (hts _ (hw _ (List.mem_cons_of_mem _ (List.mem_cons_of_mem _ List.mem_cons_self)))) rfl hd hc hs hKn.2.1 rfl fun H1 kC hkC e1 z1 o1 => ?_
  have hk : ∀ (k : Nat) (x : Nat × va_E), (bm_W B cy M)[k]? = some x → H1[x.1]? = H[x.1]? := fun k x hx => o1 x.1 ((hP k x hx).lt)
  have hP1 : va_P (dC, dI) vwCl (bm_W B cy (M ++ [(a, bm_dv a)])) H1 := by
    rw [← bm_W_app]
    refine (hP.kept hk).app (fun k x hx => ?_)
    have hz1 : k < 1 := (List.getElem?_eq_some_iff.mp hx).1
    rw [show k = 0 by omega] at hx
    cases hx
    rw [bm_en_c (by omega), bm_dv_co]
    refine ⟨_, am_cl_at a ha, ?_⟩
    have hb1 := u_born (fun f => (parseFieldDescriptor (am_T a f).2.2.1).getD .int) hts (am_in_u a ha) hKn hkC e1 (fun f hf => by
      have := am_cl_ty a ha f hf
      cases hq : parseFieldDescriptor (am_T a f).2.2.1 with
      | none => rw [hq] at this; cases this
      | some t => rfl)
    rw [← hz]
    exact hb1.to (bm_dv_vp a ha)
  have := k H1 locs lsA hl (by rw [z1, hz, List.length_append]; rfl) hP1 ⟨Nat.le_trans hS.1 (by omega), fun x h1 h2 => (o1 x (Nat.lt_of_lt_of_le h1 hS.1)).trans (hS.2.1 x h1 h2), hS.2.2⟩
  rw [hz]
  exact this
theorem bm_s_newa (C : bm_Cx p s m args c meth dC dI B cy cc own nL) {pc a nc ns : Nat} {t : ArrayType} {ls st : List am_V} {M : bm_M} {n : Int32} (ha : t = .int ∧ a = 0 ∨ t = .boolean ∧ a = 1) (hw : Cond.arrayClass (newarray.typeOf t) ∈ am_U) (hd : decode cc pc = .ok (.newarray t, 2)) (h0 : 0 ≤ n.toInt) (h1 : n.toInt < 1000) (hc : nc + 1 ≤ R.cells) (hs : ns + n.toNatClampNeg ≤ R.slots)
    (k : bm_Wp p l e R s m args below meth c Q dC dI B cy nL (pc + 2) ls (.inr (0, M.length) :: st) (M ++ [(100 + a, List.replicate n.toNatClampNeg (.inl (.int 0)))]) (nc + 1) (ns + n.toNatClampNeg)) : bm_Wp p l e R s m args below meth c Q dC dI B cy nL pc ls (.inl (.int n) :: st) M nc ns := by
  intro H locs lsA hl hz hP hS
  obtain ⟨hx, hb, hml, hown, hts, hK, -, -, -⟩ := C
  have hnn : ¬ n < 0 := fun h => by have := Int32.lt_iff_toInt_lt.mp h; simp at this; omega
  have hN : n.toNatClampNeg < 1000 := by show n.toInt.toNat < 1000; omega
  have hcb : componentBytes (newarray.typeOf t) ≤ 8 := by rcases ha with ⟨rfl, -⟩ | ⟨rfl, -⟩ <;> decide
  have hmul : n.toNatClampNeg * componentBytes (newarray.typeOf t) ≤ 536870912 := Nat.le_trans (Nat.mul_le_mul (Nat.le_of_lt hN) hcb) (by decide)
  refine va_newaK hx hb (hts _ hw) rfl hd rfl hnn rfl hmul hc hs rfl fun H1 cA e1 z1 o1 hAr hNm => ?_
  have hk : ∀ (k : Nat) (x : Nat × va_E), (bm_W B cy M)[k]? = some x → H1[x.1]? = H[x.1]? := fun k x hx => o1 x.1 ((hP k x hx).lt)
  have hcA : H1[H.size]? = some (vp_cell (cy a) (n.toNatClampNeg, .inl (fun _ => 0))) := by
    rcases ha with ⟨rfl, rfl⟩ | ⟨rfl, rfl⟩
    · have h2 : s.vm.findClass ("[" ++ FieldType.int.toString) = some (cy 0) := (hK.2 0 _ rfl).2
      cases Option.some.inj (hNm.symm.trans h2)
      exact e1
    · have h2 : s.vm.findClass ("[" ++ FieldType.boolean.toString) = some (cy 1) := (hK.2 1 _ rfl).2
      cases Option.some.inj (hNm.symm.trans h2)
      exact e1
  have hP1 : va_P (dC, dI) vwCl (bm_W B cy (M ++ [(100 + a, List.replicate n.toNatClampNeg (.inl (.int 0)))])) H1 := by
    rw [← bm_W_app]
    refine (hP.kept hk).app (fun k x hx => ?_)
    have hz1 : k < 1 := (List.getElem?_eq_some_iff.mp hx).1
    rw [show k = 0 by omega] at hx
    cases hx
    have e2 : bm_en B cy (100 + a, List.replicate n.toNatClampNeg (.inl (.int 0))) = .inl (cy a, n.toNatClampNeg, .inl (fun _ => 0)) := by
      rcases ha with ⟨-, rfl⟩ | ⟨-, rfl⟩
      · show Sum.inl (cy 0, (List.replicate n.toNatClampNeg (Sum.inl (Value.int 0) : am_V)).length, Sum.inl (bm_iv _)) = _
        rw [bm_iv_rep, List.length_replicate]
      · show Sum.inl (cy 1, (List.replicate n.toNatClampNeg (Sum.inl (Value.int 0) : am_V)).length, Sum.inl (bm_iv _)) = _
        rw [bm_iv_rep, List.length_replicate]
    rw [e2, ← hz]
    exact hcA
  have := k H1 locs lsA hl (by rw [z1, hz, List.length_append]; rfl) hP1 ⟨Nat.le_trans hS.1 (by omega), fun x h1 h2 => (o1 x (Nat.lt_of_lt_of_le h1 hS.1)).trans (hS.2.1 x h1 h2), hS.2.2⟩
  rw [hz]
  exact this
theorem bm_ti {a : Nat} (ha : a = 1 ∨ a = 4 ∨ a = 5 ∨ a = 6 ∨ a = 8) : ∃ i : Nat, ∀ cy : Nat → ClassId, (am_ty cy)[i]? = some (cy (3 + a), FieldType.object (am_N a)) := by
  rcases ha with rfl | rfl | rfl | rfl | rfl
  · exact ⟨3, fun _ => rfl⟩
  · exact ⟨4, fun _ => rfl⟩
  · exact ⟨5, fun _ => rfl⟩
  · exact ⟨6, fun _ => rfl⟩
  · exact ⟨7, fun _ => rfl⟩
theorem bm_s_anew (C : bm_Cx p s m args c meth dC dI B cy cc own nL) {pc a idx nc ns : Nat} {ls st : List am_V} {M : bm_M} {n : Int32} (ha : a = 1 ∨ a = 4 ∨ a = 5 ∨ a = 6 ∨ a = 8) (hw : Cond.classLink own idx (am_N a) ∈ am_U) (hd : decode cc pc = .ok (.anewarray idx, 3)) (h0 : 0 ≤ n.toInt) (h1 : n.toInt < 1000) (hc : nc + 1 ≤ R.cells) (hs : ns + n.toNatClampNeg ≤ R.slots)
    (k : bm_Wp p l e R s m args below meth c Q dC dI B cy nL (pc + 3) ls (.inr (0, M.length) :: st) (M ++ [(103 + a, List.replicate n.toNatClampNeg (.inl .null))]) (nc + 1) (ns + n.toNatClampNeg)) : bm_Wp p l e R s m args below meth c Q dC dI B cy nL pc ls (.inl (.int n) :: st) M nc ns := by
  intro H locs lsA hl hz hP hS
  obtain ⟨hx, hb, hml, hown, hts, hK, hNk, -, -⟩ := C
  have hnn : ¬ n < 0 := fun h => by have := Int32.lt_iff_toInt_lt.mp h; simp at this; omega
  have hN : n.toNatClampNeg < 1000 := by show n.toInt.toNat < 1000; omega
  have hAO : va_AO (am_N a) s := hNk.2 a (by rcases ha with rfl | rfl | rfl | rfl | rfl <;> decide)
  refine W.anew hx hb hown (hts _ hw) (va_AO.use hAO) rfl hd rfl hnn (by omega) hc hs fun cA kA comp f1 f2 f3 f4 => ?_
  obtain ⟨i, hi⟩ := bm_ti ha
  obtain ⟨-, kA2, comp2, g1, g2, g3, g4⟩ := hK.2 i _ (hi cy)
  have hcA : cA = cy (3 + a) := Option.some.inj (f1.symm.trans g4)
  generalize hH1 : H.push ({ cls := cA, slots := Array.replicate n.toNatClampNeg .null, vm := .none } : Cell) = H1
  have z1 : H1.size = H.size + 1 := by rw [← hH1, Array.size_push]
  have e1 : H1[H.size]? = some (arrV cA n.toNatClampNeg (fun _ => .null)) := by rw [← hH1, Array.getElem?_push_size, ← arrV_new]
  have o1 : ∀ q : Nat, q < H.size → H1[q]? = H[q]? := fun q hq => by rw [← hH1, Array.getElem?_push, if_neg (Nat.ne_of_lt hq)]
  have hk : ∀ (k : Nat) (x : Nat × va_E), (bm_W B cy M)[k]? = some x → H1[x.1]? = H[x.1]? := fun k x hx => o1 x.1 ((hP k x hx).lt)
  have hP1 : va_P (dC, dI) vwCl (bm_W B cy (M ++ [(103 + a, List.replicate n.toNatClampNeg (.inl .null))])) H1 := by
    rw [← bm_W_app]
    refine (hP.kept hk).app (fun k x hx => ?_)
    have hz1 : k < 1 := (List.getElem?_eq_some_iff.mp hx).1
    rw [show k = 0 by omega] at hx
    cases hx
    rw [bm_en_r, bm_rv_rep, List.length_replicate, ← hz, ← hcA]
    show H1[H.size]? = some (vp_cell _ _)
    rw [vp_cell_q]
    exact e1
  have := k H1 locs lsA hl (by rw [z1, hz, List.length_append]; rfl) hP1 ⟨Nat.le_trans hS.1 (by omega), fun x h1 h2 => (o1 x (Nat.lt_of_lt_of_le h1 hS.1)).trans (hS.2.1 x h1 h2), hS.2.2⟩
  have e9 : Value.ref H.size = am_co (bm_ad B) (.inr (0, M.length)) := by rw [hz]; rfl
  show W p l e R s m args below meth c H1 locs (nc + 1) (ns + n.toNatClampNeg) Q (F0 m (pc + 3) lsA (Value.ref H.size :: st.map (am_co (bm_ad B))))
  rw [e9]
  exact this
theorem bm_s_get (C : bm_Cx p s m args c meth dC dI B cy cc own nL) {pc idx a b nc ns : Nat} {ls r : List am_V} {M : bm_M} {q : Nat × Nat} {vs : List am_V} {v : am_V} (hb11 : b < 11) (ha : a < am_nf b) (hM : M[q.2]? = some (b, vs)) (hv : vs[a]? = some v) (hw : Cond.fieldLink own idx (am_T b a).1 (am_T b a).2.1 (am_T b a).2.2.1 ∈ am_U) (hd : decode cc pc = .ok (.getfield idx, 3))
    (k : bm_Wp p l e R s m args below meth c Q dC dI B cy nL (pc + 3) ls (v :: r) M nc ns) : bm_Wp p l e R s m args below meth c Q dC dI B cy nL pc ls (.inr q :: r) M nc ns := by
  intro H locs lsA hl hz hP hS
  obtain ⟨hx, hb, hml, hown, hts, hK, -, -, -⟩ := C
  have h1 := bm_W_at (B := B) (cy := cy) hM
  rw [bm_en_c (by omega)] at h1
  refine va_get hx hb hts (am_in_u b hb11) hown hK hP q.2 h1 (am_cl_at b hb11) a ha (hts _ hw) (fun x h => h) (v := am_co (bm_ad B) v) ?_ hd (k H locs lsA hl hz hP hS)
  rw [List.getElem?_map, hv]
  rfl
theorem bm_fin_own : ∀ c, c < 11 → ∀ f, f < am_nf c → (am_T c f).1 = am_N c := by decide +kernel
theorem bm_ref_ty : ∀ c, c < 11 → ∀ f, f < am_nf c → ∀ k, am_ft c f = some k → (match parseFieldDescriptor (am_T c f).2.2.1 with | some (.object _) => true | some (.array _) => true | _ => false) = true := by decide +kernel
theorem bm_N_RL : ∀ b, b < 11 → am_N b ≠ RL := by decide +kernel
theorem bm_s_put (C : bm_Cx p s m args c meth dC dI B cy cc own nL) {pc idx a b nc ns : Nat} {ls r : List am_V} {M : bm_M} {q : Nat × Nat} {vs : List am_V} {v : am_V} (hb11 : b < 11) (ha : a < am_nf b) (ho : own = am_N b) (hM : M[q.2]? = some (b, vs)) (hav : a < vs.length) (hw : Cond.fieldLink own idx (am_T b a).1 (am_T b a).2.1 (am_T b a).2.2.1 ∈ am_U) (hd : decode cc pc = .ok (.putfield idx, 3))
    (hv : (∃ q2, v = .inr q2 ∧ ∃ k, am_ft b a = some k) ∨ (∃ x, v = .inl (.int x) ∧ am_ft b a = none ∧ (am_fz b a = true → am_b x = x)))
    (k : bm_Wp p l e R s m args below meth c Q dC dI B cy nL (pc + 3) ls r (M.set q.2 (b, vs.set a v)) nc ns) : bm_Wp p l e R s m args below meth c Q dC dI B cy nL pc ls (v :: .inr q :: r) M nc ns := by
  intro H locs lsA hl hz hP hS
  obtain ⟨hx, hb, hml, hown, hts, hK, -, -, hin9⟩ := C
  have hin2 := hin9 (by rw [ho]; exact bm_N_RL b hb11)
  have h1 := bm_W_at (B := B) (cy := cy) hM
  rw [bm_en_c (by omega)] at h1
  have hty : ∀ f, f < am_nf b → parseFieldDescriptor (am_T b f).2.2.1 = some ((parseFieldDescriptor (am_T b f).2.2.1).getD .int) := fun f hf => by
    have := am_cl_ty b hb11 f hf
    cases hq : parseFieldDescriptor (am_T b f).2.2.1 with
    | none => rw [hq] at this; cases this
    | some t => rfl
  have hn : ∃ ty, parseFieldDescriptor (am_T b a).2.2.1 = some ty ∧ narrow ty (am_co (bm_ad B) v) = am_co (bm_ad B) v ∧ fits ty (am_co (bm_ad B) v) = true := by
    rcases hv with ⟨q2, rfl, k2, hk2⟩ | ⟨x, rfl, hk2, hbx⟩
    · have h3 := bm_ref_ty b hb11 a ha k2 hk2
      split at h3
      · rename_i n hn; exact ⟨_, hn, rfl, rfl⟩
      · rename_i n hn; exact ⟨_, hn, rfl, rfl⟩
      · cases h3
    · refine ⟨_, (am_cl_num b hb11 a ha hk2).2, ?_⟩
      cases hq : am_fz b a with
      | false => exact ⟨rfl, rfl⟩
      | true =>
        show narrow .boolean (.int x) = .int x ∧ fits .boolean (.int x) = true
        rcases am_b01 (hbx hq) with rfl | rfl <;> exact ⟨rfl, rfl⟩
  obtain ⟨ty, hd1, hn1, hf1⟩ := hn
  have fin : ∀ (H1 : Heap) (locs1 : List Loc), va_P (dC, dI) vwCl ((bm_W B cy M).set q.2 (B + q.2, .inr (b, (vs.map (am_co (bm_ad B))).set a (am_co (bm_ad B) v)))) H1 → H1.size = H.size → va_S (bm_A B) s.heap H1 locs1 → W p l e R s m args below meth c H1 locs1 nc ns Q (F0 m (pc + 3) lsA (r.map (am_co (bm_ad B)))) := by
    intro H1 locs1 hP1 hz1 hS1
    refine k H1 locs1 lsA hl (by rw [hz1, hz, List.length_set]) ?_ hS1
    rw [← bm_W_set, bm_en_c (by omega), List.map_set]
    exact hP1
  have hsz : ∀ (H1 : Heap) (locs1 : List Loc), va_S (bm_A B) s.heap H1 locs1 → True := fun _ _ _ => trivial
  have hap := va_apart (own := own) hts (am_in_u b hb11) (fun f => (parseFieldDescriptor (am_T b f).2.2.1).getD .int) hty (am_cl_nm b hb11) hK (am_cl_at b hb11)
  obtain ⟨rr, hh1, cell, q1, q2', q3, q4⟩ := hP q.2 _ h1
  have hr : rr = (am_N b, am_T b, am_nf b) := Option.some.inj (hh1.symm.trans (am_cl_at b hb11))
  subst hr
  obtain ⟨hSl, hfc, kC, hkC, hkind⟩ := hK.1 b _ (am_cl_at b hb11)
  obtain ⟨cf, kf, fi, f, hi, hsl⟩ := hSl a ha
  have hlay := hts _ (am_in_u b hb11 _ (u_in_lay ha))
  unfold u_lay at hlay
  have hst := (u_facts hfc hkC (u_lays hts (am_in_u b hb11) ha) hi).1
  have hl2 : a < (vs.map (am_co (bm_ad B))).length := by rw [List.length_map]; exact hav
  by_cases hfin : (am_T b a).2.2.2 = true
  · rw [if_pos hfin] at hlay
    have hcf : m.cls = cf := by
      obtain ⟨_, _, c', _, _, _, -, -, hf', -, -, -, hown2, -⟩ := Cond.laysFinal_spec hlay
      have e1 : c' = cf := by have := hi.symm.trans hf'; simp at this; exact this.1.symm
      rw [bm_fin_own b hb11 a ha, ← ho] at hown2
      rw [← e1]; exact Option.some.inj (hown.symm.trans hown2)
    have h6 := u_fits hfc hkC hkind (Or.inr hlay) hi hd1 hn1 hf1
    refine W.putFinK hx hb hown (hts _ hw) hi hst hcf hin2 (by rw [q2']; exact h6) q1 q3 (by rw [hsl]; exact k2_hasslot (q4 a ha)) rfl rfl hd fun H' e1 e2 e3 => ?_
    rw [hsl] at e1 ⊢
    exact fin H' _ (hP.set (bm_W_D M) h1 ⟨_, am_cl_at b hb11, t_OB.to (V := updV (vp_V (vs.map (am_co (bm_ad B)))) a (am_co (bm_ad B) v)) ⟨_, e1, q2', q3, t_set q4 hap ha (am_co (bm_ad B) v)⟩ (fun j _ => vp_updV_set hl2 _ j)⟩ e3) e2 (hS.put e2 e3 ((bm_W_D (B := B) (cy := cy) M).2 q.2 _ h1))
  · rw [if_neg hfin] at hlay
    have h6 := u_store hfc hkC hkind hlay hi hd1 hn1 hf1
    refine W.putK hx hb (f := f) ⟨hown, hts _ hw, ⟨_, _, _, hi⟩, hst⟩ (by rw [q2']; exact h6) q1 q3 (by rw [hsl]; exact k2_hasslot (q4 a ha)) rfl rfl hd fun H' e1 e2 e3 => ?_
    rw [hsl] at e1 ⊢
    exact fin H' _ (hP.set (bm_W_D M) h1 ⟨_, am_cl_at b hb11, t_OB.to (V := updV (vp_V (vs.map (am_co (bm_ad B)))) a (am_co (bm_ad B) v)) ⟨_, e1, q2', q3, t_set q4 hap ha (am_co (bm_ad B) v)⟩ (fun j _ => vp_updV_set hl2 _ j)⟩ e3) e2 (hS.put e2 e3 ((bm_W_D (B := B) (cy := cy) M).2 q.2 _ h1))
theorem bm_s_newl (C : bm_Cx p s m args c meth dC dI B cy cc own nL) {pc nc ns : Nat} {ls st : List am_V} {M : bm_M} (hw : Cond.arrayClass .long ∈ am_U) (hd : decode cc pc = .ok (.newarray .long, 2)) (hc : nc + 1 ≤ R.cells) (hs : ns + 1 ≤ R.slots)
    (k : bm_Wp p l e R s m args below meth c Q dC dI B cy nL (pc + 2) ls (.inr (0, M.length) :: st) (M ++ [(102, [.inl (.int 0)])]) (nc + 1) (ns + 1)) : bm_Wp p l e R s m args below meth c Q dC dI B cy nL pc ls (.inl (.int 1) :: st) M nc ns := by
  intro H locs lsA hl hz hP hS
  obtain ⟨hx, hb, hml, hown, hts, hK, -, -, -⟩ := C
  refine va_newaK (atype := .long) (n := 1) (N := 1) hx hb (hts _ hw) rfl hd rfl (by decide) (by decide) (by decide) hc hs rfl fun H1 cA e1 z1 o1 hAr hNm => ?_
  have hk : ∀ (k : Nat) (x : Nat × va_E), (bm_W B cy M)[k]? = some x → H1[x.1]? = H[x.1]? := fun k x hx => o1 x.1 ((hP k x hx).lt)
  have hcA : H1[H.size]? = some (vp_cell (cy 2) (1, .inr (.inl (fun _ => 0)))) := by
    have h2 : s.vm.findClass ("[" ++ FieldType.long.toString) = some (cy 2) := (hK.2 2 _ rfl).2
    cases Option.some.inj (hNm.symm.trans h2)
    exact e1
  have hP1 : va_P (dC, dI) vwCl (bm_W B cy (M ++ [(102, [.inl (.int 0)])])) H1 := by
    rw [← bm_W_app]
    refine (hP.kept hk).app (fun k x hx => ?_)
    have hz1 : k < 1 := (List.getElem?_eq_some_iff.mp hx).1
    rw [show k = 0 by omega] at hx
    cases hx
    rw [← hz]
    exact hcA
  have := k H1 locs lsA hl (by rw [z1, hz, List.length_append]; rfl) hP1 ⟨Nat.le_trans hS.1 (by omega), fun x h1 h2 => (o1 x (Nat.lt_of_lt_of_le h1 hS.1)).trans (hS.2.1 x h1 h2), hS.2.2⟩
  rw [hz]
  exact this
end BMS
