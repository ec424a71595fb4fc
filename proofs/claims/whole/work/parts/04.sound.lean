/-! ===== the small machine is the machine: states, contracts, one step ===== -/
def am_U : List Cond := lw_tbl.filter goodWord
theorem am_U_good {big : List Cond} (h : ∀ w ∈ am_U, w ∈ big) : GoodIn big am_U := fun w hw => ⟨h w hw, good_of_word (List.mem_filter.mp hw).2⟩
def am_ty (cy : Nat → ClassId) : List (ClassId × FieldType) := [(cy 0, .int), (cy 1, .boolean), (cy 2, .long), (cy 4, .object RX1), (cy 7, .object RX4), (cy 8, .object RX5), (cy 9, .object RX6), (cy 11, .object RX8)]
/-- the class's rows of constants, and what a throw reads -/
def am_Ro (ad : Nat → Nat → Nat) (U : State) (H : Heap) : Prop :=
  va_Z RX6 "LEAST" "[I" (.ref (ad 27 0)) (am_A ad) U H ∧ va_T .int (ad 27 0) 16 (fun j => .int (am_st 27 j)) (am_A ad) U H ∧
  va_Z RX6 "MOST" "[I" (.ref (ad 28 0)) (am_A ad) U H ∧ va_T .int (ad 28 0) 16 (fun j => .int (am_st 28 j)) (am_A ad) U H ∧
  vx_Zq Bundle.tN "UNASSIGNED_STACK" Bundle.steD (am_A ad) U H ∧ vx_Zq Bundle.tN "SUPPRESSED_SENTINEL" Bundle.listD (am_A ad) U H
theorem am_Ro.moved {ad : Nat → Nat → Nat} {u U : State} {H : Heap} (hvm : u.vm.Alike U.vm) (h : am_Ro ad u H) : am_Ro ad U H :=
  ⟨va_Z.moved hvm h.1, va_T.moved hvm h.2.1, va_Z.moved hvm h.2.2.1, va_T.moved hvm h.2.2.2.1, vx_Zq.moved hvm h.2.2.2.2.1, vx_Zq.moved hvm h.2.2.2.2.2⟩
theorem am_Ro.kept {ad : Nat → Nat → Nat} {U : State} {H H1 : Heap} (h : am_Ro ad U H) (hq : ∀ a : Nat, a < H.size → ¬ am_A ad a → H1[a]? = H[a]?) : am_Ro ad U H1 :=
  ⟨va_Z.kept h.1 hq, va_T.kept h.2.1 hq, va_Z.kept h.2.2.1 hq, va_T.kept h.2.2.2.1 hq, vx_Zq.kept h.2.2.2.2.1 hq, vx_Zq.kept h.2.2.2.2.2 hq⟩
/-- calls of a nest mate's private static methods -/
def am_nl : List (String × Nat × MethodName × String) := [(RX0, 22, yX9_isWithin, RX9), (RX0, 32, yX9_rounded, RX9), (RX2, 17, yX9_isWithin, RX9), (RX6, 33, yX9_isWithin, RX9), (RX6, 83, yX9_rounded, RX9), (RX7, 46, yX9_isWithin, RX9)]
def am_isx (w : Cond) : Bool := match w with
  | .castable _ _ => true
  | .declares _ => true
  | _ => false
def am_xw : List Cond := lw_tbl.filter am_isx
def am_ex : List String := ["java/lang/IllegalArgumentException", "java/lang/IllegalStateException", "java/util/NoSuchElementException", "java/lang/IndexOutOfBoundsException"]
def am_Nk (U : State) : Prop := (∀ q ∈ am_nl, va_Nw (.methodLinkNest q.1 q.2.1 q.2.2.1 q.2.2.2) U) ∧ (∀ w ∈ am_xw, va_Nw w U) ∧ ∀ E ∈ am_ex, ∀ F ∈ am_ex, E ≠ F → va_Nc E F U
theorem am_xw_warm {w : Cond} (hx : am_isx w = true) {s U : State} (hW : s.WarmedH U.vm) (h : va_Nw w s) : va_Nw w U := by
  cases w with
  | castable a b => exact va_Nw.warmC hW h
  | declares x => exact va_Nw.warmD hW h
  | _ => cases hx
theorem am_Nc_moved {E F : String} {u U : State} (hvm : u.vm.Alike U.vm) (h : va_Nc E F u) : va_Nc E F U := by
  obtain ⟨c, t, h1, h2, h3⟩ := h
  exact ⟨c, t, by rw [hvm.findClass]; exact h1, by rw [hvm.findClass]; exact h2, by rw [hvm.assignable]; exact h3⟩
theorem am_Nk.warm {s U : State} (hW : s.WarmedH U.vm) (h : am_Nk s) : am_Nk U := ⟨fun q hq => va_Nw.warmM hW (h.1 q hq), fun w hw => am_xw_warm (List.mem_filter.mp hw).2 hW (h.2.1 w hw), fun E hE F hF hne => am_Nc_moved hW.alike (h.2.2 E hE F hF hne)⟩
theorem am_Nk.same {s U : State} (hv : s.vm = U.vm) (h : am_Nk s) : am_Nk U := am_Nk.warm (by rw [← hv]; exact State.WarmedH.refl s) h
def am_St (dC : Nat → ClassId) (dI : Nat → Nat → Nat) (ad : Nat → Nat → Nat) (cy : Nat → ClassId) (M : am_M) (U : State) : Prop :=
  va_P (dC, dI) vwCl (am_W ad cy M) U.heap ∧ va_K (dC, dI) vwCl (am_ty cy) U ∧ va_D (am_A ad) (am_W ad cy M) ∧ am_Ro ad U U.heap ∧ am_Nk U
theorem am_St_blind {dC : Nat → ClassId} {dI : Nat → Nat → Nat} {ad : Nat → Nat → Nat} {cy : Nat → ClassId} {M : am_M} {av : List Value} : FrameBlind (va_Pc av (am_St dC dI ad cy M)) := by
  rintro a U g mk ⟨h1, h2, h3, h4, h5, h6⟩
  exact ⟨h1, h2, va_K.moved (u := U) (U := U.calling g mk a) (Vm.Alike.refl U.vm) h3, h4, am_Ro.moved (u := U) (U := U.calling g mk a) (Vm.Alike.refl U.vm) h5, am_Nk.same (s := U) (U := U.calling g mk a) rfl h6⟩
/-- a method's end: it has returned r, the cells hold M -/
def am_Q (dC : Nat → ClassId) (dI : Nat → Nat → Nat) (ad : Nat → Nat → Nat) (cy : Nat → ClassId) (r : Option am_V) (M : am_M) : Array Value → State → Outcome → State → Prop := fun _ st o t =>
  o = .returned (r.map (am_co ad)) ∧ va_P (dC, dI) vwCl (am_W ad cy M) t.heap ∧ va_F (am_A ad) st t
/-- the contract of a method whose meaning is F -/
def am_Ok (l : Launch) (dC : Nat → ClassId) (dI : Nat → Nat → Nat) (ad : Nat → Nat → Nat) (cy : Nat → ClassId) (y : MethodName) (w : Cond) (rm : Room) (F : am_F) : Prop :=
  ∀ (av : List am_V) (M M' : am_M) (r : Option am_V), (∀ v ∈ av, am_ok v) → F av M = some (.inl r, M') →
    Met l y (w :: am_U) rm (va_Pc (av.map (am_co ad)) (am_St dC dI ad cy M)) (am_Q dC dI ad cy r M') rm.cells rm.slots (am_A ad)
theorem am_okv_ok {r : Option am_V} (h : am_okv r = true) : ∀ v, r = some v → am_ok v := by
  intro v hv
  subst hv
  cases v with
  | inl w => cases w <;> first | exact trivial | (cases h)
  | inr q => obtain ⟨k, j⟩ := q; exact Or.inl (Nat.blt_eq.mp h)
/-! tables -/
def am_T (c : Nat) : u_T := (vwCl.getD c (RX0, TX0, 0)).2.1
def am_N (c : Nat) : String := (vwCl.getD c (RX0, TX0, 0)).1
theorem am_cl_at : ∀ c, c < 11 → vwCl[c]? = some (am_N c, am_T c, am_nf c) := by
  intro c hc
  match c, hc with
  | 0, _ => rfl
  | 1, _ => rfl
  | 2, _ => rfl
  | 3, _ => rfl
  | 4, _ => rfl
  | 5, _ => rfl
  | 6, _ => rfl
  | 7, _ => rfl
  | 8, _ => rfl
  | 9, _ => rfl
  | 10, _ => rfl
theorem am_cl_nm : ∀ c, c < 11 → ∀ a, a < am_nf c → ∀ b, b < am_nf c → a ≠ b → (am_T c a).2.1 ≠ (am_T c b).2.1 := by decide +kernel
theorem am_cl_ty : ∀ c, c < 11 → ∀ f, f < am_nf c → (parseFieldDescriptor (am_T c f).2.2.1).isSome = true := by decide +kernel
theorem am_cl_num : ∀ c, c < 11 → ∀ f, f < am_nf c → am_ft c f = none → (am_T c f).2.2.2 = false ∧ parseFieldDescriptor (am_T c f).2.2.1 = some (cond (am_fz c f) .boolean .int) := by decide +kernel
theorem am_cl_ar : ∀ c, c < 11 → am_ar c = none := by decide +kernel
theorem am_ft_ct : ∀ c, c < 11 → ∀ f, f < am_nf c → ∀ k, am_ft c f = some k → am_ct c ≤ am_ct k := by decide +kernel
theorem am_ar_ct : ∀ k, k < 81 → ∀ e n, am_ar k = some (e + 3, n) → n ≤ am_ct e := by
  intro k hk e n h
  match k, hk with
  | k, hk =>
    have key : ∀ k, k < 81 → (match am_ar k with | some (e, n) => decide (e < 3) || decide (n ≤ am_ct (e - 3)) | none => true) = true := by decide +kernel
    have := key k hk
    rw [h] at this
    simp only [Bool.or_eq_true, decide_eq_true_eq, Nat.add_sub_cancel] at this
    rcases this with h | h
    · omega
    · exact h
theorem am_ar_ti : ∀ k, k < 81 → (match am_ar k with | some (e, _) => decide (e = 0 ∨ e = 1 ∨ e = 2 ∨ e = 4 ∨ e = 7 ∨ e = 8 ∨ e = 9 ∨ e = 11) | none => true) = true := by decide +kernel
theorem am_ar_lt {k : Nat} {x : Nat × Nat} (h : am_ar k = some x) : k < 81 := by
  rcases Nat.lt_or_ge k 81 with q | q
  · exact q
  · exfalso
    unfold am_ar at h
    rw [List.getD_eq_getElem?_getD, List.getElem?_eq_none (by show 81 ≤ k; exact q)] at h
    cases h
theorem am_ar_ro : am_ar 27 = none ∧ am_ar 28 = none ∧ am_ar 29 = none := by decide +kernel
theorem am_in_vp {x : Int32} {n : Nat} (h : am_in x n) : vp_in x n := vp_in_iff.mpr h
