/-! ===== the small machine's memory as a world of cells ===== -/
def am_co (ad : Nat → Nat → Nat) : am_V → Value
  | .inl v => v
  | .inr q => .ref (ad q.1 q.2)
/-- a reference is to a cell that is there (27, 28: the two rows of constants, 29: the script) -/
def am_ok : am_V → Prop
  | .inl (.double _) => False
  | .inl _ => True
  | .inr q => q.2 < am_ct q.1 ∨ ((q.1 = 27 ∨ q.1 = 28 ∨ q.1 = 29) ∧ q.2 = 0)
def am_fv (ad : Nat → Nat → Nat) (k i : Nat) (f : Nat → Int32) (j : Nat) : Value := match am_ft k j with
  | some k' => .ref (ad k' i)
  | none => .int (cond (am_fz k j) (am_b (f j)) (f j))
def am_en (ad : Nat → Nat → Nat) (cy : Nat → ClassId) (k i : Nat) (f : Nat → Int32) : va_E := match am_ar k with
  | none => .inr (k, (List.range (am_nf k)).map (am_fv ad k i f))
  | some (0, n) => .inl (cy 0, n, .inl f)
  | some (1, n) => .inl (cy 1, n, .inl (fun j => am_b (f j)))
  | some (2, n) => .inl (cy 2, n, .inr (.inl (fun j => am_jn (f (2 * j)) (f (2 * j + 1)))))
  | some (e + 3, n) => .inl (cy (e + 3), n, .inr (.inr (.inr (.inr (fun j => some (ad e j))))))
def am_KI : List (Nat × Nat) := (List.range 81).flatMap (fun k => (List.range (am_ct k)).map (fun i => (k, i)))
def am_W (ad : Nat → Nat → Nat) (cy : Nat → ClassId) (M : am_M) : va_W := am_KI.map (fun q => (ad q.1 q.2, am_en ad cy q.1 q.2 (M q.1 q.2)))
def am_A (ad : Nat → Nat → Nat) : Nat → Prop := fun q => ∃ k i, i < am_ct k ∧ q = ad k i
def am_up (M : am_M) (k i : Nat) (f : Nat → Int32) : am_M := fun k' i' => if k' = k ∧ i' = i then f else M k' i'
theorem am_ct_lt {k i : Nat} (h : i < am_ct k) : k < 81 := by
  rcases Nat.lt_or_ge k 81 with q | q
  · exact q
  · exfalso
    have h0 : am_ct k = 0 := by
      unfold am_ct
      rw [List.getD_eq_getElem?_getD, List.getElem?_eq_none (by show 81 ≤ k; exact q)]
      rfl
    omega
theorem am_mem {k i : Nat} (h : i < am_ct k) : (k, i) ∈ am_KI :=
  List.mem_flatMap.mpr ⟨k, List.mem_range.mpr (am_ct_lt h), List.mem_map.mpr ⟨i, List.mem_range.mpr h, rfl⟩⟩
theorem am_mem_of {q : Nat × Nat} (h : q ∈ am_KI) : q.2 < am_ct q.1 := by
  obtain ⟨k, -, h2⟩ := List.mem_flatMap.mp h
  obtain ⟨i, h3, rfl⟩ := List.mem_map.mp h2
  exact List.mem_range.mp h3
theorem am_KI_nd : va_nd (am_KI.map (fun q => q.1 * 1000 + q.2)) = true := by decide +kernel
theorem am_KI_small : ∀ q ∈ am_KI, q.2 < 1000 := by decide +kernel
theorem am_KI_inj {i j : Nat} {q : Nat × Nat} (h1 : am_KI[i]? = some q) (h2 : am_KI[j]? = some q) : i = j :=
  va_nd_inj _ am_KI_nd i j (q.1 * 1000 + q.2) (by rw [List.getElem?_map, h1]; rfl) (by rw [List.getElem?_map, h2]; rfl)
theorem am_wget {ad : Nat → Nat → Nat} {cy : Nat → ClassId} (M : am_M) {k i : Nat} (h : i < am_ct k) :
    ∃ q0, (am_W ad cy M)[q0]? = some (ad k i, am_en ad cy k i (M k i)) ∧ ∀ f, (am_W ad cy M).set q0 (ad k i, am_en ad cy k i f) = am_W ad cy (am_up M k i f) := by
  obtain ⟨q0, hq⟩ := List.getElem?_of_mem (am_mem h)
  refine ⟨q0, by unfold am_W; rw [List.getElem?_map, hq]; rfl, fun f => ?_⟩
  apply List.ext_getElem?
  intro j
  by_cases hj : j = q0
  · subst hj
    have hl : j < (am_W ad cy M).length := by
      unfold am_W
      rw [List.length_map]
      exact (List.getElem?_eq_some_iff.mp hq).1
    rw [List.getElem?_set_self hl]
    unfold am_W
    rw [List.getElem?_map, hq]
    simp [am_up]
  · rw [List.getElem?_set_ne (Ne.symm hj)]
    unfold am_W
    rw [List.getElem?_map, List.getElem?_map]
    cases hz : am_KI[j]? with
    | none => rfl
    | some z =>
      have hne : ¬ (z.1 = k ∧ z.2 = i) := fun e => hj (am_KI_inj hz (by rw [hq, ← e.1, ← e.2]))
      simp [am_up, hne]
theorem am_put_up (M : am_M) (k i f : Nat) (v : Int32) : am_put M k i f v = am_up M k i (upd (M k i) f v) := by
  funext k' i' f'
  unfold am_put am_up upd
  by_cases h : k' = k ∧ i' = i
  · obtain ⟨rfl, rfl⟩ := h
    by_cases hf : f' = f <;> simp [hf]
  · rw [if_neg h, if_neg (fun q => h ⟨q.1, q.2.1⟩)]
theorem am_W_at {ad : Nat → Nat → Nat} {cy : Nat → ClassId} {M : am_M} {q : Nat} {x : Nat × va_E} (h : (am_W ad cy M)[q]? = some x) : ∃ z, am_KI[q]? = some z ∧ x.1 = ad z.1 z.2 := by
  unfold am_W at h
  rw [List.getElem?_map] at h
  cases hz : am_KI[q]? with
  | none => rw [hz] at h; cases h
  | some z => rw [hz] at h; cases h; exact ⟨z, rfl, rfl⟩
theorem am_D_of {ad : Nat → Nat → Nat} {cy : Nat → ClassId} {A B : Nat → Prop} {M : am_M} (h : va_D A (am_W ad cy M)) (hB : ∀ k i, i < am_ct k → A (ad k i) → B (ad k i)) (M' : am_M) : va_D B (am_W ad cy M') := by
  have key : ∀ {q : Nat} {x : Nat × va_E}, (am_W ad cy M')[q]? = some x → ∃ y, (am_W ad cy M)[q]? = some y ∧ y.1 = x.1 := by
    intro q x hx
    obtain ⟨z, hz, e⟩ := am_W_at hx
    refine ⟨(ad z.1 z.2, am_en ad cy z.1 z.2 (M z.1 z.2)), by unfold am_W; rw [List.getElem?_map, hz]; rfl, e.symm⟩
  refine ⟨fun i j p q hp hq hpq => ?_, fun k q hq => ?_⟩
  · obtain ⟨y1, h1, e1⟩ := key hp
    obtain ⟨y2, h2, e2⟩ := key hq
    exact h.1 i j y1 y2 h1 h2 (e1.trans (hpq.trans e2.symm))
  · obtain ⟨z, hz, e⟩ := am_W_at hq
    obtain ⟨y, hy, e2⟩ := key hq
    rw [e]
    exact hB z.1 z.2 (am_mem_of (List.mem_of_getElem? hz)) (by rw [← e, ← e2]; exact h.2 k y hy)
theorem am_b_b (x : Int32) : am_b (am_b x) = am_b x := by
  unfold am_b
  by_cases h : x = 0
  · simp [h]
  · simp [h]
theorem am_b01 {x : Int32} (h : am_b x = x) : x = 0 ∨ x = 1 := by
  unfold am_b at h
  by_cases q : x = 0
  · exact Or.inl q
  · rw [if_neg q] at h; exact Or.inr h.symm
theorem am_jn_eq (x : Int64) : am_jn (am_hi x) (am_lo x) = x := by
  have hx : x.toBitVec.toNat < 18446744073709551616 := x.toBitVec.isLt
  have h1 : (am_hi x).toBitVec.toNat = x.toBitVec.toNat / 4294967296 := by
    unfold am_hi
    show (x.toBitVec.toNat / 4294967296) % 4294967296 = _
    omega
  have h2 : (am_lo x).toBitVec.toNat = x.toBitVec.toNat % 4294967296 := by
    unfold am_lo
    show (x.toBitVec.toNat % 4294967296) % 4294967296 = _
    omega
  unfold am_jn
  rw [h1, h2, show x.toBitVec.toNat / 4294967296 * 4294967296 + x.toBitVec.toNat % 4294967296 = x.toBitVec.toNat by omega]
  apply Int64.toBitVec_inj.mp
  apply BitVec.eq_of_toNat_eq
  show x.toBitVec.toNat % 18446744073709551616 = _
  omega
/-! the locals -/
def am_lv (ad : Nat → Nat → Nat) : Nat → List am_V → List (Nat × Value)
  | _, [] => []
  | n, v :: l => cond (am_isD v) (am_lv ad (n + 1) l) ((n, am_co ad v) :: am_lv ad (n + 1) l)
theorem am_lv_mem {ad : Nat → Nat → Nat} {q : Nat × Value} : ∀ {n : Nat} {ls : List am_V}, q ∈ am_lv ad n ls ↔ ∃ j v, ls[j]? = some v ∧ am_isD v = false ∧ q = (n + j, am_co ad v)
  | n, [] => by simp [am_lv]
  | n, v :: l => by
    have ih := @am_lv_mem ad q (n + 1) l
    constructor
    · intro h
      unfold am_lv at h
      cases hd : am_isD v with
      | true =>
        rw [hd] at h
        obtain ⟨j, w, h1, h2, h3⟩ := ih.mp h
        exact ⟨j + 1, w, by simpa using h1, h2, by rw [h3]; simp; omega⟩
      | false =>
        rw [hd] at h
        rcases List.mem_cons.mp h with h | h
        · exact ⟨0, v, rfl, hd, by rw [h]; rfl⟩
        · obtain ⟨j, w, h1, h2, h3⟩ := ih.mp h
          exact ⟨j + 1, w, by simpa using h1, h2, by rw [h3]; simp; omega⟩
    · rintro ⟨j, w, h1, h2, h3⟩
      unfold am_lv
      cases j with
      | zero =>
        simp at h1
        subst h1
        rw [h2]
        exact List.mem_cons.mpr (Or.inl (by rw [h3]; rfl))
      | succ j =>
        have hm : q ∈ am_lv ad (n + 1) l := ih.mpr ⟨j, w, by simpa using h1, h2, by rw [h3]; simp; omega⟩
        cases am_isD v with
        | true => exact hm
        | false => exact List.mem_cons.mpr (Or.inr hm)
theorem am_lv_at {ad : Nat → Nat → Nat} {lsA : Array Slot} {nL : Nat} {ls : List am_V} (h : lv_has lsA nL (am_lv ad 0 ls)) {j : Nat} {v : am_V} (hv : ls[j]? = some v) (hd : am_isD v = false) : lsA[j]? = some (.val (am_co ad v)) :=
  h.2.2 (j, am_co ad v) (am_lv_mem.mpr ⟨j, v, hv, hd, by simp⟩)
theorem am_isD_co {ad : Nat → Nat → Nat} {v : am_V} (h : am_isD v = false) (h2 : (am_co ad v).category = 2) : (∃ x, v = .inl (.long x)) ∨ ∃ x, v = .inl (.double x) := by
  cases v with
  | inl w => cases w <;> first | exact Or.inl ⟨_, rfl⟩ | exact Or.inr ⟨_, rfl⟩ | (simp [am_co, Value.category] at h2)
  | inr q => simp [am_co, Value.category] at h2
theorem am_kill_at {ls : List am_V} {i j : Nat} {v : am_V} (h : (am_kill ls i)[j]? = some v) (hd : am_isD v = false) : ls[j]? = some v ∧ ¬ (j + 1 = i ∧ ∃ x, v = .inl (.long x)) := by
  unfold am_kill at h
  cases i with
  | zero => exact ⟨h, fun q => by omega⟩
  | succ i =>
    simp only at h
    split at h
    · rename_i x hx
      by_cases hj : j = i
      · subst hj
        rw [List.getElem?_set_self (List.getElem?_eq_some_iff.mp hx).1] at h
        cases h
        cases hd
      · rw [List.getElem?_set_ne (Ne.symm hj)] at h
        exact ⟨h, fun q => hj (by omega)⟩
    · rename_i hx
      refine ⟨h, fun q => ?_⟩
      obtain ⟨e1, x, rfl⟩ := q
      have : j = i := by omega
      subst this
      exact hx x h
def am_nod : List am_V → Prop := fun ls => ∀ (j : Nat) (x : UInt64), ls[j]? ≠ some (.inl (.double x))
theorem am_lv_set1 {ad : Nat → Nat → Nat} {lsA : Array Slot} {nL : Nat} {ls : List am_V} {i : Nat} {v : am_V} (hn : am_nod ls) (h : lv_has lsA nL ((i, am_co ad v) :: (am_lv ad 0 ls).filter (fun q => !(q.1 == i) && !(q.1 + 1 == i && q.2.category == 2)))) : lv_has lsA nL (am_lv ad 0 (am_set1 ls i v)) := by
  refine ⟨h.1, h.2.1, fun q hq => h.2.2 q ?_⟩
  obtain ⟨j, w, h1, h2, rfl⟩ := am_lv_mem.mp hq
  unfold am_set1 at h1
  by_cases hj : j = i
  · subst hj
    by_cases hl : j < (am_kill ls j).length
    · rw [List.getElem?_set_self hl] at h1
      cases h1
      exact List.mem_cons.mpr (Or.inl (by simp))
    · rw [List.getElem?_eq_none (by simpa using hl)] at h1
      cases h1
  · rw [List.getElem?_set_ne (Ne.symm hj)] at h1
    obtain ⟨h3, h4⟩ := am_kill_at h1 h2
    refine List.mem_cons.mpr (Or.inr (List.mem_filter.mpr ⟨am_lv_mem.mpr ⟨j, w, h3, h2, rfl⟩, ?_⟩))
    have h5 : ¬ (j + 1 = i ∧ (am_co ad w).category = 2) := fun e => by
      rcases am_isD_co h2 e.2 with ⟨x, hx⟩ | ⟨x, hx⟩
      · exact h4 ⟨e.1, x, hx⟩
      · exact hn j x (by rw [h3, hx])
    simp only [Bool.and_eq_true, Bool.not_eq_true', beq_eq_false_iff_ne, ne_eq, Bool.and_eq_false_iff, Nat.zero_add]
    refine ⟨hj, ?_⟩
    by_cases hz : j + 1 = i
    · exact Or.inr (fun e => h5 ⟨hz, e⟩)
    · exact Or.inl hz
theorem am_lv_set2 {ad : Nat → Nat → Nat} {lsA : Array Slot} {nL : Nat} {ls : List am_V} {i : Nat} {v : am_V} (hn : am_nod ls) (h : lv_has lsA nL ((i, am_co ad v) :: (am_lv ad 0 ls).filter (fun q => !(q.1 == i) && (!(q.1 == i + 1) && !(q.1 + 1 == i && q.2.category == 2))))) : lv_has lsA nL (am_lv ad 0 (am_set2 ls i v)) := by
  refine ⟨h.1, h.2.1, fun q hq => h.2.2 q ?_⟩
  obtain ⟨j, w, h1, h2, rfl⟩ := am_lv_mem.mp hq
  unfold am_set2 at h1
  have hj1 : ¬ j = i + 1 := fun e => by
    subst e
    by_cases hl : i + 1 < ((am_kill ls i).set i v).length
    · rw [List.getElem?_set_self hl] at h1
      cases h1
      cases h2
    · rw [List.getElem?_eq_none (by simpa using hl)] at h1
      cases h1
  rw [List.getElem?_set_ne (Ne.symm hj1)] at h1
  by_cases hj : j = i
  · subst hj
    by_cases hl : j < (am_kill ls j).length
    · rw [List.getElem?_set_self hl] at h1
      cases h1
      exact List.mem_cons.mpr (Or.inl (by simp))
    · rw [List.getElem?_eq_none (by simpa using hl)] at h1
      cases h1
  · rw [List.getElem?_set_ne (Ne.symm hj)] at h1
    obtain ⟨h3, h4⟩ := am_kill_at h1 h2
    refine List.mem_cons.mpr (Or.inr (List.mem_filter.mpr ⟨am_lv_mem.mpr ⟨j, w, h3, h2, rfl⟩, ?_⟩))
    have h5 : ¬ (j + 1 = i ∧ (am_co ad w).category = 2) := fun e => by
      rcases am_isD_co h2 e.2 with ⟨x, hx⟩ | ⟨x, hx⟩
      · exact h4 ⟨e.1, x, hx⟩
      · exact hn j x (by rw [h3, hx])
    simp only [Bool.and_eq_true, Bool.not_eq_true', beq_eq_false_iff_ne, ne_eq, Bool.and_eq_false_iff, Nat.zero_add]
    refine ⟨hj, hj1, ?_⟩
    by_cases hz : j + 1 = i
    · exact Or.inr (fun e => h5 ⟨hz, e⟩)
    · exact Or.inl hz
