/-! ===== what the relation gives, and how it is kept ===== -/
theorem hge {X : Int32} {n i : Nat} (e : X = i3 n) (h : i < n) (hn : n ≤ 1000) : ¬ X ≤ i3 i := by
  rw [e]; intro q
  have := (i3_le (by omega) (by omega)).mp q
  omega
theorem hen {X : Int32} {n : Nat} (e : X = i3 n) (hn : n ≤ 1000) : X ≤ i3 n := by
  rw [e]; exact (i3_le (by omega) (by omega)).mpr (Nat.le_refl _)
/-- a place from a number in 0..m -/
theorem pl {x : Int32} {m : Nat} (hm : m < 2147483648) (h : 0 ≤ x ∧ x ≤ i3 m) : ∃ k, k < m + 1 ∧ x = i3 k := by
  obtain ⟨k, hk, e⟩ := i3_ex hm h.1 h.2
  exact ⟨k, Nat.lt_succ_of_le hk, e⟩
theorem wi_01 {x : Int32} {m : Nat} (h : wi x m) (hm : m < 2147483648) : (x = 0 ∨ x = 1) ↔ nt x ≤ 1 := by
  refine ⟨fun q => ?_, fun q => ?_⟩
  · rcases q with q | q
    · rw [q]; decide
    · rw [q]; decide
  · have h1 := h.1
    rcases Nat.lt_or_ge (nt x) 1 with q1 | q1
    · left; rw [h1, show nt x = 0 by omega]; rfl
    · right; rw [h1, show nt x = 1 by omega]; rfl
theorem wi_n1 {x : Int32} {m : Nat} (h : wi x m) (hm : m < 2147483648) : ¬ (1 < x) ↔ nt x ≤ 1 := by
  have h1 : x = i3 (nt x) := h.1
  have e : (1 : Int32) < x ↔ 1 < nt x := by
    conv => lhs; rw [h1]
    exact i3_lt (a := 1) (by decide) (nt_lt x)
  rw [e]; omega
theorem wi_eq {x : Int32} {m : Nat} (h : wi x m) {k : Nat} (hk : k < 2147483648) : x = i3 k ↔ nt x = k := by
  refine ⟨fun q => ?_, fun q => ?_⟩
  · rw [q]; exact nt_i hk
  · rw [← q]; exact h.1
theorem cmpl_cg {D D' : am_M} {t : Nat} (h : cmpl D t) (e : ∀ f, f < 16 → fd D' t f = fd D t f) (e34 : D' 34 0 t = D 34 0 t) : cmpl D' t := by
  unfold cmpl at h ⊢
  rw [e 1 (by decide), e 3 (by decide), e 4 (by decide), e 6 (by decide), e 7 (by decide), e 8 (by decide), e 9 (by decide), e34]
  exact h
theorem pnd1_cg {T c o t w : Nat} {C C' D D' : am_M} (hw : w < 2) (e1 : C' 1 c 4 = C 1 c 4) (e14 : C' 14 c w = C 14 c w) (e15 : C' 15 c w = C 15 c w) (d52 : D' 52 0 o = D 52 0 o) (dF : ∀ f, f < 16 → fd D' t f = fd D t f) : pnd1 T C' D' c o t w = pnd1 T C D c o t w := by
  unfold pnd1
  rw [e1, e14, e15, d52, dF (3 + 3 * w) (by omega), dF (1 + 3 * w) (by omega)]
theorem RU_cg {lo ms jd T c o t : Nat} {L L' : List Bk} {C C' D D' : am_M} (h : RU lo ms jd T L C D c o t) (e1 : ∀ f, f < 8 → C' 1 c f = C 1 c f) (e13 : ∀ j, C' 13 c j = C 13 c j) (e14 : ∀ j, C' 14 c j = C 14 c j) (e15 : ∀ j, C' 15 c j = C 15 c j) (d59 : D' 59 0 c = D 59 0 c) (d52 : D' 52 0 o = D 52 0 o) (d54 : D' 54 0 o = D 54 0 o) (d56 : D' 56 0 o = D 56 0 o) (d55 : ∀ j, j < nt (D 56 0 o) → D' 55 0 (6 * o + j) = D 55 0 (6 * o + j)) (dF : ∀ f, f < 16 → fd D' t f = fd D t f) (hL : L'.filter (fun x => x.2.2.2.2 == o) = L.filter (fun x => x.2.2.2.2 == o)) : RU lo ms jd T L' C' D' c o t := by
  obtain ⟨h1, h2, h3, h4, h5, h6, h7, h8, h9, h10, h11, h12, h13, h14, h15⟩ := h
  unfold RU
  rw [pnd1_cg (by decide) (e1 4 (by decide)) (e14 0) (e15 0) d52 dF, pnd1_cg (by decide) (e1 4 (by decide)) (e14 1) (e15 1) d52 dF, hL, e1 5 (by decide), e1 7 (by decide), e1 6 (by decide), e1 1 (by decide), e1 4 (by decide), d59, d52, d54, d56, dF 8 (by decide), dF 7 (by decide)]
  refine ⟨h1, h2, h3, h4, h5, h6, h7, h8, h9, h10, fun j hj => ?_, h12, fun w hw => ?_, fun w hw => ?_, h15⟩
  · rw [e13, d55 j hj]; exact h11 j hj
  · rw [e14, e15, dF (1 + 3 * w) (by omega), dF (2 + 3 * w) (by omega)]; exact h13 w hw
  · rw [e14, dF (3 + 3 * w) (by omega)]; exact h14 w hw
/-- between two calls -/
def St (T : Nat) (C D : am_M) : Prop := ∃ n L, Rel 1 40 40 T n L C D
theorem Rel_thr {lo ms jd T n : Nat} {L : List Bk} {C D : am_M} {v : Int32} (h : Rel lo ms jd T n L C D) : Rel lo ms jd T n L C (am_put D 10 0 45 v) := h
/-- the law's row of one number -/
def ob (C : am_M) (w : Int64) : am_M := am_put (am_put C 80 0 (2 * 0) (am_hi w)) 80 0 (2 * 0 + 1) (am_lo w)
theorem ob_jn (C : am_M) (w : Int64) : am_jn (ob C w 80 0 (2 * 0)) (ob C w 80 0 (2 * 0 + 1)) = w := am_jn_eq w
theorem Rel_ob {lo ms jd T n : Nat} {L : List Bk} {C D : am_M} {w : Int64} (h : Rel lo ms jd T n L C D) : Rel lo ms jd T n L (ob C w) D := h
theorem RP_wi {C D : am_M} (h : RP C D) {t f m : Nat} (ht : t < 4) (hf : f < 16) (h0 : am_st 27 f = 0) (h1 : am_st 28 f = i3 m) (hm : m < 2147483648) : wi (fd D t f) m := by
  have := h.2.1 t f ht hf
  rw [h0, h1] at this
  exact wi_le hm this.1 this.2
theorem put_ne {M : am_M} {k i f k' i' f' : Nat} {v : Int32} (h : ¬ (k' = k ∧ i' = i ∧ f' = f)) : am_put M k i f v k' i' f' = M k' i' f' := if_neg h
theorem put_eq {M : am_M} {k i f k' i' f' : Nat} {v : Int32} (h : k' = k ∧ i' = i ∧ f' = f) : am_put M k i f v k' i' f' = v := if_pos h
/-! search loops over the orders -/
def ord (D : am_M) (n : Nat) (x : Int32) : Prop := ∃ i, i < n ∧ D 46 0 i = x ∧ nt (D 48 0 i) ≤ 1
def awt (D : am_M) (n : Nat) (x : Int32) : Prop := ∃ i, i < n ∧ D 45 0 i = x ∧ nt (D 48 0 i) ≤ 1
theorem sX9_isOrdered {T n : Nat} {C D : am_M} (hN : RN T n C D) (hO : RO n C D) (x : Int32) : fX9_isOrdered [.inr (9, 0), .inl (.int x)] C = am_rI (bi (ord D n x)) C := by
  have hn := hN.1
  have h40 := hN.2.2.1
  have key : ∀ i, i < n → (((C 4 i 3 = 0 ∨ C 4 i 3 = 1) ∧ C 4 i 1 = x) ↔ (D 46 0 i = x ∧ nt (D 48 0 i) ≤ 1)) := by
    intro i hi
    obtain ⟨_, e1, _, e3, _⟩ := hO.1 i (by omega)
    have w := (hO.2.1 i (by omega)).2.2.1
    rw [e1, e3, wi_01 w (by decide)]
    exact And.comm
  rw [show bi (ord D n x) = bi (∃ i, i < n ∧ ((C 4 i 3 = 0 ∨ C 4 i 3 = 1) ∧ C 4 i 1 = x)) from bi_c ⟨fun ⟨i, hi, h⟩ => ⟨i, hi, (key i hi).mpr h⟩, fun ⟨i, hi, h⟩ => ⟨i, hi, (key i hi).mp h⟩⟩]
  refine qX9_isOrdered_0 (lp_bi (r := fun m i => rX9_isOrdered m 2 [.inr (9, 0), .inl (.int x), .inl (.int (i3 i))] [] C) (N := n) (c := 200) (m := 99900) ?_ ?_ ?_ (by omega))
  · intro i m hi hp
    exact qX9_isOrdered_2_2 (hge hn hi (by omega)) (by omega) hp.1 hp.2
  · intro i m res hi hp k
    by_cases h : C 4 i 3 = 0 ∨ C 4 i 3 = 1
    · exact qX9_isOrdered_2_3 (hge hn hi (by omega)) (by omega) h (fun q => hp ⟨h, q⟩) k
    · exact qX9_isOrdered_2_1 (hge hn hi (by omega)) (by omega) h k
  · intro m
    exact qX9_isOrdered_2_0 (n := m + 100) (hen hn (by omega))
theorem sX10_pending {T n : Nat} {C D : am_M} (hN : RN T n C D) (hO : RO n C D) (x : Int32) : fX10_pending [.inr (10, 0), .inl (.int x)] D = am_rI (bi (ord D n x)) D := by
  have hn := hN.2.1
  have h40 := hN.2.2.1
  refine qX10_pending_0 (lp_bi (r := fun m i => rX10_pending m 2 [.inr (10, 0), .inl (.int x), .inl (.int (i3 i))] [] D) (N := n) (c := 100) (m := 99900) ?_ ?_ ?_ (by omega))
  · intro i m hi hp
    exact qX10_pending_2_2 (hge hn hi (by omega)) (by omega) hp.1 ((wi_n1 (hO.2.1 i (by omega)).2.2.1 (by decide)).mpr hp.2)
  · intro i m res hi hp k
    by_cases h : D 46 0 i = x
    · exact qX10_pending_2_1 (hge hn hi (by omega)) (by omega) h (Classical.byContradiction fun q => hp ⟨h, (wi_n1 (hO.2.1 i (by omega)).2.2.1 (by decide)).mp q⟩) k
    · exact qX10_pending_2_3 (hge hn hi (by omega)) (by omega) h k
  · intro m
    exact qX10_pending_2_0 (hen hn (by omega))
theorem sX9_isAwaited {T n : Nat} {C D : am_M} (hN : RN T n C D) (hO : RO n C D) (x : Int32) : fX9_isAwaited [.inr (9, 0), .inl (.int x)] C = am_rI (bi (awt D n x)) C := by
  have hn := hN.1
  have h40 := hN.2.2.1
  have key : ∀ i, i < n → (((C 4 i 3 = 0 ∨ C 4 i 3 = 1) ∧ C 4 i 0 = x) ↔ (D 45 0 i = x ∧ nt (D 48 0 i) ≤ 1)) := by
    intro i hi
    obtain ⟨e0, _, _, e3, _⟩ := hO.1 i (by omega)
    have w := (hO.2.1 i (by omega)).2.2.1
    rw [e0 hi, e3, wi_01 w (by decide)]
    exact And.comm
  rw [show bi (awt D n x) = bi (∃ i, i < n ∧ ((C 4 i 3 = 0 ∨ C 4 i 3 = 1) ∧ C 4 i 0 = x)) from bi_c ⟨fun ⟨i, hi, h⟩ => ⟨i, hi, (key i hi).mpr h⟩, fun ⟨i, hi, h⟩ => ⟨i, hi, (key i hi).mp h⟩⟩]
  refine qX9_isAwaited_0 (lp_bi (r := fun m i => rX9_isAwaited m 2 [.inr (9, 0), .inl (.int x), .inl (.int (i3 i))] [] C) (N := n) (c := 200) (m := 99900) ?_ ?_ ?_ (by omega))
  · intro i m hi hp
    exact qX9_isAwaited_2_2 (hge hn hi (by omega)) (by omega) hp.1 hp.2
  · intro i m res hi hp k
    by_cases h : C 4 i 3 = 0 ∨ C 4 i 3 = 1
    · exact qX9_isAwaited_2_3 (hge hn hi (by omega)) (by omega) h (fun q => hp ⟨h, q⟩) k
    · exact qX9_isAwaited_2_1 (hge hn hi (by omega)) (by omega) h k
  · intro m
    exact qX9_isAwaited_2_0 (n := m + 100) (hen hn (by omega))
/-- the first place that answers, or -1 -/
noncomputable def fst1 (P : Nat → Prop) : Nat → Nat → Int32
  | 0, _ => -1
  | k + 1, i => @ite _ (P i) (Classical.propDecidable _) (i3 i) (fst1 P k (i + 1))
theorem fst1_cg {P Q : Nat → Prop} : ∀ (k i : Nat), (∀ j, i ≤ j → j < i + k → (P j ↔ Q j)) → fst1 P k i = fst1 Q k i
  | 0, _, _ => rfl
  | k + 1, i, h => by
    unfold fst1
    rw [propext (h i (Nat.le_refl i) (by omega)), fst1_cg k (i + 1) (fun j h1 h2 => h j (by omega) (by omega))]
theorem fst1_spec {P : Nat → Prop} : ∀ (k i : Nat), (fst1 P k i = -1 ∧ ∀ j, i ≤ j → j < i + k → ¬ P j) ∨ ∃ j, i ≤ j ∧ j < i + k ∧ P j ∧ fst1 P k i = i3 j
  | 0, i => Or.inl ⟨rfl, fun j h1 h2 => by omega⟩
  | k + 1, i => by
    unfold fst1
    by_cases h : P i
    · rw [if_pos h]; exact Or.inr ⟨i, Nat.le_refl i, by omega, h, rfl⟩
    · rw [if_neg h]
      rcases fst1_spec (P := P) k (i + 1) with ⟨e, q⟩ | ⟨j, h1, h2, h3, e⟩
      · refine Or.inl ⟨e, fun j h1 h2 => ?_⟩
        by_cases ej : j = i
        · rw [ej]; exact h
        · exact q j (by omega) (by omega)
      · exact Or.inr ⟨j, by omega, by omega, h3, e⟩
theorem lp_first {r : Nat → Nat → am_R} {N c : Nat} {P : Nat → Prop} {M : am_M}
    (hy : ∀ i n, i < N → P i → r (n + c) i = am_rI (i3 i) M)
    (hn : ∀ i n res, i < N → ¬ P i → r n (i + 1) = some res → r (n + c) i = some res)
    (he : ∀ n, r (n + c) N = am_rI (-1) M) : ∀ (k i m : Nat), i + k = N → c * (k + 1) ≤ m → r m i = am_rI (fst1 P k i) M
  | 0, i, m, hi, hm => by
    have e : i = N := by omega
    subst e
    rw [show m = (m - c) + c by omega]
    exact he _
  | k + 1, i, m, hi, hm => by
    have hmul : c * (k + 1 + 1) = c * (k + 1) + c := by rw [Nat.mul_add c (k + 1) 1, Nat.mul_one]
    unfold fst1
    rw [show m = (m - c) + c by omega]
    by_cases h : P i
    · rw [if_pos h]; exact hy i _ (by omega) h
    · rw [if_neg h]; exact hn i _ _ (by omega) h (lp_first hy hn he k (i + 1) _ (by omega) (by omega))
theorem sX9_slotOf (x : Int32) (M : am_M) : fX9_slotOf [.inr (9, 0), .inl (.int x)] M = am_rI (fst1 (fun s => M 8 s 0 = x) 6 0) M := by
  refine qX9_slotOf_0 (lp_first (r := fun m i => rX9_slotOf m 2 [.inr (9, 0), .inl (.int x), .inl (.int (i3 i))] [] M) (N := 6) (c := 100) ?_ ?_ ?_ 6 0 99900 rfl (by omega))
  · intro i m hi hp
    exact qX9_slotOf_2_1 (hge (n := 6) rfl hi (by decide)) hi hp
  · intro i m res hi hp k
    exact qX9_slotOf_2_2 (hge (n := 6) rfl hi (by decide)) hi hp k
  · intro m
    exact qX9_slotOf_2_0 (hen rfl (by omega))
theorem sX10_slotOf (x : Int32) (M : am_M) : fX10_slotOf [.inr (10, 0), .inl (.int x)] M = am_rI (fst1 (fun s => M 37 0 s = x) 6 0) M := by
  refine qX10_slotOf_0 (lp_first (r := fun m i => rX10_slotOf m 2 [.inr (10, 0), .inl (.int x), .inl (.int (i3 i))] [] M) (N := 6) (c := 100) ?_ ?_ ?_ 6 0 99900 rfl (by omega))
  · intro i m hi hp
    exact qX10_slotOf_2_1 (hge (n := 6) rfl hi (by decide)) hi hp
  · intro i m res hi hp k
    exact qX10_slotOf_2_2 (hge (n := 6) rfl hi (by decide)) hi hp k
  · intro m
    exact qX10_slotOf_2_0 (hen rfl (by omega))
theorem slot_cg {C D : am_M} (hS : RS C D) {x : Int32} (h1 : 1 ≤ x) : fst1 (fun s => C 8 s 0 = x) 6 0 = fst1 (fun s => D 37 0 s = x) 6 0 := by
  refine fst1_cg 6 0 (fun s _ h2 => ?_)
  rcases (hS s (by omega)).1 with ⟨a, b⟩ | ⟨a, _⟩
  · rw [a, b]
    refine ⟨fun q => ?_, fun q => ?_⟩
    · rw [← q] at h1; exact absurd h1 (by decide)
    · rw [← q] at h1; exact absurd h1 (by decide)
  · rw [a]
theorem sX10_reserved {L : List Bk} {D : am_M} {p : Nat} (hp : p < 8) (hb : D 10 0 36 = i3 L.length) (hl : L.length ≤ 24) (hc : ∀ b x, L[b]? = some x → D 63 0 b = i3 x.2.2.1 ∧ D 64 0 b = i3 x.2.2.2.1) (hr : ∀ x, x ∈ L → x.2.2.1 < 8) : fX10_reserved [.inr (10, 0), .inl (.int (i3 p))] D = am_rI (i3 (rsv L p)) D := by
  have rsv_app : ∀ (l l' : List Bk), rsv (l ++ l') p = rsv l p + rsv l' p := by
    intro l
    induction l with
    | nil => intro l'; exact (Nat.zero_add _).symm
    | cons x l ih => intro l'; show _ + rsv (l ++ l') p = _ + rsv l p + _; rw [ih]; omega
  refine qX10_reserved_0 ?_
  have main := lp_do (A := Int32) (r := fun m i a => rX10_reserved m 4 [.inr (10, 0), .inl (.int (i3 p)), .inl (.int a), .inl (.int (i3 i))] [] D) (N := L.length) (c := 100) (I := fun i a => a = i3 (rsv (L.take i) p)) ?_ L.length 0 0 (Nat.zero_add _) rfl
  · obtain ⟨a, ha, h⟩ := main
    have := h (99900 - 100 * L.length) (.inl (some (.inl (.int a))), D) (by
      have := qX10_reserved_4_0 (x1 := i3 p) (x2 := a) (x3 := L.length) (M := D) (n := 99900 - 100 * L.length - 100) (hen hb (by omega))
      rwa [show 99900 - 100 * L.length - 100 + 100 = 99900 - 100 * L.length by omega] at this)
    rw [show 99900 - 100 * L.length + 100 * L.length = 99900 by omega] at this
    rw [ha, List.take_length] at this
    exact this
  · intro i a hi ha
    have hx : L[i]? = some (L[i]'hi) := List.getElem?_eq_getElem hi
    obtain ⟨e1, e2⟩ := hc i _ hx
    have hm := hr _ (List.getElem_mem hi)
    have ht : rsv (L.take (i + 1)) p = rsv (L.take i) p + (if (L[i]'hi).2.2.1 = p then (L[i]'hi).2.2.2.1 else 0) := by
      rw [List.take_succ, hx, rsv_app]; rfl
    by_cases h : (L[i]'hi).2.2.1 = p
    · refine ⟨i3 (rsv (L.take (i + 1)) p), rfl, fun m res k => qX10_reserved_4_1 (hge hb hi (by omega)) (by omega) (by rw [e1, h]) ?_⟩
      rw [ha, e2, i3_add]
      rw [ht, if_pos h] at k
      exact k
    · refine ⟨i3 (rsv (L.take (i + 1)) p), rfl, fun m res k => qX10_reserved_4_2 (hge hb hi (by omega)) (by omega) (fun q => h ((i3_inj (by omega) (by omega)).mp (e1.symm.trans q))) ?_⟩
      rw [ha]
      rw [ht, if_neg h, Nat.add_zero] at k
      exact k
