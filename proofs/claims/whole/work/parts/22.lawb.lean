/-- what is left to show: the small machine runs the law's loop to 1, on every script -/
def law_goal : Prop := ∀ (L : Nat) (xs : Nat → Int32), L ≤ 2560 → ∃ Mf, am_run csL [] 5 (L, xs) pL_law 500000 20 [.inr (29, 0), .inr (9, 0), .inr (10, 0), .inr (80, 0), am_D, am_D, am_D] [] bm_M0 = some (.inl (some (.inl (.int 1))), Mf)
def am_tyf (e : Nat) : FieldType := if e = 1 then .boolean else if e = 2 then .long else if e = 4 then .object RX1 else if e = 7 then .object RX4 else if e = 8 then .object RX5 else if e = 9 then .object RX6 else if e = 11 then .object RX8 else .int
theorem law_inst : ∀ c, c < 11 → Cond.instantiable (am_N c) (am_nf c) ∈ am_U := by
  have key : ∀ c, c < 11 → (decide (Cond.instantiable (am_N c) (am_nf c) ∈ lw_tbl) && goodWord (Cond.instantiable (am_N c) (am_nf c))) = true := by decide +kernel
  intro c hc
  have h := key c hc
  simp only [Bool.and_eq_true, decide_eq_true_eq] at h
  exact List.mem_filter.mpr ⟨h.1, h.2⟩
theorem law_nest : ∀ q ∈ am_nl ++ bm_nl, Cond.methodLinkNest q.1 q.2.1 q.2.2.1 q.2.2.2 ∈ lw_tbl := by decide +kernel
theorem law_over : ∀ k ∈ ([1, 4, 5, 6, 8] : List Nat), Cond.arrayOver (.object (am_N k)) ∈ lw_tbl := by decide +kernel
theorem law_prim : ∀ t ∈ ([.int, .boolean, .long] : List FieldType), Cond.arrayClass t ∈ lw_tbl := by decide +kernel
theorem law_stat : Cond.laysStatic RX6 "LEAST" "[I" ∈ lw_tbl ∧ Cond.laysStatic RX6 "MOST" "[I" ∈ lw_tbl ∧ Cond.initialized RX6 ∈ lw_tbl ∧ Cond.laysStatic Bundle.tN "UNASSIGNED_STACK" Bundle.steD ∈ lw_tbl ∧ Cond.laysStatic Bundle.tN "SUPPRESSED_SENTINEL" Bundle.listD ∈ lw_tbl ∧ Cond.initialized Bundle.tN ∈ lw_tbl := by decide +kernel
section LAW
variable {p : Program} {e : Env} {s : State} {m : MethodId} {below : List Frame} {meth : Method} {c : Code} {l : Launch} {b L : Nat} {xs : Nat → Int32}
theorem law_arr {args : Array Value} (hts : ∀ w ∈ lw_tbl, w.before args s = true) : ∀ e : Nat, ∃ cA : ClassId, ArrOfT s cA (am_tyf e) ∧ va_RA s cA (am_tyf e) := by
  have prim : ∀ t ∈ ([.int, .boolean, .long] : List FieldType), ∃ cA : ClassId, ArrOfT s cA t ∧ va_RA s cA t := by
    intro t ht
    obtain ⟨cA, k, comp, h1, h2, h3⟩ := Cond.arrayClass_spec (hts _ (law_prim t ht))
    refine ⟨cA, fun n z => ⟨(fun k h => by cases h), k, h2, comp, h3⟩, ?_⟩
    rcases List.mem_cons.mp ht with rfl | ht
    · exact h1
    · rcases List.mem_cons.mp ht with rfl | ht
      · exact h1
      · rcases List.mem_cons.mp ht with rfl | ht
        · exact h1
        · cases ht
  have obj : ∀ k ∈ ([1, 4, 5, 6, 8] : List Nat), ∃ cA : ClassId, ArrOfT s cA (.object (am_N k)) ∧ va_RA s cA (.object (am_N k)) := by
    intro k hk
    obtain ⟨comp, cA, kA, h1, -, h3, h4, h5⟩ := Cond.arrayOver_spec (hts _ (law_over k hk))
    exact ⟨cA, fun n z => ⟨(fun k h => by cases h), kA, h3, comp, h4⟩, kA, comp, h3, h4, h1, h5⟩
  intro e
  unfold am_tyf
  by_cases h1 : e = 1
  · rw [if_pos h1]; exact prim _ (by decide)
  rw [if_neg h1]
  by_cases h2 : e = 2
  · rw [if_pos h2]; exact prim _ (by decide)
  rw [if_neg h2]
  by_cases h4 : e = 4
  · rw [if_pos h4]; exact obj 1 (by decide)
  rw [if_neg h4]
  by_cases h7 : e = 7
  · rw [if_pos h7]; exact obj 4 (by decide)
  rw [if_neg h7]
  by_cases h8 : e = 8
  · rw [if_pos h8]; exact obj 5 (by decide)
  rw [if_neg h8]
  by_cases h9 : e = 9
  · rw [if_pos h9]; exact obj 6 (by decide)
  rw [if_neg h9]
  by_cases h11 : e = 11
  · rw [if_pos h11]; exact obj 8 (by decide)
  rw [if_neg h11]
  exact prim _ (by decide)
theorem law_K {args : Array Value} (hts : ∀ w ∈ lw_tbl, w.before args s = true) : ∃ (dC : Nat → ClassId) (dI : Nat → Nat → Nat) (cy : Nat → ClassId), va_K (dC, dI) vwCl (am_ty cy) s := by
  have hU : ∀ w ∈ am_U, w.before args s = true := fun w hw => hts w (List.mem_filter.mp hw).1
  have h : ∀ k : Nat, ∃ (q : ClassId × (Nat → Nat)), k < 11 → u_Kn s (am_N k) (am_T k) (am_nf k) q.1 q.2 := by
    intro k
    by_cases hk : k < 11
    · obtain ⟨cC, iS, h1⟩ := u_known (C := am_N k) (T := am_T k) (N := am_nf k) (n := am_nf k) hU (am_in_u k hk) (hU _ (law_inst k hk))
      exact ⟨(cC, iS), fun _ => h1⟩
    · exact ⟨(0, fun _ => 0), fun h => absurd h hk⟩
  refine ⟨fun k => (Classical.choose (h k)).1, fun k => (Classical.choose (h k)).2, fun e => Classical.choose (law_arr hts e), ?_, ?_⟩
  · intro k q hq
    have hk : k < 11 := (List.getElem?_eq_some_iff.mp hq).1
    rw [am_cl_at k hk] at hq
    cases hq
    exact Classical.choose_spec (h k) hk
  · intro k q hq
    have hl : k < 8 := (List.getElem?_eq_some_iff.mp hq).1
    match k, hl, hq with
    | 0, _, hq => cases hq; exact Classical.choose_spec (law_arr hts 0)
    | 1, _, hq => cases hq; exact Classical.choose_spec (law_arr hts 1)
    | 2, _, hq => cases hq; exact Classical.choose_spec (law_arr hts 2)
    | 3, _, hq => cases hq; exact Classical.choose_spec (law_arr hts 4)
    | 4, _, hq => cases hq; exact Classical.choose_spec (law_arr hts 7)
    | 5, _, hq => cases hq; exact Classical.choose_spec (law_arr hts 8)
    | 6, _, hq => cases hq; exact Classical.choose_spec (law_arr hts 9)
    | 7, _, hq => cases hq; exact Classical.choose_spec (law_arr hts 11)
theorem law_Nk {args : Array Value} (hts : ∀ w ∈ lw_tbl, w.before args s = true) (hgv : (Jvm.Cond.and given_1 narrow_1).before args s = true) : am_Nk s := by
  have hs := flat_of_before _ hgv
  refine ⟨fun q hq => va_Nw.of rfl (hts _ (law_nest q (List.mem_append_left _ hq))), fun w hw => ?_, fun E hE F hF hne => va_Nc.of (hs _ ?_)⟩
  · have h2 := (List.mem_filter.mp hw).2
    cases w with
    | castable a b => exact va_Nw.of rfl (hts _ (List.mem_filter.mp hw).1)
    | declares x => exact va_Nw.of rfl (hts _ (List.mem_filter.mp hw).1)
    | _ => cases h2
  · have key : ∀ E ∈ am_ex, ∀ F ∈ am_ex, E ≠ F → Cond.not (.castable E F) ∈ flatC (Jvm.Cond.and given_1 narrow_1) := by decide +kernel
    exact key E hE F hF hne
theorem law_bNk {args : Array Value} (hts : ∀ w ∈ lw_tbl, w.before args s = true) : bm_Nk s :=
  ⟨fun q hq => va_Nw.of rfl (hts _ (law_nest q (List.mem_append_right _ hq))), fun k hk => va_AO.of (hts _ (law_over k hk))⟩
end LAW
