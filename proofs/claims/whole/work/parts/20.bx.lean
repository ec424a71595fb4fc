/-! ===== from the second machine's memory to the first's ===== -/
def bm_offl : List (Nat × Nat) := [(14, 7), (54, 4), (17, 7), (10, 0), (94, 1), (46, 1), (12, 7), (6, 0), (40, 1), (0, 0), (134, 0), (15, 7), (16, 7), (55, 4), (56, 4), (57, 4), (18, 7), (11, 0), (13, 7), (7, 0), (8, 0), (9, 0), (1, 0), (2, 0), (3, 0), (4, 0), (5, 0), (0, 0), (0, 0), (0, 0), (135, 0), (136, 0), (137, 0), (138, 0), (139, 0), (140, 0), (141, 0), (142, 0), (143, 0), (144, 0), (145, 0), (146, 0), (147, 0), (148, 0), (0, 0), (149, 0), (150, 0), (151, 0), (152, 0), (153, 0), (154, 0), (155, 0), (156, 0), (157, 0), (158, 0), (159, 0), (160, 0), (161, 0), (162, 0), (163, 0), (164, 0), (165, 0), (166, 0), (167, 0), (168, 0), (169, 0), (0, 0), (0, 0), (0, 0), (170, 0), (0, 0), (0, 0), (0, 0), (0, 0), (0, 0), (0, 0), (0, 0), (0, 0), (0, 0), (0, 0), (171, 0)]
def bm_num (k i : Nat) : Nat := (bm_offl.getD k (0, 0)).1 + (bm_offl.getD k (0, 0)).2 * i
def bm_xF : bm_M := bm_x2 ++ [(102, [.inl (.int 0)])]
def bm_M0 : am_M := fun k i f => bm_iv ((bm_xF.getD (bm_num k i) (0, [])).2) f
def bm_adF (B tL tM b : Nat) : Nat → Nat → Nat := fun k i => if k = 27 then tL else if k = 28 then tM else if k = 29 then b else B + bm_num k i
def bm_agr (q : Nat × Nat) : Bool := match bm_xF[bm_num q.1 q.2]?, am_ar q.1 with
  | some (c, vs), none => Nat.beq c q.1 && Nat.beq vs.length (am_nf q.1) && (List.range (am_nf q.1)).all (fun f => match am_ft q.1 f, vs[f]? with
    | some k', some (.inr z) => Nat.beq z.2 (bm_num k' q.2) && Nat.beq z.1 0
    | none, some (.inl (.int x)) => !am_fz q.1 f || decide (am_b x = x)
    | _, _ => false)
  | some (c, vs), some (0, n) => Nat.beq c 100 && Nat.beq vs.length n
  | some (c, vs), some (1, n) => Nat.beq c 101 && Nat.beq vs.length n && vs.all (fun v => decide (v = .inl (.int 0)))
  | some (c, vs), some (2, n) => Nat.beq c 102 && Nat.beq vs.length n && vs.all (fun v => decide (v = .inl (.int 0)))
  | some (c, vs), some (e + 3, n) => Nat.beq c (103 + e) && Nat.beq vs.length n && (List.range n).all (fun j => match vs[j]? with
    | some (.inr z) => Nat.beq z.2 (bm_num e j)
    | _ => false)
  | none, _ => false
theorem bm_agr_all : am_KI.all bm_agr = true := by decide +kernel
theorem bm_ft_not : ∀ c, c < 11 → ∀ f, f < am_nf c → ∀ k, am_ft c f = some k → ¬ k = 27 ∧ ¬ k = 28 ∧ ¬ k = 29 := by decide +kernel
theorem bm_ar_not : ∀ k, k < 81 → (match am_ar k with | some (e, _) => decide (e < 30 ∧ ¬ e = 30) | none => true) = true := by decide +kernel
theorem bm_KI_not : ∀ q ∈ am_KI, ¬ q.1 = 27 ∧ ¬ q.1 = 28 ∧ ¬ q.1 = 29 ∧ q.1 < 81 := by decide +kernel
theorem bm_KI_obj : ∀ q ∈ am_KI, am_ar q.1 = none → q.1 < 11 := by decide +kernel
theorem bm_num_inj : va_nd (am_KI.map (fun q => bm_num q.1 q.2)) = true := by decide +kernel
theorem arrV_cg {cA : ClassId} {n : Nat} {f g : Nat → Value} (h : ∀ j, j < n → f j = g j) : arrV cA n f = arrV cA n g := by
  unfold arrV
  congr 1
  apply Array.ext
  · simp
  · intro i h1 h2
    simp only [Array.size_ofFn] at h1
    simp only [Array.getElem_ofFn]
    exact h i h1
theorem bm_iv0 {vs : List am_V} (h : vs.all (fun v => decide (v = .inl (.int 0))) = true) (j : Nat) : bm_iv vs j = 0 := by
  unfold bm_iv
  split
  · rename_i x hx
    have := List.all_eq_true.mp h _ (List.mem_of_getElem? hx)
    simp only [decide_eq_true_eq] at this
    cases this
    rfl
  · rfl
theorem bm_to_am {dC : Nat → ClassId} {dI : Nat → Nat → Nat} {B tL tM b : Nat} {cy : Nat → ClassId} {H : Heap} (hP : va_P (dC, dI) vwCl (bm_W B cy bm_xF) H) : va_P (dC, dI) vwCl (am_W (bm_adF B tL tM b) cy bm_M0) H := by
  intro p x hx
  obtain ⟨q, hq, -⟩ := am_W_at hx
  have hqm := List.mem_of_getElem? hq
  have hx2 : x = (bm_adF B tL tM b q.1 q.2, am_en (bm_adF B tL tM b) cy q.1 q.2 (bm_M0 q.1 q.2)) := by
    unfold am_W at hx
    rw [List.getElem?_map, hq] at hx
    cases hx
    rfl
  obtain ⟨k, i⟩ := q
  obtain ⟨n1, n2, n3, n4⟩ := bm_KI_not _ hqm
  simp only at n1 n2 n3 n4
  have had : bm_adF B tL tM b k i = B + bm_num k i := by unfold bm_adF; rw [if_neg n1, if_neg n2, if_neg n3]
  have hag := List.all_eq_true.mp bm_agr_all _ hqm
  unfold bm_agr at hag
  simp only at hag
  subst hx2
  simp only at hx
  show va_at (dC, dI) vwCl (bm_adF B tL tM b k i, am_en (bm_adF B tL tM b) cy k i (bm_M0 k i)) H
  rw [had]
  cases hm : bm_xF[bm_num k i]? with
  | none => rw [hm] at hag; cases hag
  | some o =>
    obtain ⟨c, vs⟩ := o
    have hM0 : bm_M0 k i = bm_iv vs := by
      funext f
      unfold bm_M0
      rw [List.getD_eq_getElem?_getD, hm]
      rfl
    have hat := hP _ _ (bm_W_at (B := B) (cy := cy) hm)
    rw [hm] at hag
    rw [hM0]
    unfold am_en
    split at hag
    · rename_i e1 e2
      cases e1
      rw [e2]
      simp only [Bool.and_eq_true] at hag
      obtain ⟨⟨a1, a2⟩, a3⟩ := hag
      have a1 := Nat.eq_of_beq_eq_true a1
      have a2 := Nat.eq_of_beq_eq_true a2
      subst a1
      have hk11 := bm_KI_obj _ hqm e2
      rw [bm_en_c (by omega)] at hat
      have e3 : (List.range (am_nf c)).map (am_fv (bm_adF B tL tM b) c i (bm_iv vs)) = vs.map (am_co (bm_ad B)) := by
        apply List.ext_getElem?
        intro f
        rw [List.getElem?_map, List.getElem?_map]
        by_cases hf : f < am_nf c
        · rw [List.getElem?_range hf]
          have a4 := List.all_eq_true.mp a3 f (List.mem_range.mpr hf)
          split at a4
          · rename_i k' z e4 e5
            simp only [Bool.and_eq_true] at a4
            have b1 := Nat.eq_of_beq_eq_true a4.1
            rw [e5]
            simp only [Option.map_some]
            refine congrArg some ?_
            unfold am_fv
            rw [e4]
            obtain ⟨g1, g2, g3⟩ := bm_ft_not c hk11 f hf k' e4
            show Value.ref (bm_adF B tL tM b k' i) = Value.ref (B + z.2)
            unfold bm_adF
            rw [if_neg g1, if_neg g2, if_neg g3, b1]
          · rename_i x e4 e5
            rw [e5]
            simp only [Option.map_some]
            refine congrArg some ?_
            unfold am_fv
            rw [e4]
            have b2 : bm_iv vs f = x := by unfold bm_iv; rw [e5]
            rw [b2]
            show Value.int (cond (am_fz c f) (am_b x) x) = Value.int x
            cases hz : am_fz c f with
            | false => rfl
            | true =>
              rw [hz] at a4
              simp only [Bool.not_true, Bool.false_or, decide_eq_true_eq] at a4
              show Value.int (am_b x) = _
              rw [a4]
          · cases a4
        · rw [List.getElem?_eq_none (by simpa using hf), List.getElem?_eq_none (by rw [a2]; simpa using hf)]
          rfl
      rw [e3]
      exact hat
    · rename_i n e1 e2
      cases e1
      rw [e2]
      simp only [Bool.and_eq_true] at hag
      have a1 := Nat.eq_of_beq_eq_true hag.1
      have a2 := Nat.eq_of_beq_eq_true hag.2
      subst a1
      subst a2
      exact hat
    · rename_i n e1 e2
      cases e1
      rw [e2]
      simp only [Bool.and_eq_true] at hag
      have a1 := Nat.eq_of_beq_eq_true hag.1.1
      have a2 := Nat.eq_of_beq_eq_true hag.1.2
      subst a1
      subst a2
      have e3 : (fun j => am_b (bm_iv vs j)) = bm_iv vs := by
        funext j
        rw [bm_iv0 hag.2 j]
        rfl
      simp only
      rw [e3]
      exact hat
    · rename_i n e1 e2
      cases e1
      rw [e2]
      simp only [Bool.and_eq_true] at hag
      have a1 := Nat.eq_of_beq_eq_true hag.1.1
      have a2 := Nat.eq_of_beq_eq_true hag.1.2
      subst a1
      subst a2
      have e3 : (fun j => am_jn (bm_iv vs (2 * j)) (bm_iv vs (2 * j + 1))) = fun _ => 0 := by
        funext j
        rw [bm_iv0 hag.2, bm_iv0 hag.2]
        rfl
      simp only
      rw [e3]
      exact hat
    · rename_i e n e1 e2
      cases e1
      rw [e2]
      simp only [Bool.and_eq_true] at hag
      have a1 := Nat.eq_of_beq_eq_true hag.1.1
      have a2 := Nat.eq_of_beq_eq_true hag.1.2
      subst a1
      subst a2
      rw [bm_en_r] at hat
      have he : e + 3 < 30 := by
        have := bm_ar_not k n4
        rw [e2] at this
        simp only [decide_eq_true_eq] at this
        exact this.1
      show H[B + bm_num k i]? = some (vp_cell (cy (e + 3)) (vs.length, .inr (.inr (.inr (.inr (fun j => some (bm_adF B tL tM b e j)))))))
      have hat' : H[B + bm_num k i]? = some (vp_cell (cy (3 + e)) (vs.length, .inr (.inr (.inr (.inr (bm_rv B vs)))))) := hat
      rw [hat', Nat.add_comm 3 e, vp_cell_q, vp_cell_q]
      refine congrArg some (arrV_cg (fun j hj => ?_))
      have a4 := List.all_eq_true.mp hag.2 j (List.mem_range.mpr hj)
      unfold bm_rv
      split at a4
      · rename_i z e5
        have b1 := Nat.eq_of_beq_eq_true a4
        rw [e5]
        unfold bm_adF
        rw [if_neg (by omega), if_neg (by omega), if_neg (by omega), ← b1]
      · cases a4
    · rename_i e1; cases e1
theorem bm_am_D {B tL tM b : Nat} {cy : Nat → ClassId} (M : am_M) : va_D (am_A (bm_adF B tL tM b)) (am_W (bm_adF B tL tM b) cy M) := by
  have had : ∀ q ∈ am_KI, bm_adF B tL tM b q.1 q.2 = B + bm_num q.1 q.2 := by
    intro q hq
    obtain ⟨n1, n2, n3, -⟩ := bm_KI_not _ hq
    unfold bm_adF
    rw [if_neg n1, if_neg n2, if_neg n3]
  refine ⟨fun i j x y hx hy hxy => ?_, fun k x hx => ?_⟩
  · obtain ⟨q1, h1, e1⟩ := am_W_at hx
    obtain ⟨q2, h2, e2⟩ := am_W_at hy
    rw [e1, e2, had _ (List.mem_of_getElem? h1), had _ (List.mem_of_getElem? h2)] at hxy
    exact va_nd_inj _ bm_num_inj i j (bm_num q1.1 q1.2) (by rw [List.getElem?_map, h1]; rfl) (by rw [List.getElem?_map, h2]; show some (bm_num q2.1 q2.2) = _; rw [show bm_num q2.1 q2.2 = bm_num q1.1 q1.2 by omega])
  · obtain ⟨q, h1, e1⟩ := am_W_at hx
    exact ⟨q.1, q.2, am_mem_of (List.mem_of_getElem? h1), e1⟩
theorem bm_am_A {B tL tM b : Nat} {q : Nat} (h : am_A (bm_adF B tL tM b) q) : B ≤ q := by
  obtain ⟨k, i, h1, rfl⟩ := h
  obtain ⟨n1, n2, n3, -⟩ := bm_KI_not (k, i) (am_mem h1)
  unfold bm_adF
  rw [if_neg n1, if_neg n2, if_neg n3]
  exact Nat.le_add_right _ _
