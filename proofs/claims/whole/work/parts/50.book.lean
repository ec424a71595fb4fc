/-! ===== booking the reagents of a run: the reference ===== -/
theorem bk_app {L : List Bk} {D : am_M} {x : Bk} {a b c d e v : Int32} (hc : ∀ b x, L[b]? = some x → bcell D b x) (ea : a = i3 x.1) (eb : b = i3 x.2.1) (ec : c = i3 x.2.2.1) (ed : d = i3 x.2.2.2.1) (ee : e = i3 x.2.2.2.2) (hv : v = i3 (L.length + 1)) {D' : am_M} (hD : D' = am_put (am_put (am_put (am_put (am_put (am_put D 61 0 L.length a) 62 0 L.length b) 63 0 L.length c) 64 0 L.length d) 65 0 L.length e) 10 0 36 v) :
    D' 10 0 36 = i3 (L ++ [x]).length ∧ (∀ b y, (L ++ [x])[b]? = some y → bcell D' b y) ∧ (∀ k, ¬ k = 10 → ¬ k = 61 → ¬ k = 62 → ¬ k = 63 → ¬ k = 64 → ¬ k = 65 → D' k = D k) ∧ (∀ f, ¬ f = 36 → D' 10 0 f = D 10 0 f) := by
  subst hD
  refine ⟨by rw [am_put_i, hv, List.length_append]; rfl, fun i y hy => ?_, fun k h1 h2 h3 h4 h5 h6 => ?_, fun f hf => ?_⟩
  · by_cases hi : i < L.length
    · rw [List.getElem?_append_left hi] at hy
      obtain ⟨y1, y2, y3, y4, y5⟩ := hc i y hy
      have ne : ¬ i = L.length := by omega
      refine ⟨?_, ?_, ?_, ?_, ?_⟩
      · rw [am_put_nk (by decide), am_put_nk (by decide), am_put_nk (by decide), am_put_nk (by decide), am_put_nk (by decide), am_put_nf ne]; exact y1
      · rw [am_put_nk (by decide), am_put_nk (by decide), am_put_nk (by decide), am_put_nk (by decide), am_put_nf ne, am_put_nk (by decide)]; exact y2
      · rw [am_put_nk (by decide), am_put_nk (by decide), am_put_nk (by decide), am_put_nf ne, am_put_nk (by decide), am_put_nk (by decide)]; exact y3
      · rw [am_put_nk (by decide), am_put_nk (by decide), am_put_nf ne, am_put_nk (by decide), am_put_nk (by decide), am_put_nk (by decide)]; exact y4
      · rw [am_put_nk (by decide), am_put_nf ne, am_put_nk (by decide), am_put_nk (by decide), am_put_nk (by decide), am_put_nk (by decide)]; exact y5
    · have hl : i < (L ++ [x]).length := by obtain ⟨h, _⟩ := List.getElem?_eq_some_iff.1 hy; exact h
      rw [List.length_append] at hl
      have e0 : i = L.length := by
        have : [x].length = 1 := rfl
        omega
      rw [e0, List.getElem?_append_right (Nat.le_refl _), Nat.sub_self] at hy
      cases hy
      subst e0
      refine ⟨?_, ?_, ?_, ?_, ?_⟩
      · rw [am_put_nk (by decide), am_put_nk (by decide), am_put_nk (by decide), am_put_nk (by decide), am_put_nk (by decide), am_put_i]; exact ea
      · rw [am_put_nk (by decide), am_put_nk (by decide), am_put_nk (by decide), am_put_nk (by decide), am_put_i]; exact eb
      · rw [am_put_nk (by decide), am_put_nk (by decide), am_put_nk (by decide), am_put_i]; exact ec
      · rw [am_put_nk (by decide), am_put_nk (by decide), am_put_i]; exact ed
      · rw [am_put_nk (by decide), am_put_i]; exact ee
  · funext i f
    rw [am_put_nk h1, am_put_nk h6, am_put_nk h5, am_put_nk h4, am_put_nk h3, am_put_nk h2]
  · rw [am_put_nf hf, am_put_nk (by decide), am_put_nk (by decide), am_put_nk (by decide), am_put_nk (by decide), am_put_nk (by decide)]
/-- the new bookings of a run -/
def nb (T : Nat) (D : am_M) (t o w : Nat) (v : Int32) : List Bk :=
  if v = -1 then [] else [(T + nt (fd D t (3 + 3 * w)), nt (fd D t (1 + 3 * w)), nt v, nt (fd D t (2 + 3 * w)), o)]
theorem i3_add0 (x : Int32) : x + 0 = x := i3_ext (by rw [Int32.toInt_add]; simp)
theorem m1n (x : Int32) : (x = -1 → ¬ 0 ≤ x) := by intro e; rw [e]; decide
theorem J_book {T n o : Nat} {L : List Bk} {C D : am_M} (h : Rel 1 40 40 T n L C D) (hT : T ≤ 1000000) (ho : o < n) (hw : D 48 0 o = 0) :
    ∃ v6 v7 r D1 L1, fX9_positionFor [.inr (9, 0), .inr (6, nt (D 46 0 o)), .inl (.int 0), .inl (.int (-1))] C = am_rI v6 C ∧
      fX9_positionFor [.inr (9, 0), .inr (6, nt (D 46 0 o)), .inl (.int 1), .inl (.int v6)] C = am_rI v7 C ∧
      fX10_book [.inr (10, 0), .inl (.int (i3 o))] D = am_rI r D1 ∧
      (r = 0 → (¬ fd D (nt (D 46 0 o)) 1 = -1 ∧ v6 = -1) ∨ (¬ fd D (nt (D 46 0 o)) 4 = -1 ∧ v7 = -1)) ∧
      (¬ r = 0 → (v6 = -1 ∧ fd D (nt (D 46 0 o)) 1 = -1 ∨ wi v6 7 ∧ wi (fd D (nt (D 46 0 o)) 1) 5) ∧ (v7 = -1 ∧ fd D (nt (D 46 0 o)) 4 = -1 ∨ wi v7 7 ∧ wi (fd D (nt (D 46 0 o)) 4) 5) ∧
        L1 = nb T D (nt (D 46 0 o)) o 0 v6 ++ nb T D (nt (D 46 0 o)) o 1 v7 ∧ ∀ p, p < 8 → rsv (L ++ L1) p ≤ nt (D 41 0 p)) ∧
      (∀ x, x ∈ L1 → x.2.2.2.2 = o) ∧ L1.length ≤ 2 ∧ D1 10 0 36 = i3 (L ++ L1).length ∧ (∀ b x, (L ++ L1)[b]? = some x → bcell D1 b x) ∧
      (∀ k, ¬ k = 10 → ¬ k = 61 → ¬ k = 62 → ¬ k = 63 → ¬ k = 64 → ¬ k = 65 → D1 k = D k) ∧ (∀ f, ¬ f = 36 → D1 10 0 f = D 10 0 f) := by
  obtain ⟨hP, hS, hF, hQ, hN, hO, hH, hC, hB⟩ := h
  have h40 := hN.2.2.1
  have t4 := t4_of hO (o := o) (by omega)
  have et : D 46 0 o = i3 (nt (D 46 0 o)) := (hO.2.1 o (by omega)).1.1
  have hcm := hO.2.2.2.2.2.2.2.2.2 o ho (by rw [hw]; decide)
  generalize nt (D 46 0 o) = t at t4 et hcm ⊢
  have len := bk_len hB
  obtain ⟨b1, b2, b3, b4, _⟩ := hB
  have b3' : ∀ b x, L[b]? = some x → bcell D b x := b3
  have wd : ∀ w, w < 2 → wi (fd D t (2 + 3 * w)) 2000 := by
    intro w hw
    by_cases q : w = 0
    · rw [q]; exact RP_wi hP t4 (f := 2) (m := 2000) (by decide) rfl rfl (by decide)
    · rw [show w = 1 by omega]; exact RP_wi hP t4 (f := 5) (m := 2000) (by decide) rfl rfl (by decide)
  have wa : ∀ w, w < 2 → wi (fd D t (3 + 3 * w)) 12 := by
    intro w hw
    by_cases q : w = 0
    · rw [q]; exact RP_wi hP t4 (f := 3) (m := 12) (by decide) rfl rfl (by decide)
    · rw [show w = 1 by omega]; exact RP_wi hP t4 (f := 6) (m := 12) (by decide) rfl rfl (by decide)
  have wk : ∀ f, f = 1 ∨ f = 4 → fd D t f = -1 ∨ wi (fd D t f) 5 := by
    intro f hf
    have q := hP.2.1 t f t4 (by omega)
    have q1 : -1 ≤ fd D t f ∧ fd D t f ≤ 5 := by rcases hf with e | e <;> (rw [e] at q ⊢; exact q)
    by_cases z : fd D t f = -1
    · exact Or.inl z
    · refine Or.inr (wi_le (by decide) ?_ q1.2)
      have a1 := Int32.le_iff_toInt_le.1 q1.1
      have a2 : ¬ (fd D t f).toInt = -1 := fun e => z (i3_ext e)
      exact Int32.le_iff_toInt_le.2 (by
        have : (-1 : Int32).toInt = -1 := rfl
        have : (0 : Int32).toInt = 0 := rfl
        omega)
  have k0 : fX6_kindOf [.inr (6, t), .inl (.int 0)] C = am_rI (C 18 t 1) C := by rw [eX6_kindOf]; exact eX6_kindOf_0 rfl
  have k1 : fX6_kindOf [.inr (6, t), .inl (.int 1)] C = am_rI (C 18 t 4) C := by rw [eX6_kindOf]; exact eX6_kindOf_0 rfl
  have d0 : fX6_doseOf [.inr (6, t), .inl (.int 0)] C = am_rI (C 18 t 2) C := by rw [eX6_doseOf]; exact eX6_doseOf_0 rfl
  have d1 : fX6_doseOf [.inr (6, t), .inl (.int 1)] C = am_rI (C 18 t 5) C := by rw [eX6_doseOf]; exact eX6_doseOf_0 rfl
  have c18 := fun f hf => hP.1 t f t4 hf
  rw [c18 1 (by decide)] at k0
  rw [c18 4 (by decide)] at k1
  rw [c18 2 (by decide)] at d0
  rw [c18 5 (by decide)] at d1
  have fr0 : (∀ k, ¬ k = 10 → ¬ k = 61 → ¬ k = 62 → ¬ k = 63 → ¬ k = 64 → ¬ k = 65 → D k = D k) ∧ (∀ f, ¬ f = 36 → D 10 0 f = D 10 0 f) := ⟨fun _ _ _ _ _ _ _ => rfl, fun _ _ => rfl⟩
  have b1' : D 10 0 36 = i3 (L ++ ([] : List Bk)).length := by rw [List.append_nil]; exact b1
  have b3'' : ∀ b x, (L ++ ([] : List Bk))[b]? = some x → bcell D b x := by rw [List.append_nil]; exact b3'
  have nomem : ∀ x, x ∈ ([] : List Bk) → x.2.2.2.2 = o := fun x hx => absurd hx List.not_mem_nil
  by_cases z0 : fd D t 1 = -1
  · have z1 := hcm.1 z0
    refine ⟨-1, -1, 1, D, [], qX9_positionFor_0 k0 z0, qX9_positionFor_0 k1 z1, qX10_book_0 (by omega) rfl t4 et (show fd D t 1 < 0 by rw [z0]; decide) (show fd D t 4 < 0 by rw [z1]; decide), fun e => absurd e (by decide), fun _ => ⟨Or.inl ⟨rfl, z0⟩, Or.inl ⟨rfl, z1⟩, rfl, fun p hp => ?_⟩, nomem, by decide, b1', b3'', fr0.1, fr0.2⟩
    rw [List.append_nil]; exact (hQ p hp).2.2.2.2.2.2
  · have w0 := (wk 1 (Or.inl rfl)).resolve_left z0
    have n0 : ¬ fd D t 1 < 0 := by rw [w0.1]; exact i3_nl (nt_lt _)
    have p0 := sX10_placeFor (L := L) (fd D t 1) (fd D t 2) D b1 (by omega) b3' (fun x hx => (b4 x hx).2.2.2.1)
    have s0 := sX9_positionFor t 0 (-1) _ _ C k0 d0 z0
    have cg : bst (fun p => C 5 p 0 = fd D t 1 ∧ C 9 0 8 < C 5 p 3 ∧ fd D t 2 + (if i3 p = -1 then C 18 t 2 else 0) ≤ C 5 p 1 - C 5 p 2) (fun p => C 5 p 3) 8 = bst (fun p => D 40 0 p = fd D t 1 ∧ D 10 0 41 < D 42 0 p ∧ fd D t 2 ≤ D 41 0 p - i3 (rsv L p)) (fun p => D 42 0 p) 8 := by
      refine bst_cg 8 (by decide) (fun p hp => ?_) (fun p hp => (hQ p hp).2.2.2.2.1)
      obtain ⟨q0, _, q1, _, q3, q2, _⟩ := hQ p hp
      rw [q0, q1, q2, q3, hN.2.2.2.1, if_neg (i3_nm (by omega)), i3_add0]
    rw [cg] at s0
    have sp := bst_spec (ok := fun p => D 40 0 p = fd D t 1 ∧ D 10 0 41 < D 42 0 p ∧ fd D t 2 ≤ D 41 0 p - i3 (rsv L p)) (e := fun p => D 42 0 p) 8
    generalize bst (fun p => D 40 0 p = fd D t 1 ∧ D 10 0 41 < D 42 0 p ∧ fd D t 2 ≤ D 41 0 p - i3 (rsv L p)) (fun p => D 42 0 p) 8 = v6 at p0 s0 sp
    -- the class's second search
    obtain ⟨v7, s1, h7⟩ : ∃ v7, fX9_positionFor [.inr (9, 0), .inr (6, t), .inl (.int 1), .inl (.int v6)] C = am_rI v7 C ∧ (fd D t 4 = -1 ∧ v7 = -1 ∨ ¬ fd D t 4 = -1 ∧ v7 = bst (fun p => C 5 p 0 = fd D t 4 ∧ C 9 0 8 < C 5 p 3 ∧ fd D t 5 + (if i3 p = v6 then C 18 t 2 else 0) ≤ C 5 p 1 - C 5 p 2) (fun p => C 5 p 3) 8) := by
      by_cases z1 : fd D t 4 = -1
      · exact ⟨-1, qX9_positionFor_0 k1 z1, Or.inl ⟨z1, rfl⟩⟩
      · exact ⟨_, sX9_positionFor t 1 v6 _ _ C k1 d1 z1, Or.inr ⟨z1, rfl⟩⟩
    rcases sp with e6 | ⟨p6, p68, e6, ok6⟩
    · exact ⟨v6, v7, 0, D, [], s0, s1, qX10_book_6 (by omega) rfl t4 et n0 p0 (m1n _ e6), fun _ => Or.inl ⟨z0, e6⟩, fun e => absurd rfl e, nomem, by decide, b1', b3'', fr0.1, fr0.2⟩
    · have ge6 : (0 : Int32) ≤ v6 := by rw [e6]; exact i3_ge (by omega)
      have nm6 : ¬ v6 = -1 := by rw [e6]; exact i3_nm (by omega)
      have n6 : nt v6 = p6 := by rw [e6]; exact nt_i (by omega)
      -- the first booking
      have hx : nb T D t o 0 v6 = [(T + nt (fd D t 3), nt (fd D t 1), nt v6, nt (fd D t 2), o)] := if_neg nm6
      obtain ⟨c1, c2, c3, c4⟩ := bk_app (L := L) (D := D) (x := (T + nt (fd D t 3), nt (fd D t 1), nt v6, nt (fd D t 2), o)) (a := D 10 0 42 + fd D t 3) (b := fd D t 1) (c := v6) (d := fd D t 2) (e := i3 o) (v := D 10 0 36 + 1) b3' (by
        rw [hN.2.2.2.2.2.2.2.2.2.2.2.2, (wa 0 (by decide)).1, i3_add]
        rw [← (wa 0 (by decide)).1]) w0.1 (by rw [e6, nt_i (by omega)]) (wd 0 (by decide)).1 rfl (by rw [b1, i3_one]) rfl
      rw [← hx] at c1 c2
      have lx : (nb T D t o 0 v6).length = 1 := by rw [hx]; rfl
      -- what is left at its place
      have room : ∀ p, p < 8 → rsv (L ++ nb T D t o 0 v6) p = rsv L p + (if p6 = p then nt (fd D t 2) else 0) ∧ rsv (L ++ nb T D t o 0 v6) p ≤ nt (D 41 0 p) := by
        intro p hp
        have e1 : rsv (L ++ nb T D t o 0 v6) p = rsv L p + (if p6 = p then nt (fd D t 2) else 0) := by
          rw [rsv_app, hx]
          show _ + ((if nt v6 = p then _ else 0) + 0) = _
          rw [n6, Nat.add_zero]
        refine ⟨e1, ?_⟩
        rw [e1]
        have q := (hQ p hp).2.2.2.2.2.2
        by_cases ep : p6 = p
        · rw [if_pos ep]
          subst ep
          have w41 := (hQ p6 hp).2.2.2.1
          have o3 := ok6.2.2
          rw [w41.1, (wd 0 (by decide)).1, i3_sub q] at o3
          have := (i3_le (by have := (wd 0 (by decide)).2; omega) (by have := w41.2; omega)).1 o3
          have e2 : 2 + 3 * 0 = 2 := rfl
          rw [e2] at this
          omega
        · rw [if_neg ep]; omega
      by_cases z1 : fd D t 4 = -1
      · have e7 : v7 = -1 := h7.elim (fun q => q.2) (fun q => absurd z1 q.1)
        have hL1 : nb T D t o 0 v6 = nb T D t o 0 v6 ++ nb T D t o 1 v7 := by rw [show nb T D t o 1 v7 = [] from if_pos e7, List.append_nil]
        refine ⟨v6, v7, 1, _, nb T D t o 0 v6, s0, s1, qX10_book_3 (by omega) rfl t4 et n0 p0 ge6 (by omega) b1 (show fd D t 4 < 0 by rw [z1]; decide), fun e => absurd e (by decide), fun _ => ⟨Or.inr ⟨by rw [e6]; exact wi_of (by omega) (by omega), w0⟩, Or.inl ⟨e7, z1⟩, hL1, fun p hp => (room p hp).2⟩, ?_, by omega, c1, c2, c3, c4⟩
        intro x hxm
        rw [hx] at hxm
        cases List.mem_singleton.1 hxm; rfl
      · have w1 := (wk 4 (Or.inr rfl)).resolve_left z1
        have n1 : ¬ fd D t 4 < 0 := by rw [w1.1]; exact i3_nl (nt_lt _)
        have e7 := (h7.resolve_left (fun q => z1 q.1)).2
        generalize hD1 : am_put (am_put (am_put (am_put (am_put (am_put D 61 0 L.length (D 10 0 42 + fd D t 3)) 62 0 L.length (fd D t 1)) 63 0 L.length v6) 64 0 L.length (fd D t 2)) 65 0 L.length (i3 o)) 10 0 36 (D 10 0 36 + 1) = D1 at c1 c2 c3 c4
        have hr1 : ∀ x, x ∈ L ++ nb T D t o 0 v6 → x.2.2.1 < 8 := by
          intro x hxm
          rcases List.mem_append.1 hxm with q | q
          · exact (b4 x q).2.2.2.1
          · rw [hx] at q; cases List.mem_singleton.1 q; show nt v6 < 8; rw [n6]; exact p68
        have len1 : (L ++ nb T D t o 0 v6).length = L.length + 1 := by rw [List.length_append, lx]
        have p1 := sX10_placeFor (L := L ++ nb T D t o 0 v6) (fd D t 4) (fd D t 5) D1 c1 (by omega) c2 hr1
        have f40 := c3 40 (by decide) (by decide) (by decide) (by decide) (by decide) (by decide)
        have f41 := c3 41 (by decide) (by decide) (by decide) (by decide) (by decide) (by decide)
        have f42 := c3 42 (by decide) (by decide) (by decide) (by decide) (by decide) (by decide)
        rw [f40, f41, f42, c4 41 (by decide)] at p1
        have cg1 : v7 = bst (fun p => D 40 0 p = fd D t 4 ∧ D 10 0 41 < D 42 0 p ∧ fd D t 5 ≤ D 41 0 p - i3 (rsv (L ++ nb T D t o 0 v6) p)) (fun p => D 42 0 p) 8 := by
          rw [e7]
          refine bst_cg 8 (by decide) (fun p hp => ?_) (fun p hp => (hQ p hp).2.2.2.2.1)
          obtain ⟨q0, _, q1, w41, q3, q2, q4⟩ := hQ p hp
          obtain ⟨r1, r2⟩ := room p hp
          rw [q0, q1, q2, q3, hN.2.2.2.1, e6, c18 2 (by decide)]
          have e5 := (wd 1 (by decide)).1
          have e2 := (wd 0 (by decide)).1
          have l5 := (wd 1 (by decide)).2
          have l2 := (wd 0 (by decide)).2
          have l41 := w41.2
          rw [show 2 + 3 * 1 = 5 from rfl] at e5 l5
          rw [show 2 + 3 * 0 = 2 from rfl] at e2 l2
          have key : (fd D t 5 + (if i3 p = i3 p6 then fd D t 2 else 0) ≤ D 41 0 p - i3 (rsv L p)) ↔ (fd D t 5 ≤ D 41 0 p - i3 (rsv (L ++ nb T D t o 0 v6) p)) := by
            rw [w41.1, i3_sub q4, i3_sub r2]
            by_cases ep : p = p6
            · rw [if_pos (by rw [ep]), e5, e2, i3_add, i3_le (by omega) (by omega), i3_le (by omega) (by omega), r1, if_pos ep.symm]
              rw [r1, if_pos ep.symm] at r2
              omega
            · rw [if_neg (fun q => ep ((i3_inj (by omega) (by omega)).1 q)), i3_add0, r1, if_neg (fun q => ep q.symm), Nat.add_zero]
          rw [key, e6]
        rw [← cg1] at p1
        have sp7 := bst_spec (ok := fun p => D 40 0 p = fd D t 4 ∧ D 10 0 41 < D 42 0 p ∧ fd D t 5 ≤ D 41 0 p - i3 (rsv (L ++ nb T D t o 0 v6) p)) (e := fun p => D 42 0 p) 8
        rw [← cg1] at sp7
        have mem0 : ∀ x, x ∈ nb T D t o 0 v6 → x.2.2.2.2 = o := by
          intro x hxm
          rw [hx] at hxm
          cases List.mem_singleton.1 hxm; rfl
        rcases sp7 with m7 | ⟨p7, p78, m7, ok7⟩
        · refine ⟨v6, v7, 0, D1, nb T D t o 0 v6, s0, s1, ?_, fun _ => Or.inr ⟨z1, m7⟩, fun e => absurd rfl e, mem0, by omega, c1, c2, c3, c4⟩
          have := qX10_book_5 (M := D) (x1 := i3 o) (j1 := o) (j3 := t) (v3 := v6) (j9 := L.length) (v5 := v7) (by omega) rfl t4 et n0 p0 ge6 (by omega) b1 n1 (by rw [hD1]; exact p1) (m1n _ m7)
          rw [hD1] at this
          exact this
        · have ge7 : (0 : Int32) ≤ v7 := by rw [m7]; exact i3_ge (by omega)
          have nm7 : ¬ v7 = -1 := by rw [m7]; exact i3_nm (by omega)
          have n7 : nt v7 = p7 := by rw [m7]; exact nt_i (by omega)
          have hy : nb T D t o 1 v7 = [(T + nt (fd D t 6), nt (fd D t 4), nt v7, nt (fd D t 5), o)] := if_neg nm7
          obtain ⟨g1, g2, g3, g4⟩ := bk_app (L := L ++ nb T D t o 0 v6) (D := D1) (x := (T + nt (fd D t 6), nt (fd D t 4), nt v7, nt (fd D t 5), o)) (a := D 10 0 42 + fd D t 6) (b := fd D t 4) (c := v7) (d := fd D t 5) (e := i3 o) (v := D 10 0 36 + 1 + 1) c2 (by
            rw [hN.2.2.2.2.2.2.2.2.2.2.2.2, (wa 1 (by decide)).1, i3_add]
            rw [← (wa 1 (by decide)).1]) w1.1 (by rw [m7, nt_i (by omega)]) (wd 1 (by decide)).1 rfl (by rw [b1, i3_one, i3_one, len1]) rfl
          rw [← hy, List.append_assoc] at g1 g2
          rw [len1] at g1 g2 g3 g4
          have ly : (nb T D t o 1 v7).length = 1 := by rw [hy]; rfl
          refine ⟨v6, v7, 1, _, nb T D t o 0 v6 ++ nb T D t o 1 v7, s0, s1, ?_, fun e => absurd e (by decide), fun _ => ⟨Or.inr ⟨by rw [e6]; exact wi_of (by omega) (by omega), w0⟩, Or.inr ⟨by rw [m7]; exact wi_of (by omega) (by omega), w1⟩, rfl, fun p hp => ?_⟩, ?_, by rw [List.length_append]; omega, g1, g2, fun k h1 h2 h3 h4 h5 h6 => (g3 k h1 h2 h3 h4 h5 h6).trans (c3 k h1 h2 h3 h4 h5 h6), fun f hf => (g4 f hf).trans (c4 f hf)⟩
          · have := qX10_book_4 (M := D) (x1 := i3 o) (j1 := o) (j3 := t) (v3 := v6) (j9 := L.length) (v5 := v7) (j11 := L.length + 1) (by omega) rfl t4 et n0 p0 ge6 (by omega) b1 n1 (by rw [hD1]; exact p1) ge7 (by omega) (by rw [b1, i3_one])
            rw [hD1] at this
            exact this
          · rw [← List.append_assoc, rsv_app, hy]
            show _ + ((if nt v7 = p then _ else 0) + 0) ≤ _
            obtain ⟨r1, r2⟩ := room p hp
            rw [n7, Nat.add_zero]
            by_cases ep : p7 = p
            · rw [if_pos ep]
              subst ep
              have w41 := (hQ p7 hp).2.2.2.1
              have o3 := ok7.2.2
              rw [w41.1, (wd 1 (by decide)).1, i3_sub r2] at o3
              have := (i3_le (by have := (wd 1 (by decide)).2; omega) (by have := w41.2; omega)).1 o3
              have e2 : 2 + 3 * 1 = 5 := rfl
              rw [e2] at this
              show _ + nt (fd D t 5) ≤ _
              omega
            · rw [if_neg ep]; omega
          · intro x hxm
            rcases List.mem_append.1 hxm with q | q
            · exact mem0 x q
            · rw [hy] at q; cases List.mem_singleton.1 q; rfl
