/-! ===== reagent is given ===== -/
theorem set_perm {x y : Bk} : ∀ (l : List Bk) (b : Nat), l[b]? = some x → (x :: l.set b y).Perm (y :: l)
  | [], b, h => by cases h
  | a :: l, 0, h => by
    have e : a = x := Option.some.inj h
    subst e
    exact List.Perm.swap y a l
  | a :: l, b + 1, h => by
    have ih := set_perm (y := y) l b (show l[b]? = some x from h)
    exact (List.Perm.swap a x _).trans ((ih.cons a).trans (List.Perm.swap y a l))
theorem sr_perm {x y : Bk} {l : List Bk} {b : Nat} (h : (l ++ [y])[b]? = some x) : (l ++ [y]).Perm (x :: l.set b y) := by
  rcases Nat.lt_or_ge b l.length with q | q
  · rw [List.getElem?_append_left q] at h
    exact (List.perm_append_comm (l₁ := l) (l₂ := [y])).trans (set_perm l b h).symm
  · have hb := (List.getElem?_eq_some_iff.mp h).1
    rw [List.length_append] at hb
    have hb' : b < l.length + 1 := hb
    have e : b = l.length := by omega
    rw [List.getElem?_append_right q, e, Nat.sub_self] at h
    have ex : y = x := Option.some.inj h
    rw [List.set_eq_of_length_le q, ex]
    exact List.perm_append_comm (l₁ := l) (l₂ := [x])
theorem RU_pm {lo ms jd T c o t : Nat} {L L' : List Bk} {C D : am_M} (h : RU lo ms jd T L C D c o t) (hp : (L'.filter (fun x => x.2.2.2.2 == o)).Perm (L.filter (fun x => x.2.2.2.2 == o))) : RU lo ms jd T L' C D c o t := by
  obtain ⟨u1, u2, u3, u4, u5, u6, u7, u8, u9, u10, u11, u12, u13, u14, u15⟩ := h
  exact ⟨u1, u2, u3, u4, u5, u6, u7, u8, u9, u10, u11, u12, u13, u14, hp.trans u15⟩
theorem nd_eq {L : List Bk} (h : (L.map (fun x => x.1)).Nodup) {i j : Nat} {x y : Bk} (hi : L[i]? = some x) (hj : L[j]? = some y) (e : x.1 = y.1) : i = j := by
  have hi2 := (List.getElem?_eq_some_iff.mp hi)
  have hj2 := (List.getElem?_eq_some_iff.mp hj)
  obtain ⟨hi3, hi4⟩ := hi2
  obtain ⟨hj3, hj4⟩ := hj2
  have pw := List.pairwise_iff_getElem.mp h
  have l1 : i < (L.map (fun x => x.1)).length := by rw [List.length_map]; exact hi3
  have l2 : j < (L.map (fun x => x.1)).length := by rw [List.length_map]; exact hj3
  rcases Nat.lt_trichotomy i j with q | q | q
  · have := pw i j l1 l2 q
    rw [List.getElem_map, List.getElem_map, hi4, hj4] at this
    exact absurd e this
  · exact q
  · have := pw j i l2 l1 q
    rw [List.getElem_map, List.getElem_map, hi4, hj4] at this
    exact absurd e.symm this
/-- the dose that is due is the next one -/
theorem due {lo ms jd T c o t : Nat} {L : List Bk} {C D : am_M} {x : Bk} (hu : RU lo ms jd T L C D c o t) (hcm : cmpl D t) (hx : x ∈ L) (eo : x.2.2.2.2 = o) (es : x.1 = T) : ∃ g, g < 2 ∧ C 1 c 4 = i3 g ∧ ¬ C 14 c g = -1 ∧ x = (T + nt (fd D t (3 + 3 * g)) - nt (D 52 0 o), nt (fd D t (1 + 3 * g)), nt (C 14 c g), nt (C 15 c g), o) := by
  have u12 := hu.2.2.2.2.2.2.2.2.2.2.2.1
  have u13 := hu.2.2.2.2.2.2.2.2.2.2.2.2.1
  have u14 := hu.2.2.2.2.2.2.2.2.2.2.2.2.2.1
  have u15 := hu.2.2.2.2.2.2.2.2.2.2.2.2.2.2
  have m : x ∈ pnd1 T C D c o t 0 ++ pnd1 T C D c o t 1 := u15.mem_iff.mp (List.mem_filter.mpr ⟨hx, by rw [eo]; exact beq_self_eq_true o⟩)
  have one : ∀ w, x ∈ pnd1 T C D c o t w → nt (C 1 c 4) ≤ w ∧ ¬ C 14 c w = -1 ∧ x = (T + nt (fd D t (3 + 3 * w)) - nt (D 52 0 o), nt (fd D t (1 + 3 * w)), nt (C 14 c w), nt (C 15 c w), o) := by
    intro w hm
    unfold pnd1 at hm
    by_cases q : nt (C 1 c 4) ≤ w ∧ ¬ C 14 c w = -1
    · rw [if_pos q] at hm
      exact ⟨q.1, q.2, List.mem_singleton.mp hm⟩
    · rw [if_neg q] at hm
      exact absurd hm List.not_mem_nil
  rcases List.mem_append.mp m with q | q
  · obtain ⟨q1, q2, q3⟩ := one 0 q
    refine ⟨0, by decide, ?_, q2, q3⟩
    rw [u12.1, show nt (C 1 c 4) = 0 by omega]
  · obtain ⟨q1, q2, q3⟩ := one 1 q
    refine ⟨1, by decide, ?_, q2, q3⟩
    rcases Nat.lt_or_ge (nt (C 1 c 4)) 1 with g | g
    · exfalso
      have k1 : ¬ fd D t (1 + 3 * 1) = -1 := by
        rcases (u13 1 (by decide)).1 with r | r
        · exact absurd r.1 q2
        · rw [r.2.1]; exact i3_nm (nt_lt _)
      have a1 := u14 1 (by decide) q1 q2
      have e1 : T + nt (fd D t (3 + 3 * 1)) - nt (D 52 0 o) = T := by
        have := congrArg (fun z => z.1) q3
        exact this.symm.trans es
      have s0 : ¬ C 14 c 0 = -1 := fun z => by
        rcases (u13 0 (by decide)).1 with r | r
        · exact k1 (hcm.1 r.2)
        · rw [r.1.1] at z; exact i3_nm (nt_lt _) z
      have a0 := u14 0 (by decide) (by omega) s0
      have lt : nt (fd D t 3) < nt (fd D t 6) := (hcm.2.2.1 k1).1
      have a0' : nt (D 52 0 o) + lo ≤ nt (fd D t 3) := a0
      have e1' : T + nt (fd D t 6) - nt (D 52 0 o) = T := e1
      omega
    · rw [u12.1, show nt (C 1 c 4) = 1 by have := u12.2; omega]
theorem J_give {T n : Nat} {L : List Bk} {C D : am_M} (h : Rel 0 0 0 T n L C D) (hT : 1 ≤ T) (hT2 : T ≤ 1000000) : ∃ C' D' L', fX9_giveReagent [.inr (9, 0)] C = am_rV C' ∧ fX10_give [.inr (10, 0)] D = am_rV D' ∧ Rel 1 0 0 T n L' C' D' := by
  have hB := h.2.2.2.2.2.2.2.2
  have bl := bk_len hB
  obtain ⟨hP, hS, hF, hQ, hN, hO, hH, hC, _⟩ := h
  obtain ⟨b1, b2, b3, b4, b5, b6, b7, b8⟩ := hB
  have h40 := hN.2.2.1
  have e42 : D 10 0 42 = i3 T := hN.2.2.2.2.2.2.2.2.2.2.2.2
  have skip : ∀ b, b ≤ L.length → (∀ i y, i < b → L[i]? = some y → ¬ y.1 = T) → ∀ m res, rX10_give m 2 [.inr (10, 0), .inl (.int (i3 b)), am_D] [] D = some res → rX10_give (m + 100 * b) 2 [.inr (10, 0), .inl (.int 0), am_D] [] D = some res := by
    intro b hb hy m res k
    obtain ⟨_, _, hh⟩ := lp_do (A := Unit) (r := fun m i _ => rX10_give m 2 [.inr (10, 0), .inl (.int (i3 i)), am_D] [] D) (N := b) (c := 100) (I := fun _ _ => True) (fun i _ hi _ => ⟨(), trivial, fun m res k => by
      have hx : L[i]? = some (L[i]'(by omega)) := List.getElem?_eq_getElem (by omega)
      refine qX10_give_2_3 (hge b1 (by omega) (by omega)) (by omega) ?_ k
      rw [(b3 i _ hx).1, e42]
      have := (b4 _ (List.mem_of_getElem? hx)).2.1
      exact fun q => hy i _ hi hx ((i3_inj (by omega) (by omega)).mp q)⟩) b 0 () (Nat.zero_add b) trivial
    exact hh m res k
  rcases b5 0 (by decide) (by decide) with ⟨k19, k20⟩ | ⟨x, hx, ex⟩
  · -- nothing is booked for this step
    have nb : ∀ y, y ∈ L → T + 1 ≤ y.1 := by
      intro y hy
      obtain ⟨a1, _, _, _, _, _, c, hc, _, a8, _⟩ := b4 y hy
      have : ¬ y.1 = T := fun e => by
        rw [e, Nat.sub_self, k20] at a8
        exact i3_nm (by omega) a8.symm
      omega
    refine ⟨C, D, L, qX9_giveReagent_0 (by rw [k20]; decide), qX10_give_0 ?_, hP, hS, hF, hQ, hN, hO, hH, ⟨hC.1, hC.2.1, fun o c ho hc q => RU_lo (hC.2.2 o c ho hc q) (fun y hy _ => nb y hy)⟩, b1, b2, b3, fun y hy => ?_, fun i hi hi2 => b5 i (by omega) hi2, fun _ => ?_, wi_mono b7 (by omega), b8⟩
    · have := skip L.length (Nat.le_refl _) (fun i y _ hy e => by
        have := nb y (List.mem_of_getElem? hy)
        omega) (99900 - 100 * L.length) _ (mX10_give (qX10_give_2_0 (n := 0) (hen b1 (by omega))) (by omega))
      rw [show 99900 - 100 * L.length + 100 * L.length = 99900 by omega] at this
      exact this
    · obtain ⟨_, q⟩ := b4 y hy
      exact ⟨nb y hy, q⟩
    · rw [k19, if_neg (fun q => by
        have a := b7.2
        rw [q, nt_i (by omega)] at a
        omega)]
  · -- x is due
    have exT : x.1 = T := by omega
    obtain ⟨b, hbx⟩ := List.getElem?_of_mem hx
    have hbl : b < L.length := (List.getElem?_eq_some_iff.mp hbx).1
    obtain ⟨a1, a2, a3, a4, a5, a6, c, hc, a7, a8, a9⟩ := b4 x hx
    rw [exT, Nat.sub_self] at a8 a9
    obtain ⟨z1, z2, z3, z4, z5⟩ := b3 b x hbx
    have oth1 : ∀ y, y ∈ L → ¬ y = x → T + 1 ≤ y.1 := by
      intro y hy ne
      obtain ⟨i, hi⟩ := List.getElem?_of_mem hy
      have q1 := (b4 y hy).1
      have : ¬ y.1 = T := fun e => by
        have := nd_eq b2 hi hbx (by rw [e, exT])
        rw [this, hbx] at hi
        exact ne (Option.some.inj hi).symm
      omega
    have before : ∀ i y, i < b → L[i]? = some y → ¬ y.1 = T := fun i y hi hy e => by
      have := nd_eq b2 hy hbx (by rw [e, exT])
      omega
    have e61 : D 61 0 b = D 10 0 42 := by rw [z1, e42, exT]
    have rng : 0 ≤ C 20 0 0 ∧ C 20 0 0 ≤ 9 := by
      rw [a8]; exact ⟨i3_ge (by omega), (i3_le (b := 9) (by omega) (by decide)).mpr (by omega)⟩
    have e47 := hN.2.2.2.2.2.2.2.2.2.1
    have b47 := hN.2.2.2.2.2.2.2.2.2.2.1
    have fin : ∀ M4, rX10_give (99700 - 100 * b + 200) 2 [.inr (10, 0), .inl (.int (i3 b)), am_D] [] D = am_rV M4 → fX10_give [.inr (10, 0)] D = am_rV M4 := fun M4 k => by
      refine qX10_give_0 ?_
      have := skip b (by omega) before _ _ k
      rw [show 99700 - 100 * b + 200 + 100 * b = 99900 by omega] at this
      exact this
    by_cases miss : am_b (D 10 0 47) = 0
    · -- the dose is given
      have o40 : x.2.2.2.2 < 40 := by omega
      have hu := hC.2.2 _ c a6 hc a7
      have run := c_run hO a6 hc a7
      have hcm := hO.2.2.2.2.2.2.2.2.2 _ a6 (by rw [run]; decide)
      have t4 := t4_of hO o40
      obtain ⟨g, hg, eg, ns, xe⟩ := due hu hcm hx rfl exT
      have ep : C 14 c g = i3 x.2.2.1 := by
        rcases (hu.2.2.2.2.2.2.2.2.2.2.2.2.1 g hg).1 with r | r
        · exact absurd r.1 ns
        · rw [xe]; exact r.1.1
      have ed : C 15 c g = i3 x.2.2.2.1 := by
        have w : wi (C 15 c g) 2000 := by
          rw [(hu.2.2.2.2.2.2.2.2.2.2.2.2.1 g hg).2]
          rcases Nat.lt_or_ge g 1 with l | l
          · rw [show g = 0 by omega]; exact RP_wi hP t4 (f := 2) (m := 2000) (by decide) rfl rfl (by decide)
          · rw [show g = 1 by omega]; exact RP_wi hP t4 (f := 5) (m := 2000) (by decide) rfl rfl (by decide)
        rw [xe]; exact w.1
      -- the list without x
      obtain ⟨l, y, hl⟩ : ∃ l y, L = l ++ [y] := ⟨L.dropLast, L.getLast (by intro e; rw [e] at hbl; exact absurd hbl (Nat.not_lt_zero _)), (List.dropLast_concat_getLast _).symm⟩
      have hlen : L.length = l.length + 1 := by rw [hl, List.length_append]; rfl
      have pm : L.Perm (x :: l.set b y) := by
        rw [hl]; exact sr_perm (by rw [← hl]; exact hbx)
      have hy : L[l.length]? = some y := by rw [hl, List.getElem?_append_right (Nat.le_refl _), Nat.sub_self]; rfl
      obtain ⟨y1, y2, y3, y4, y5⟩ := b3 _ y hy
      have e36 : D 10 0 36 - 1 = i3 l.length := by rw [b1, hlen, show (1 : Int32) = i3 1 from rfl, i3_sub (by omega)]; rfl
      have cp := qX10_copyBook_0 (M := am_put (am_put (am_put (am_put (am_put D 10 0 37 (D 10 0 42)) 10 0 38 (D 62 0 b)) 41 0 x.2.2.1 ((D 41 0 x.2.2.1) - (D 64 0 b))) 60 0 c ((D 60 0 c) + (D 64 0 b))) 10 0 36 ((D 10 0 36) - 1)) (x1 := D 10 0 36 - 1) (x2 := i3 b) (j1 := l.length) (j2 := b) (by omega) e36 (by omega) rfl
      have d1 := fin _ (qX10_give_2_1 (n := 99700 - 100 * b) (hge b1 hbl (by omega)) (by omega) e61 miss a4 z3 o40 z5 hc a7 cp)
      have c1 := qX9_giveReagent_1 rng (by rw [e47]; exact miss) hc a8 (qX9_giveNextDose_2 (x1 := c) (j1 := g) (j2 := x.2.2.1) (by rw [eg]; exact hge (n := 2) rfl hg (by decide)) hg eg (by rw [ep]; exact ⟨i3_ge (by omega), (i3_le (b := 7) (by omega) (by decide)).mpr (by omega)⟩) a4 ep)
      rw [put_ne (k' := 5) (f' := 1) (by omega)] at c1
      have mem : ∀ z, z ∈ l.set b y → z ∈ L ∧ T + 1 ≤ z.1 := by
        intro z hz
        have hz2 : z ∈ L := pm.mem_iff.mpr (List.mem_cons_of_mem _ hz)
        refine ⟨hz2, ?_⟩
        have nd : ((x :: l.set b y).map (fun x => x.1)).Nodup := (pm.map _).nodup b2
        rw [List.map_cons, List.nodup_cons] at nd
        have q1 := (b4 z hz2).1
        have : ¬ z.1 = T := fun e => nd.1 (by rw [exT, ← e]; exact List.mem_map_of_mem hz)
        omega
      have nd2 : ((l.set b y).map (fun x => x.1)).Nodup := by
        have nd : ((x :: l.set b y).map (fun x => x.1)).Nodup := (pm.map _).nodup b2
        rw [List.map_cons, List.nodup_cons] at nd
        exact nd.2
      have rsx : ∀ p, rsv L p = (if x.2.2.1 = p then x.2.2.2.1 else 0) + rsv (l.set b y) p := fun p => rsv_perm p pm
      refine ⟨_, _, l.set b y, c1, d1, ?_⟩
      generalize hC' : am_put (am_put (am_put (am_put C 5 x.2.2.1 2 (C 5 x.2.2.1 2 - C 15 c g)) 5 x.2.2.1 1 (C 5 x.2.2.1 1 - C 15 c g)) 1 c 9 (C 1 c 9 + C 15 c g)) 1 c 4 (C 1 c 4 + 1) = C'
      have ck : ∀ k, ¬ k = 5 → ¬ k = 1 → C' k = C k := fun k q1 q2 => by
        rw [← hC']; funext u v
        rw [put_ne (fun e => q2 e.1), put_ne (fun e => q2 e.1), put_ne (fun e => q1 e.1), put_ne (fun e => q1 e.1)]
      have c52 : ∀ p, C' 5 p 2 = if p = x.2.2.1 then C 5 p 2 - C 15 c g else C 5 p 2 := fun p => by
        rw [← hC']
        show am_put (am_put C 5 x.2.2.1 2 (C 5 x.2.2.1 2 - C 15 c g)) 5 x.2.2.1 1 (C 5 x.2.2.1 1 - C 15 c g) 5 p 2 = _
        rw [put_ne (by omega)]
        by_cases e : p = x.2.2.1
        · rw [if_pos e, put_eq ⟨rfl, e, rfl⟩, e]
        · rw [if_neg e, put_ne (fun q => e q.2.1)]
      have c51 : ∀ p, C' 5 p 1 = if p = x.2.2.1 then C 5 p 1 - C 15 c g else C 5 p 1 := fun p => by
        rw [← hC']
        show am_put (am_put C 5 x.2.2.1 2 (C 5 x.2.2.1 2 - C 15 c g)) 5 x.2.2.1 1 (C 5 x.2.2.1 1 - C 15 c g) 5 p 1 = _
        by_cases e : p = x.2.2.1
        · rw [if_pos e, put_eq ⟨rfl, e, rfl⟩, e]
        · rw [if_neg e, put_ne (fun q => e q.2.1), put_ne (fun q => e q.2.1)]
      have c5r : ∀ p f, ¬ f = 1 → ¬ f = 2 → C' 5 p f = C 5 p f := fun p f q1 q2 => by
        rw [← hC']
        show am_put (am_put C 5 x.2.2.1 2 (C 5 x.2.2.1 2 - C 15 c g)) 5 x.2.2.1 1 (C 5 x.2.2.1 1 - C 15 c g) 5 p f = _
        rw [put_ne (fun q => q1 q.2.2), put_ne (fun q => q2 q.2.2)]
      have c1r : ∀ c' f, ¬ (c' = c ∧ (f = 9 ∨ f = 4)) → C' 1 c' f = C 1 c' f := fun c' f q => by
        rw [← hC', put_ne (fun e => q ⟨e.2.1, Or.inr e.2.2⟩), put_ne (fun e => q ⟨e.2.1, Or.inl e.2.2⟩)]; rfl
      have c19 : C' 1 c 9 = C 1 c 9 + C 15 c g := by rw [← hC', put_ne (by omega), put_eq ⟨rfl, rfl, rfl⟩]
      have c14 : C' 1 c 4 = i3 (g + 1) := by rw [← hC', put_eq ⟨rfl, rfl, rfl⟩, eg, i3_one]
      generalize hD' : am_put (am_put (am_put (am_put (am_put (am_put (am_put (am_put (am_put (am_put D 10 0 37 (D 10 0 42)) 10 0 38 (D 62 0 b)) 41 0 x.2.2.1 ((D 41 0 x.2.2.1) - (D 64 0 b))) 60 0 c ((D 60 0 c) + (D 64 0 b))) 10 0 36 ((D 10 0 36) - 1)) 61 0 b (am_put (am_put (am_put (am_put (am_put D 10 0 37 (D 10 0 42)) 10 0 38 (D 62 0 b)) 41 0 x.2.2.1 ((D 41 0 x.2.2.1) - (D 64 0 b))) 60 0 c ((D 60 0 c) + (D 64 0 b))) 10 0 36 ((D 10 0 36) - 1) 61 0 l.length)) 62 0 b (am_put (am_put (am_put (am_put (am_put D 10 0 37 (D 10 0 42)) 10 0 38 (D 62 0 b)) 41 0 x.2.2.1 ((D 41 0 x.2.2.1) - (D 64 0 b))) 60 0 c ((D 60 0 c) + (D 64 0 b))) 10 0 36 ((D 10 0 36) - 1) 62 0 l.length)) 63 0 b (am_put (am_put (am_put (am_put (am_put D 10 0 37 (D 10 0 42)) 10 0 38 (D 62 0 b)) 41 0 x.2.2.1 ((D 41 0 x.2.2.1) - (D 64 0 b))) 60 0 c ((D 60 0 c) + (D 64 0 b))) 10 0 36 ((D 10 0 36) - 1) 63 0 l.length)) 64 0 b (am_put (am_put (am_put (am_put (am_put D 10 0 37 (D 10 0 42)) 10 0 38 (D 62 0 b)) 41 0 x.2.2.1 ((D 41 0 x.2.2.1) - (D 64 0 b))) 60 0 c ((D 60 0 c) + (D 64 0 b))) 10 0 36 ((D 10 0 36) - 1) 64 0 l.length)) 65 0 b (am_put (am_put (am_put (am_put (am_put D 10 0 37 (D 10 0 42)) 10 0 38 (D 62 0 b)) 41 0 x.2.2.1 ((D 41 0 x.2.2.1) - (D 64 0 b))) 60 0 c ((D 60 0 c) + (D 64 0 b))) 10 0 36 ((D 10 0 36) - 1) 65 0 l.length) = D'
      have dk : ∀ k, k ∈ [30, 31, 32, 33, 34, 35, 36, 37, 38, 39, 40, 42, 43, 45, 46, 47, 48, 49, 50, 51, 52, 53, 54, 55, 56, 57, 58, 59, 69] → D' k = D k := fun k hk => by
        have := (by decide : ∀ k, k ∈ [30, 31, 32, 33, 34, 35, 36, 37, 38, 39, 40, 42, 43, 45, 46, 47, 48, 49, 50, 51, 52, 53, 54, 55, 56, 57, 58, 59, 69] → ¬ k = 10 ∧ ¬ k = 41 ∧ ¬ k = 60 ∧ ¬ k = 61 ∧ ¬ k = 62 ∧ ¬ k = 63 ∧ ¬ k = 64 ∧ ¬ k = 65) k hk
        obtain ⟨q0, q1, q2, q3, q4, q5, q6, q7⟩ := this
        rw [← hD']; funext u v
        rw [put_ne (fun e => q7 e.1), put_ne (fun e => q6 e.1), put_ne (fun e => q5 e.1), put_ne (fun e => q4 e.1), put_ne (fun e => q3 e.1), put_ne (fun e => q0 e.1), put_ne (fun e => q2 e.1), put_ne (fun e => q1 e.1), put_ne (fun e => q0 e.1), put_ne (fun e => q0 e.1)]
      have d10 : ∀ f, ¬ f = 36 → ¬ f = 37 → ¬ f = 38 → D' 10 0 f = D 10 0 f := fun f q0 q1 q2 => by
        rw [← hD']
        show am_put (am_put (am_put (am_put (am_put D 10 0 37 (D 10 0 42)) 10 0 38 (D 62 0 b)) 41 0 x.2.2.1 ((D 41 0 x.2.2.1) - (D 64 0 b))) 60 0 c ((D 60 0 c) + (D 64 0 b))) 10 0 36 ((D 10 0 36) - 1) 10 0 f = _
        rw [put_ne (fun e => q0 e.2.2)]
        show am_put (am_put D 10 0 37 (D 10 0 42)) 10 0 38 (D 62 0 b) 10 0 f = _
        rw [put_ne (fun e => q2 e.2.2), put_ne (fun e => q1 e.2.2)]
      have d36 : D' 10 0 36 = i3 l.length := by rw [← hD']; exact e36
      have d37 : D' 10 0 37 = i3 T := by rw [← hD']; exact e42
      have d38 : D' 10 0 38 = i3 x.2.1 := by rw [← hD']; exact z2
      have d41 : ∀ p, D' 41 0 p = if p = x.2.2.1 then D 41 0 p - D 64 0 b else D 41 0 p := fun p => by
        rw [← hD']
        show am_put (am_put (am_put D 10 0 37 (D 10 0 42)) 10 0 38 (D 62 0 b)) 41 0 x.2.2.1 ((D 41 0 x.2.2.1) - (D 64 0 b)) 41 0 p = _
        by_cases e : p = x.2.2.1
        · rw [if_pos e, put_eq ⟨rfl, rfl, e⟩, e]
        · rw [if_neg e, put_ne (fun q => e q.2.2)]; rfl
      have d60 : ∀ c', D' 60 0 c' = if c' = c then D 60 0 c + D 64 0 b else D 60 0 c' := fun c' => by
        rw [← hD']
        show am_put (am_put (am_put (am_put D 10 0 37 (D 10 0 42)) 10 0 38 (D 62 0 b)) 41 0 x.2.2.1 ((D 41 0 x.2.2.1) - (D 64 0 b))) 60 0 c ((D 60 0 c) + (D 64 0 b)) 60 0 c' = _
        by_cases e : c' = c
        · rw [if_pos e, put_eq ⟨rfl, rfl, e⟩]
        · rw [if_neg e, put_ne (fun q => e q.2.2)]; rfl
      have dcell : ∀ j z, (l.set b y)[j]? = some z → bcell D' j z := by
        intro j z hz
        rw [← hD']
        by_cases e : j = b
        · subst e
          have hj : j < l.length := by
            have := (List.getElem?_eq_some_iff.mp hz).1
            rw [List.length_set] at this; exact this
          rw [List.getElem?_set_self hj] at hz
          have ez : z = y := (Option.some.inj hz).symm
          rw [ez]
          refine ⟨?_, ?_, ?_, ?_, ?_⟩
          · rw [put_ne (by omega), put_ne (by omega), put_ne (by omega), put_ne (by omega), put_eq ⟨rfl, rfl, rfl⟩]; exact y1
          · rw [put_ne (by omega), put_ne (by omega), put_ne (by omega), put_eq ⟨rfl, rfl, rfl⟩]; exact y2
          · rw [put_ne (by omega), put_ne (by omega), put_eq ⟨rfl, rfl, rfl⟩]; exact y3
          · rw [put_ne (by omega), put_eq ⟨rfl, rfl, rfl⟩]; exact y4
          · rw [put_eq ⟨rfl, rfl, rfl⟩]; exact y5
        · rw [List.getElem?_set_ne (fun q => e q.symm)] at hz
          have hj : j < l.length := (List.getElem?_eq_some_iff.mp hz).1
          have hz2 : L[j]? = some z := by rw [hl, List.getElem?_append_left hj]; exact hz
          obtain ⟨w1, w2, w3, w4, w5⟩ := b3 j z hz2
          refine ⟨?_, ?_, ?_, ?_, ?_⟩
          · rw [put_ne (by omega), put_ne (by omega), put_ne (by omega), put_ne (by omega), put_ne (fun q => e q.2.2)]; exact w1
          · rw [put_ne (by omega), put_ne (by omega), put_ne (by omega), put_ne (fun q => e q.2.2)]; exact w2
          · rw [put_ne (by omega), put_ne (by omega), put_ne (fun q => e q.2.2)]; exact w3
          · rw [put_ne (by omega), put_ne (fun q => e q.2.2)]; exact w4
          · rw [put_ne (fun q => e q.2.2)]; exact w5
      refine ⟨?_, ?_, ?_, ?_, ?_, ?_, ?_, ⟨?_, ?_, ?_⟩, d36.trans (by rw [List.length_set]), nd2, dcell, fun z hz => ?_, fun i hi hi2 => ?_, fun _ => ?_, ?_, ?_⟩
      · exact RP_cg hP (fun k hk => by
          have := (by decide : ∀ k, k ∈ [18, 6, 0, 11, 12, 2, 16] → ¬ k = 5 ∧ ¬ k = 1) k hk
          exact ck k this.1 this.2) (fun k hk => dk k ((by decide : ∀ k, k ∈ [30, 31, 32, 33, 34, 35, 36] → k ∈ [30, 31, 32, 33, 34, 35, 36, 37, 38, 39, 40, 42, 43, 45, 46, 47, 48, 49, 50, 51, 52, 53, 54, 55, 56, 57, 58, 59, 69]) k hk))
      · exact RS_cg hS (ck 8 (by decide) (by decide)) (fun k hk => dk k ((by decide : ∀ k, k ∈ [37, 38, 39] → k ∈ [30, 31, 32, 33, 34, 35, 36, 37, 38, 39, 40, 42, 43, 45, 46, 47, 48, 49, 50, 51, 52, 53, 54, 55, 56, 57, 58, 59, 69]) k hk))
      · exact RF_cg hF (ck 21 (by decide) (by decide)) (dk 43 (by decide))
      · intro p hp
        obtain ⟨q1, q2, q3, q4, q5, q6, q7⟩ := hQ p hp
        rw [c5r p 0 (by decide) (by decide), c5r p 3 (by decide) (by decide), c51, c52, dk 40 (by decide), dk 42 (by decide), d41]
        have rp := rsx p
        by_cases e : p = x.2.2.1
        · rw [if_pos e.symm] at rp
          rw [if_pos e, if_pos e, if_pos e, z4, ed, q3, q6]
          have ev : D 41 0 p = i3 (nt (D 41 0 p)) := q4.1
          have hv := q4.2
          have e2 : D 41 0 p - i3 x.2.2.2.1 = i3 (nt (D 41 0 p) - x.2.2.2.1) := by
            have : i3 (nt (D 41 0 p)) - i3 x.2.2.2.1 = i3 (nt (D 41 0 p) - x.2.2.2.1) := i3_sub (by omega)
            rw [← ev] at this; exact this
          rw [e2, nt_i (by omega)]
          refine ⟨q1, q2, rfl, wi_of (by omega) (by decide), q5, ?_, by omega⟩
          rw [i3_sub (by omega)]
          congr 1; omega
        · rw [if_neg (fun q => e q.symm), Nat.zero_add] at rp
          rw [if_neg e, if_neg e, if_neg e, ← rp]
          exact ⟨q1, q2, q3, q4, q5, q6, q7⟩
      · unfold RN
        rw [ck 9 (by decide) (by decide), d10 14 (by decide) (by decide) (by decide), d10 41 (by decide) (by decide) (by decide), d10 44 (by decide) (by decide) (by decide), d10 46 (by decide) (by decide) (by decide), d10 47 (by decide) (by decide) (by decide), d10 43 (by decide) (by decide) (by decide), d10 42 (by decide) (by decide) (by decide)]
        exact hN
      · exact RO_cg hO (ck 4 (by decide) (by decide)) (fun k hk => dk k ((by decide : ∀ k, k ∈ [45, 46, 47, 48, 49, 50, 51, 53, 57, 58, 30, 34] → k ∈ [30, 31, 32, 33, 34, 35, 36, 37, 38, 39, 40, 42, 43, 45, 46, 47, 48, 49, 50, 51, 52, 53, 54, 55, 56, 57, 58, 59, 69]) k hk))
      · exact RH_cg hH (ck 3 (by decide) (by decide)) (ck 17 (by decide) (by decide)) (dk 48 (by decide)) (dk 69 (by decide)) (d10 40 (by decide) (by decide) (by decide))
      · intro c' hc'
        obtain ⟨q1, q2, q3⟩ := hC.1 c' hc'
        rw [c1r c' 8 (by omega), dk 59 (by decide), d60]
        refine ⟨q1, q2, ?_⟩
        by_cases e : c' = c
        · rw [if_pos e, e, c19, ed, z4]; rw [e] at q3; rw [q3]
        · rw [if_neg e, c1r c' 9 (by omega)]; exact q3
      · intro c' hc'
        rw [c1r c' 5 (by omega), dk 51 (by decide)]; exact hC.2.1 c' hc'
      · intro o' c' ho' hc' q
        rw [dk 51 (by decide)] at q
        rw [dk 46 (by decide)]
        have u := hC.2.2 o' c' ho' hc' q
        have fds : ∀ f, fd D' (nt (D 46 0 o')) f = fd D (nt (D 46 0 o')) f := fun f => by unfold fd; rw [dk 30 (by decide)]
        by_cases eo : o' = x.2.2.2.2
        · have ec : c' = c := by
            rw [eo, a7] at q
            exact ((i3_inj (by omega) (by omega)).mp q).symm
          subst eo
          subst ec
          refine RU_lo ?_ (fun z hz _ => (mem z hz).2) (lo := 0)
          obtain ⟨u1, u2, u3, u4, u5, u6, u7, u8, u9, u10, u11, u12, u13, u14, u15⟩ := u
          have gn : nt (C 1 c' 4) = g := by rw [eg]; exact nt_i (by omega)
          have gn' : nt (C' 1 c' 4) = g + 1 := by rw [c14]; exact nt_i (by omega)
          refine ⟨?_, ?_, ?_, ?_, ?_, ?_, ?_, ?_, ?_, ?_, ?_, ?_, ?_, ?_, ?_⟩
          · rw [c1r c' 5 (by omega)]; exact u1
          · rw [dk 59 (by decide)]; exact u2
          · rw [c1r c' 7 (by omega), dk 52 (by decide)]; exact u3
          · rw [dk 52 (by decide)]; exact u4
          · rw [dk 52 (by decide), fds]; exact u5
          · rw [dk 52 (by decide), fds]; exact u6
          · rw [c1r c' 6 (by omega), dk 54 (by decide)]; exact u7
          · rw [dk 54 (by decide)]; exact u8
          · rw [c1r c' 1 (by omega), dk 56 (by decide)]; exact u9
          · rw [dk 56 (by decide), dk 52 (by decide), fds, fds]; exact u10
          · rw [dk 56 (by decide), ck 13 (by decide) (by decide), dk 55 (by decide)]; exact u11
          · rw [c14]; exact wi_of (by omega) (by decide)
          · intro w hw
            rw [ck 14 (by decide) (by decide), ck 15 (by decide) (by decide), fds, fds]; exact u13 w hw
          · intro w hw
            rw [gn', ck 14 (by decide) (by decide), dk 52 (by decide), fds]
            intro p1 p2
            exact u14 w hw (by omega) p2
          · have pe : pnd1 T C D c' x.2.2.2.2 (nt (D 46 0 x.2.2.2.2)) 0 ++ pnd1 T C D c' x.2.2.2.2 (nt (D 46 0 x.2.2.2.2)) 1 = x :: (pnd1 T C' D' c' x.2.2.2.2 (nt (D 46 0 x.2.2.2.2)) 0 ++ pnd1 T C' D' c' x.2.2.2.2 (nt (D 46 0 x.2.2.2.2)) 1) := by
              have og : pnd1 T C D c' x.2.2.2.2 (nt (D 46 0 x.2.2.2.2)) g = [x] := by
                unfold pnd1
                rw [if_pos ⟨by omega, ns⟩]
                exact congrArg (fun z => [z]) xe.symm
              have ng : pnd1 T C' D' c' x.2.2.2.2 (nt (D 46 0 x.2.2.2.2)) g = [] := by
                unfold pnd1
                rw [if_neg (fun z => by have := z.1; omega)]
              have ow : ∀ w, w < 2 → ¬ w = g → pnd1 T C' D' c' x.2.2.2.2 (nt (D 46 0 x.2.2.2.2)) w = pnd1 T C D c' x.2.2.2.2 (nt (D 46 0 x.2.2.2.2)) w := by
                intro w hw hne
                unfold pnd1
                rw [gn, gn', ck 14 (by decide) (by decide), ck 15 (by decide) (by decide), dk 52 (by decide), fds, fds]
                by_cases z : g ≤ w ∧ ¬ C 14 c' w = -1
                · rw [if_pos z, if_pos ⟨by omega, z.2⟩]
                · rw [if_neg z, if_neg (fun r => z ⟨by omega, r.2⟩)]
              rcases Nat.lt_or_ge g 1 with l0 | l0
              · have g0 : g = 0 := by omega
                rw [g0] at og ng ow
                rw [og, ng, ow 1 (by decide) (by decide)]; rfl
              · have g1 : g = 1 := by omega
                have o0 : pnd1 T C D c' x.2.2.2.2 (nt (D 46 0 x.2.2.2.2)) 0 = [] := by
                  unfold pnd1
                  rw [if_neg (fun z => by have := z.1; omega)]
                rw [g1] at og ng ow
                rw [ow 0 (by decide) (by decide), og, ng, o0]; rfl
            have f1 := pm.filter (fun z => z.2.2.2.2 == x.2.2.2.2)
            rw [List.filter_cons_of_pos (by exact beq_self_eq_true _)] at f1
            have f2 := f1.symm.trans u15
            rw [pe] at f2
            exact (List.perm_cons x).mp f2
        · have ec : ¬ c' = c := fun e => by
            rw [e] at u
            have := u.1
            rw [hu.1] at this
            exact eo ((i3_inj (by omega) (by omega)).mp this.symm)
          have f1 := pm.filter (fun z => z.2.2.2.2 == o')
          rw [List.filter_cons_of_neg (by simpa using fun z => eo z.symm)] at f1
          refine RU_lo (lo := 0) ?_ (fun z hz _ => (mem z hz).2)
          refine RU_pm (L := L) ?_ f1.symm
          exact RU_cg u (fun f _ => c1r c' f (by omega)) (fun j => by rw [ck 13 (by decide) (by decide)]) (fun j => by rw [ck 14 (by decide) (by decide)]) (fun j => by rw [ck 15 (by decide) (by decide)]) (by rw [dk 59 (by decide)]) (by rw [dk 52 (by decide)]) (by rw [dk 54 (by decide)]) (by rw [dk 56 (by decide)]) (fun j _ => by rw [dk 55 (by decide)]) (fun f _ => fds f) rfl
      · obtain ⟨hz1, hz2⟩ := mem z hz
        obtain ⟨_, w⟩ := b4 z hz1
        rw [ck 20 (by decide) (by decide), ck 19 (by decide) (by decide), dk 51 (by decide)]
        exact ⟨hz2, w⟩
      · rw [ck 20 (by decide) (by decide), ck 19 (by decide) (by decide)]
        rcases b5 i (by omega) hi2 with q | ⟨z, hz, ez⟩
        · exact Or.inl q
        · refine Or.inr ⟨z, ?_, ez⟩
          rcases List.mem_cons.mp (pm.mem_iff.mp hz) with q | q
          · rw [q, exT] at ez; omega
          · exact q
      · rw [ck 19 (by decide) (by decide), d37, d38, if_pos rfl]; exact a9
      · rw [d37]; exact wi_of (by omega) (by omega)
      · rw [d38]; exact Or.inr (wi_of (by omega) (by decide))
    · -- it misses
      have hN1 : RN T n (am_put C 9 0 11 0) (am_put (am_put (am_put D 10 0 37 (D 10 0 42)) 10 0 38 (D 62 0 b)) 10 0 47 0) := by
        obtain ⟨n1, n2, n3, n4, n5, n6, n7, n8, n9, n10, n11, n12, n13⟩ := hN
        exact ⟨n1, n2, n3, n4, n5, n6, n7, n8, n9, rfl, Or.inl rfl, n12, n13⟩
      obtain ⟨C', D', k1, k2, k3⟩ := J_brk (lo := 0) (ms := 0) (jd := 0) (T := T) (n := n) (o := x.2.2.2.2) (c := c) (L := L) (C := am_put C 9 0 11 0) (D := am_put (am_put (am_put D 10 0 37 (D 10 0 42)) 10 0 38 (D 62 0 b)) 10 0 47 0) (r := 4) hP hS hF hQ hN1 hO hH hC b1 (by omega) b2 b3 (fun y hy => (b4 y hy).2) (fun i hi hi2 => b5 i (by omega) hi2)
        (by
          show C 19 0 0 = (if D 10 0 42 = i3 T then D 62 0 b else -1)
          rw [if_pos e42, a9, z2])
        (by
          show wi (D 10 0 42) T
          rw [e42]; exact wi_of (Nat.le_refl _) (by omega))
        (by
          show D 62 0 b = -1 ∨ wi (D 62 0 b) 5
          rw [z2]; exact Or.inr (wi_of (by omega) (by decide)))
        (fun y hy q => oth1 y hy (fun e => q (by rw [e]))) a6 hc a7
      refine ⟨C', D', _, ?_, ?_, k3⟩
      · refine qX9_giveReagent_2 rng (by rw [e47]; exact miss) ?_
        rw [a8]; exact k1
      · refine fin _ (qX10_give_2_2 (n := 99700 - 100 * b) (hge b1 hbl (by omega)) (by omega) e61 miss ?_)
        rw [z5]; exact k2
