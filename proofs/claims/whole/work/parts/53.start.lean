/-! ===== a run begins ===== -/
theorem filt_all {o : Nat} : ∀ (l : List Bk), (∀ x, x ∈ l → x.2.2.2.2 = o) → l.filter (fun x => x.2.2.2.2 == o) = l
  | [], _ => rfl
  | x :: l, h => by
    have e : (x.2.2.2.2 == o) = true := by rw [h x List.mem_cons_self]; exact beq_self_eq_true o
    rw [List.filter_cons, if_pos e, filt_all l (fun y hy => h y (List.mem_cons_of_mem x hy))]
theorem filt_none {o : Nat} : ∀ (l : List Bk), (∀ x, x ∈ l → ¬ x.2.2.2.2 = o) → l.filter (fun x => x.2.2.2.2 == o) = []
  | [], _ => rfl
  | x :: l, h => by
    have e : ¬ (x.2.2.2.2 == o) = true := fun q => h x List.mem_cons_self (eq_of_beq q)
    rw [List.filter_cons, if_neg e, filt_none l (fun y hy => h y (List.mem_cons_of_mem x hy))]
theorem Rel_start {T n o c : Nat} {L L1 : List Bk} {C D C2 D2 : am_M} {v6 v7 ct : Int32} (h : Rel 1 40 40 T n L C D) (ho : o < n) (hw : D 48 0 o = 0) (hc : c < 10) (hcl : C 1 c 5 = -1) (hcw : D 59 0 c = 0)
    (h6 : v6 = -1 ∧ fd D (nt (D 46 0 o)) 1 = -1 ∨ wi v6 7 ∧ wi (fd D (nt (D 46 0 o)) 1) 5) (h7 : v7 = -1 ∧ fd D (nt (D 46 0 o)) 4 = -1 ∨ wi v7 7 ∧ wi (fd D (nt (D 46 0 o)) 4) 5)
    (hL1 : L1 = nb T D (nt (D 46 0 o)) o 0 v6 ++ nb T D (nt (D 46 0 o)) o 1 v7) (cap : ∀ p, p < 8 → rsv (L ++ L1) p ≤ nt (D 41 0 p))
    (nd : ((L ++ L1).map (fun x => x.1)).Nodup) (mem : ∀ x, x ∈ L1 → T + 1 ≤ x.1 ∧ x.1 ≤ T + 12 ∧ x.2.1 < 6 ∧ x.2.2.1 < 8 ∧ x.2.2.2.1 ≤ 2000) (memo : ∀ x, x ∈ L1 → x.2.2.2.2 = o) (hct : ct = 0 ∨ ct = 1)
    (ck : ∀ k, ¬ k = 1 → ¬ k = 4 → ¬ k = 5 → ¬ k = 14 → ¬ k = 15 → ¬ k = 19 → ¬ k = 20 → C2 k = C k)
    (c15 : C2 1 c 5 = i3 o) (c16 : C2 1 c 6 = ct) (c17 : C2 1 c 7 = 0) (c11 : C2 1 c 1 = 0) (c14 : C2 1 c 4 = 0) (c18 : C2 1 c 8 = C 1 c 8) (c19 : C2 1 c 9 = C 1 c 9) (c1 : ∀ c' f, ¬ c' = c → C2 1 c' f = C 1 c' f)
    (s0 : C2 14 c 0 = v6) (s1 : C2 14 c 1 = v7) (q0 : C2 15 c 0 = fd D (nt (D 46 0 o)) 2) (q1 : C2 15 c 1 = fd D (nt (D 46 0 o)) 5) (so : ∀ c' j, ¬ c' = c → C2 14 c' j = C 14 c' j) (qo : ∀ c' j, ¬ c' = c → C2 15 c' j = C 15 c' j)
    (p2 : ∀ p, p < 8 → C2 5 p 2 = i3 (rsv (L ++ L1) p)) (pf : ∀ p f, ¬ f = 2 → C2 5 p f = C 5 p f)
    (o43 : C2 4 o 3 = 1) (o45 : C2 4 o 5 = C 4 o 5 + 1) (o47 : C2 4 o 7 = i3 c) (o4 : ∀ f, ¬ f = 3 → ¬ f = 5 → ¬ f = 7 → C2 4 o f = C 4 o f) (o4o : ∀ o' f, ¬ o' = o → C2 4 o' f = C 4 o' f)
    (k19 : ∀ i, C2 19 0 i = putL T c L1 C 19 0 i ∧ C2 20 0 i = putL T c L1 C 20 0 i)
    (dk : ∀ k, ¬ k = 10 → ¬ k = 48 → ¬ k = 50 → ¬ k = 51 → ¬ k = 52 → ¬ k = 54 → ¬ k = 56 → ¬ k = 61 → ¬ k = 62 → ¬ k = 63 → ¬ k = 64 → ¬ k = 65 → D2 k = D k)
    (d10 : ∀ f, ¬ f = 36 → D2 10 0 f = D 10 0 f) (d36 : D2 10 0 36 = i3 (L ++ L1).length) (cl : ∀ b x, (L ++ L1)[b]? = some x → bcell D2 b x)
    (d48 : D2 48 0 o = 1) (d50 : D2 50 0 o = D 50 0 o + 1) (d51 : D2 51 0 o = i3 c) (d52 : D2 52 0 o = 0) (d54 : D2 54 0 o = ct) (d56 : D2 56 0 o = 0)
    (do48 : ∀ o', ¬ o' = o → D2 48 0 o' = D 48 0 o') (do50 : ∀ o', ¬ o' = o → D2 50 0 o' = D 50 0 o') (do51 : ∀ o', ¬ o' = o → D2 51 0 o' = D 51 0 o') (do52 : ∀ o', ¬ o' = o → D2 52 0 o' = D 52 0 o') (do54 : ∀ o', ¬ o' = o → D2 54 0 o' = D 54 0 o') (do56 : ∀ o', ¬ o' = o → D2 56 0 o' = D 56 0 o') :
    Rel 1 40 40 T n (L ++ L1) C2 D2 := by
  obtain ⟨hP, hS, hF, hQ, hN, hO, hH, hC, hB⟩ := h
  have h40 := hN.2.2.1
  have t4 := t4_of hO (o := o) (by omega)
  have hcm := hO.2.2.2.2.2.2.2.2.2 o ho (by rw [hw]; decide)
  have e51 : D 51 0 o = -1 := hO.2.2.2.2.2.2.2.1 o ho (by rw [hw]; decide)
  have ck' : ∀ k, ¬ (k = 1 ∨ k = 4 ∨ k = 5 ∨ k = 14 ∨ k = 15 ∨ k = 19 ∨ k = 20) → C2 k = C k := fun k q => ck k (fun e => q (by omega)) (fun e => q (by omega)) (fun e => q (by omega)) (fun e => q (by omega)) (fun e => q (by omega)) (fun e => q (by omega)) (fun e => q (by omega))
  have dk' : ∀ k, ¬ (k = 10 ∨ k = 48 ∨ k = 50 ∨ k = 51 ∨ k = 52 ∨ k = 54 ∨ k = 56 ∨ k = 61 ∨ k = 62 ∨ k = 63 ∨ k = 64 ∨ k = 65) → D2 k = D k := fun k q => dk k (fun e => q (by omega)) (fun e => q (by omega)) (fun e => q (by omega)) (fun e => q (by omega)) (fun e => q (by omega)) (fun e => q (by omega)) (fun e => q (by omega)) (fun e => q (by omega)) (fun e => q (by omega)) (fun e => q (by omega)) (fun e => q (by omega)) (fun e => q (by omega))
  have cl1 : ∀ (l : List Nat), (∀ k, k ∈ l → ¬ (k = 1 ∨ k = 4 ∨ k = 5 ∨ k = 14 ∨ k = 15 ∨ k = 19 ∨ k = 20)) → ∀ k, k ∈ l → C2 k = C k := fun l q k hk => ck' k (q k hk)
  have dl1 : ∀ (l : List Nat), (∀ k, k ∈ l → ¬ (k = 10 ∨ k = 48 ∨ k = 50 ∨ k = 51 ∨ k = 52 ∨ k = 54 ∨ k = 56 ∨ k = 61 ∨ k = 62 ∨ k = 63 ∨ k = 64 ∨ k = 65)) → ∀ k, k ∈ l → D2 k = D k := fun l q k hk => dk' k (q k hk)
  clear ck dk
  have noL : ∀ x, x ∈ L → ¬ x.2.2.2.2 = o := by
    intro x hx e
    obtain ⟨c', hc', q, _⟩ := (hB.2.2.2.1 x hx).2.2.2.2.2.2
    rw [e, e51] at q
    exact i3_nm (by omega) q.symm
  refine ⟨RP_cg hP (cl1 _ (by decide)) (dl1 _ (by decide)), RS_cg hS (ck' 8 (by decide)) (dl1 _ (by decide)), RF_cg hF (ck' 21 (by decide)) (dk' 43 (by decide)), ?_, RN_cg hN (ck' 9 (by decide)) d10, ?_, ?_, ?_, ?_⟩
  · intro p hp
    rw [pf p 0 (by decide), pf p 1 (by decide), pf p 3 (by decide), p2 p hp, dk' 40 (by decide), dk' 41 (by decide), dk' 42 (by decide)]
    obtain ⟨a1, a2, a3, a4, a5, _, _⟩ := hQ p hp
    exact ⟨a1, a2, a3, a4, a5, rfl, cap p hp⟩
  · obtain ⟨o1, o2, o3, o4', o5, o6, o7, o8, o9, o10⟩ := hO
    have fdE : ∀ t, cmpl D t → cmpl D2 t := fun t q => cmpl_cg q (fun f _ => by unfold fd; rw [dk' 30 (by decide)]) (by rw [dk' 34 (by decide)])
    have n50 := o5 o (by omega) hw
    have w50 := (o2 o (by omega)).2.2.2.1
    have e50 : D2 50 0 o = i3 (nt (D 50 0 o) + 1) := by
      have q : D 50 0 o + 1 = i3 (nt (D 50 0 o)) + 1 := congrArg (fun z => z + 1) w50.1
      rw [d50, q, i3_one]
    have n50' : nt (D2 50 0 o) = nt (D 50 0 o) + 1 := by rw [e50]; exact nt_i (by omega)
    refine ⟨fun o' h => ?_, fun o' h => ?_, fun o' h h2 => ?_, fun o' h => ?_, fun o' h => ?_, fun o' h => ?_, fun o' h => ?_, fun o' h => ?_, fun o' h => ?_, fun o' h => ?_⟩
    · rw [dk' 45 (by decide), dk' 46 (by decide), dk' 47 (by decide), dk' 49 (by decide), dk' 53 (by decide), dk' 57 (by decide), dk' 58 (by decide)]
      by_cases e : o' = o
      · subst e
        obtain ⟨r0, r1, r2, r3, r4, r5, r6, r8, r9⟩ := o1 o' h
        rw [o4 0 (by decide) (by decide) (by decide), o4 1 (by decide) (by decide) (by decide), o4 2 (by decide) (by decide) (by decide), o4 4 (by decide) (by decide) (by decide), o4 6 (by decide) (by decide) (by decide), o4 8 (by decide) (by decide) (by decide), o4 9 (by decide) (by decide) (by decide), o43, o45, d48, d50, r5]
        exact ⟨r0, r1, r2, rfl, r4, rfl, r6, r8, r9⟩
      · rw [o4o _ _ e, o4o _ _ e, o4o _ _ e, o4o _ _ e, o4o _ _ e, o4o _ _ e, o4o _ _ e, o4o _ _ e, o4o _ _ e, do48 _ e, do50 _ e]
        exact o1 o' h
    · rw [dk' 46 (by decide), dk' 47 (by decide), dk' 53 (by decide)]
      by_cases e : o' = o
      · subst e; rw [d48, e50]
        have q := o2 o' h
        exact ⟨q.1, q.2.1, wi_of (k := 1) (by decide) (by decide), wi_of (by omega) (by decide), q.2.2.2.2⟩
      · rw [do48 _ e, do50 _ e]; exact o2 o' h
    · have e : ¬ o' = o := by omega
      rw [do48 _ e, o4o _ _ e, do50 _ e]; exact o3 o' h h2
    · rw [dk' 53 (by decide)]
      by_cases e : o' = o
      · subst e; intro q
        rw [q] at n50'
        have : nt 0 = 0 := nt_0
        omega
      · rw [do50 _ e]; exact o4' o' h
    · by_cases e : o' = o
      · subst e; rw [d48]; exact fun q => absurd q (by decide)
      · rw [do48 _ e, do50 _ e]; exact o5 o' h
    · rw [dk' 53 (by decide)]
      by_cases e : o' = o
      · subst e
        refine fun _ => ⟨by omega, fun q => o4' o' h ?_⟩
        have z : nt (1 : Int32) = 1 := nt_i (n := 1) (by decide)
        rw [q, z] at n50'
        rw [w50.1, show nt (D 50 0 o') = 0 by omega]; rfl
      · rw [do48 _ e, do50 _ e]; exact o6 o' h
    · rw [dk' 45 (by decide)]
      by_cases e : o' = o
      · subst e; rw [o47, d51]; exact ⟨rfl, (o7 o' h).2⟩
      · rw [o4o _ _ e, do51 _ e]; exact o7 o' h
    · by_cases e : o' = o
      · subst e; rw [d48]; exact fun q => absurd rfl q
      · rw [do48 _ e, do51 _ e]; exact o8 o' h
    · by_cases e : o' = o
      · subst e; rw [d51]; exact fun _ => wi_of (by omega) (by decide)
      · rw [do48 _ e, do51 _ e]; exact o9 o' h
    · rw [dk' 46 (by decide)]
      by_cases e : o' = o
      · subst e; exact fun _ => fdE _ hcm
      · rw [do48 _ e]; exact fun q => fdE _ (o10 o' h q)
  · obtain ⟨e1, e2, e3⟩ := hH
    refine ⟨by rw [ck' 3 (by decide), d10 40 (by decide)]; exact e1, ?_, by rw [ck' 17 (by decide), dk' 69 (by decide)]; exact e3⟩
    rw [d10 40 (by decide), rel_cg (d := D 48 0) 40]
    · exact e2
    · intro i _
      by_cases e : i = o
      · rw [e, d48, hw]; exact ⟨fun q => absurd q (by decide), fun q => absurd q (by decide)⟩
      · rw [do48 _ e]
  · obtain ⟨r1, r2, r3⟩ := hC
    refine ⟨fun c' h' => ?_, fun c' h' => ?_, fun o' c' ho' hc' e => ?_⟩
    · rw [dk' 59 (by decide), dk' 60 (by decide)]
      by_cases e : c' = c
      · subst e; rw [c18, c19]; exact r1 c' h'
      · rw [c1 _ _ e, c1 _ _ e]; exact r1 c' h'
    · by_cases e : c' = c
      · subst e; exact Or.inr ⟨o, ho, c15, d51⟩
      · rw [c1 _ _ e]
        rcases r2 c' h' with z | ⟨o', z1, z2, z3⟩
        · exact Or.inl z
        · have ne : ¬ o' = o := fun q => by rw [q, e51] at z3; exact i3_nm (by omega) z3.symm
          exact Or.inr ⟨o', z1, z2, by rw [do51 _ ne]; exact z3⟩
    · rw [dk' 46 (by decide)]
      by_cases eo : o' = o
      · subst eo
        rw [d51] at e
        have ec : c' = c := ((i3_inj (by omega) (by omega)).1 e).symm
        subst ec
        have fdE : ∀ f, fd D2 (nt (D 46 0 o')) f = fd D (nt (D 46 0 o')) f := fun f => by unfold fd; rw [dk' 30 (by decide)]
        generalize nt (D 46 0 o') = t at hcm t4 h6 h7 hL1 q0 q1 fdE ⊢
        have z52 : nt (D2 52 0 o') = 0 := by rw [d52]; exact nt_0
        have z14 : nt (C2 1 c' 4) = 0 := by rw [c14]; exact nt_0
        have pn : ∀ w, w < 2 → ∀ v, C2 14 c' w = v → C2 15 c' w = fd D t (2 + 3 * w) → pnd1 T C2 D2 c' o' t w = nb T D t o' w v := by
          intro w hw v e14 e15
          unfold pnd1 nb
          rw [e14, e15, z14, z52, fdE, fdE, Nat.sub_zero]
          by_cases e : v = -1
          · rw [if_neg (fun q => q.2 e), if_pos e]
          · rw [if_pos ⟨Nat.zero_le w, e⟩, if_neg e]
        refine ⟨c15, by rw [dk' 59 (by decide)]; exact hcw, by rw [c17, d52], by rw [z52, d52]; rfl, by omega, fun _ => by omega, by rw [c16, d54], by rw [d54]; exact hct, by rw [c11, d56], ?_, fun j hj => ?_, by rw [c14]; exact wi_of (k := 0) (by decide) (by decide), fun w hw => ?_, fun w hw hg hs => ?_, ?_⟩
        · rw [d56, if_pos (by omega), z52, fdE, fdE]
          have := hcm.2.2.2.1
          rw [Nat.zero_min, show 0 + 1 - nt (fd D t 7) = 0 by omega]; rfl
        · rw [d56, nt_0] at hj; exact absurd hj (Nat.not_lt_zero j)
        · rw [fdE, fdE]
          by_cases w0 : w = 0
          · subst w0; rw [s0, q0]; exact ⟨h6, rfl⟩
          · have w1 : w = 1 := by omega
            subst w1; rw [s1, q1]; exact ⟨h7, rfl⟩
        · rw [z52, fdE]
          by_cases w0 : w = 0
          · subst w0
            rw [s0] at hs
            have k := (h6.resolve_left (fun q => hs q.1)).2
            have := (hcm.2.1 (by rw [k.1]; exact i3_nm (nt_lt _))).1
            show 0 + 1 ≤ nt (fd D t 3); omega
          · have w1 : w = 1 := by omega
            subst w1
            rw [s1] at hs
            have k := (h7.resolve_left (fun q => hs q.1)).2
            have := (hcm.2.2.1 (by rw [k.1]; exact i3_nm (nt_lt _))).1
            show 0 + 1 ≤ nt (fd D t 6); omega
        · rw [List.filter_append, filt_none L noL, filt_all L1 memo, List.nil_append, pn 0 (by decide) v6 s0 q0, pn 1 (by decide) v7 s1 q1, ← hL1]
      · rw [do51 _ eo] at e
        have ru := r3 o' c' ho' hc' e
        have ec : ¬ c' = c := fun q => by
          rw [q] at ru
          have := ru.1
          rw [hcl] at this
          exact i3_nm (by omega) this.symm
        refine RU_cg ru (fun f _ => c1 _ _ ec) (fun j => by rw [ck' 13 (by decide)]) (fun j => so _ _ ec) (fun j => qo _ _ ec) (by rw [dk' 59 (by decide)]) (do52 _ eo) (do54 _ eo) (do56 _ eo) (fun j _ => by rw [dk' 55 (by decide)]) (fun f _ => by unfold fd; rw [dk' 30 (by decide)]) ?_
        rw [List.filter_append, filt_none L1 (fun x hx q => eo (by rw [← q, memo x hx])), List.append_nil]
  · obtain ⟨_, b2, _, b4, b5, b6, b7, b8⟩ := hB
    have hT1 : ∀ x, x ∈ L1 → T ≤ x.1 := fun x hx => by have := (mem x hx).1; omega
    rw [List.map_append, List.nodup_append] at nd
    have dis : ∀ x y, x ∈ L → y ∈ L1 → ¬ x.1 = y.1 := fun x y hx hy => nd.2.2 x.1 (List.mem_map.2 ⟨x, hx, rfl⟩) y.1 (List.mem_map.2 ⟨y, hy, rfl⟩)
    refine ⟨d36, by rw [List.map_append, List.nodup_append]; exact nd, cl, fun x hx => ?_, fun i hi1 hi2 => ?_, fun _ => ?_, by rw [d10 37 (by decide)]; exact b7, by rw [d10 38 (by decide)]; exact b8⟩
    · rw [(k19 _).1, (k19 _).2]
      rcases List.mem_append.1 hx with q | q
      · have po := putL_o T c L1 C (x.1 - T) (fun y hy e => by
          have := (b4 x q).1
          have := (mem y hy).1
          exact dis x y q hy (by omega))
        rw [po.1, po.2, do51 _ (noL x q)]
        exact b4 x q
      · have ph := putL_h T c L1 C nd.2.1 hT1 x q
        obtain ⟨m1, m2, m3, m4, m5⟩ := mem x q
        refine ⟨m1, m2, m3, m4, m5, by rw [memo x q]; exact ho, c, hc, by rw [memo x q]; exact d51, ph.2, ph.1⟩
    · rw [(k19 _).1, (k19 _).2]
      by_cases hit : ∃ x, x ∈ L1 ∧ x.1 = T + i
      · obtain ⟨x, hx, e⟩ := hit
        exact Or.inr ⟨x, List.mem_append.2 (Or.inr hx), e⟩
      · have po := putL_o T c L1 C i (fun x hx e => hit ⟨x, hx, by have := (mem x hx).1; omega⟩)
        rw [po.1, po.2]
        rcases b5 i hi1 hi2 with q | ⟨x, hx, e⟩
        · exact Or.inl q
        · exact Or.inr ⟨x, List.mem_append.2 (Or.inl hx), e⟩
    · rw [(k19 _).1, (putL_o T c L1 C 0 (fun x hx e => by have := (mem x hx).1; omega)).1, d10 37 (by decide), d10 38 (by decide)]
      exact b6 rfl
