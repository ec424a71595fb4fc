/-! ===== a run breaks off, side by side ===== -/
theorem sX10_leave {L : List Bk} {D : am_M} {o c : Nat} (ho : o < 40) (hc : c < 10) (e51 : D 51 0 o = i3 c) (hb : D 10 0 36 = i3 L.length) (hl : L.length ≤ 24) (hcell : ∀ b x, L[b]? = some x → bcell D b x) (hr : ∀ x, x ∈ L → x.2.2.2.2 < 40) : ∃ D', fX10_leave [.inr (10, 0), .inl (.int (i3 o))] D = am_rV D' ∧ (∀ b x, (oth o L)[b]? = some x → bcell D' b x) ∧ D' 10 0 36 = i3 (oth o L).length ∧ (∀ k, ¬ k = 10 → ¬ k = 51 → ¬ k = 59 → ¬ k = 60 → ¬ k = 61 → ¬ k = 62 → ¬ k = 63 → ¬ k = 64 → ¬ k = 65 → D' k = D k) ∧ (∀ f, ¬ f = 36 → D' 10 0 f = D 10 0 f) ∧ D' 59 0 c = 3 ∧ D' 60 0 c = 0 ∧ (∀ c', ¬ c' = c → D' 59 0 c' = D 59 0 c') ∧ (∀ c', ¬ c' = c → D' 60 0 c' = D 60 0 c') ∧ D' 51 0 o = -1 ∧ (∀ o', ¬ o' = o → D' 51 0 o' = D 51 0 o') := by
  obtain ⟨D', q1, q2, q3, q4, q5⟩ := sX10_cancel (L := L) (D := am_put (am_put (am_put D 59 0 c 3) 60 0 c 0) 51 0 o (-1)) ho hb hl hcell hr
  have r : ∀ k, ¬ k = 10 → ¬ k = 61 → ¬ k = 62 → ¬ k = 63 → ¬ k = 64 → ¬ k = 65 → D' k = am_put (am_put (am_put D 59 0 c 3) 60 0 c 0) 51 0 o (-1) k := q4
  refine ⟨D', qX10_leave_0 ho rfl hc e51 q1, q2, q3, fun k a0 a1 a2 a3 a4 a5 a6 a7 a8 => ?_, fun f hf => ?_, ?_, ?_, fun c' hc' => ?_, fun c' hc' => ?_, ?_, fun o' ho' => ?_⟩
  · rw [r k a0 a4 a5 a6 a7 a8]; funext u v
    rw [put_ne (fun e => a1 e.1), put_ne (fun e => a3 e.1), put_ne (fun e => a2 e.1)]
  · rw [q5 f hf]; rfl
  · rw [r 59 (by decide) (by decide) (by decide) (by decide) (by decide) (by decide)]
    show am_put D 59 0 c 3 59 0 c = 3
    rw [put_eq ⟨rfl, rfl, rfl⟩]
  · rw [r 60 (by decide) (by decide) (by decide) (by decide) (by decide) (by decide)]
    show am_put (am_put D 59 0 c 3) 60 0 c 0 60 0 c = 0
    rw [put_eq ⟨rfl, rfl, rfl⟩]
  · rw [r 59 (by decide) (by decide) (by decide) (by decide) (by decide) (by decide)]
    show am_put D 59 0 c 3 59 0 c' = _
    rw [put_ne (fun e => hc' e.2.2)]
  · rw [r 60 (by decide) (by decide) (by decide) (by decide) (by decide) (by decide)]
    show am_put (am_put D 59 0 c 3) 60 0 c 0 60 0 c' = _
    rw [put_ne (fun e => hc' e.2.2)]; rfl
  · rw [r 51 (by decide) (by decide) (by decide) (by decide) (by decide) (by decide), put_eq ⟨rfl, rfl, rfl⟩]
  · rw [r 51 (by decide) (by decide) (by decide) (by decide) (by decide) (by decide), put_ne (fun e => ho' e.2.2)]; rfl
theorem J_brk {lo ms jd T n o c : Nat} {L : List Bk} {C D : am_M} {r : Int32} (hP : RP C D) (hS : RS C D) (hF : RF C D) (hQ : RQ L C D) (hN : RN T n C D) (hO : RO n C D) (hH : RH C D) (hC : RC lo ms jd T n L C D)
    (b1 : D 10 0 36 = i3 L.length) (bl : L.length ≤ 24) (b2 : (L.map (fun x => x.1)).Nodup) (b3 : ∀ b x, L[b]? = some x → bcell D b x)
    (b4 : ∀ x, x ∈ L → x.1 ≤ T + 12 ∧ x.2.1 < 6 ∧ x.2.2.1 < 8 ∧ x.2.2.2.1 ≤ 2000 ∧ x.2.2.2.2 < n ∧ ∃ c, c < 10 ∧ D 51 0 x.2.2.2.2 = i3 c ∧ C 20 0 (x.1 - T) = i3 c ∧ C 19 0 (x.1 - T) = i3 x.2.1)
    (b5 : ∀ i, 1 ≤ i → i < 13 → (C 19 0 i = -1 ∧ C 20 0 i = -1) ∨ ∃ x, x ∈ L ∧ x.1 = T + i)
    (b6 : C 19 0 0 = (if D 10 0 37 = i3 T then D 10 0 38 else -1)) (b7 : wi (D 10 0 37) T) (b8 : D 10 0 38 = -1 ∨ wi (D 10 0 38) 5)
    (hlo : ∀ x, x ∈ L → ¬ x.2.2.2.2 = o → T + 1 ≤ x.1) (ho : o < n) (hc : c < 10) (e51 : D 51 0 o = i3 c) :
    ∃ C' D', fX9_breakOff [.inr (9, 0), .inl (.int (i3 c)), .inl (.int r)] C = am_rV C' ∧ fX10_breaksOff [.inr (10, 0), .inl (.int (i3 o)), .inl (.int r)] D = am_rV D' ∧ Rel 1 ms jd T n (oth o L) C' D' := by
  have h40 := hN.2.2.1
  have o40 : o < 40 := by omega
  have hu := hC.2.2 o c ho hc e51
  have t4 := t4_of hO o40
  have run := c_run hO ho hc e51
  have ds : ∀ w, w < 2 → wi (C 15 c w) 2000 := fun w hw => by
    rw [(hu.2.2.2.2.2.2.2.2.2.2.2.2.1 w hw).2]
    rcases Nat.lt_or_ge w 1 with l | l
    · rw [show w = 0 by omega]; exact RP_wi hP t4 (f := 2) (m := 2000) (by decide) rfl rfl (by decide)
    · rw [show w = 1 by omega]; exact RP_wi hP t4 (f := 5) (m := 2000) (by decide) rfl rfl (by decide)
  obtain ⟨C', k0, k1, k2, k3, k4, k5, k6, k7, k8, k9, k10, k11, k12⟩ := sX9_breakOff (x2 := r) hu hc ho h40 hN.1 (ds 0 (by decide)) (ds 1 (by decide)) (fun p hp => (hQ p hp).2.2.2.2.2.1)
  obtain ⟨D1, l0, l1, l2, l3, l4, l5, l6, l7, l8, l9, l10⟩ := sX10_leave o40 hc e51 b1 bl b3 (fun x hx => by have := (b4 x hx).2.2.2.2.1; omega)
  have e50 : C 4 o 5 = D 50 0 o := (hO.1 o o40).2.2.2.2.2.1
  have d50 : D1 50 0 o = D 50 0 o := by rw [l3 50 (by decide) (by decide) (by decide) (by decide) (by decide) (by decide) (by decide) (by decide) (by decide)]
  have dd : ∃ D', fX10_breaksOff [.inr (10, 0), .inl (.int (i3 o)), .inl (.int r)] D = am_rV D' ∧ (∀ k, ¬ k = 48 → ¬ k = 49 → D' k = D1 k) ∧ (∀ o', ¬ o' = o → D' 48 0 o' = D 48 0 o') ∧ (∀ o', ¬ o' = o → D' 49 0 o' = D 49 0 o') ∧ (C 4 o 5 = 1 → D' 48 0 o = 0 ∧ D' 49 0 o = D 49 0 o) ∧ (¬ C 4 o 5 = 1 → D' 48 0 o = 3 ∧ D' 49 0 o = r) := by
    have e48 : D1 48 = D 48 := l3 48 (by decide) (by decide) (by decide) (by decide) (by decide) (by decide) (by decide) (by decide) (by decide)
    have e49 : D1 49 = D 49 := l3 49 (by decide) (by decide) (by decide) (by decide) (by decide) (by decide) (by decide) (by decide) (by decide)
    by_cases e : C 4 o 5 = 1
    · refine ⟨_, qX10_breaksOff_0 l0 o40 rfl (by rw [d50, ← e50]; exact e), fun k a _ => ?_, fun o' q => ?_, fun o' q => ?_, fun _ => ⟨?_, ?_⟩, fun q => absurd e q⟩
      · funext u v; rw [put_ne (fun e => a e.1)]
      · rw [put_ne (fun e => q e.2.2), e48]
      · show D1 49 0 o' = _
        rw [e49]
      · rw [put_eq ⟨rfl, rfl, rfl⟩]
      · show D1 49 0 o = _
        rw [e49]
    · refine ⟨_, qX10_breaksOff_1 l0 o40 rfl (by rw [d50, ← e50]; exact e) (qX10_fail_0 o40 rfl), fun k a b => ?_, fun o' q => ?_, fun o' q => ?_, fun q => absurd q e, fun _ => ⟨?_, ?_⟩⟩
      · funext u v; rw [put_ne (fun e => b e.1), put_ne (fun e => a e.1)]
      · show am_put D1 48 0 o 3 48 0 o' = _
        rw [put_ne (fun e => q e.2.2), e48]
      · rw [put_ne (fun e => q e.2.2)]
        show D1 49 0 o' = _
        rw [e49]
      · show am_put D1 48 0 o 3 48 0 o = _
        rw [put_eq ⟨rfl, rfl, rfl⟩]
      · rw [put_eq ⟨rfl, rfl, rfl⟩]
  obtain ⟨D', m0, m1, m2, m3, m4, m5⟩ := dd
  have dk : ∀ k, ¬ k = 10 → ¬ k = 48 → ¬ k = 49 → ¬ k = 51 → ¬ k = 59 → ¬ k = 60 → ¬ k = 61 → ¬ k = 62 → ¬ k = 63 → ¬ k = 64 → ¬ k = 65 → D' k = D k := fun k a0 a1 a2 a3 a4 a5 a6 a7 a8 a9 a10 => (m1 k a1 a2).trans (l3 k a0 a3 a4 a5 a6 a7 a8 a9 a10)
  have dk2 : ∀ k, k ∈ [30, 31, 32, 33, 34, 35, 36, 37, 38, 39, 40, 41, 42, 43, 45, 46, 47, 50, 52, 53, 54, 55, 56, 57, 58, 69] → D' k = D k := fun k hk => by
    have := (by decide : ∀ k, k ∈ [30, 31, 32, 33, 34, 35, 36, 37, 38, 39, 40, 41, 42, 43, 45, 46, 47, 50, 52, 53, 54, 55, 56, 57, 58, 69] → ¬ k = 10 ∧ ¬ k = 48 ∧ ¬ k = 49 ∧ ¬ k = 51 ∧ ¬ k = 59 ∧ ¬ k = 60 ∧ ¬ k = 61 ∧ ¬ k = 62 ∧ ¬ k = 63 ∧ ¬ k = 64 ∧ ¬ k = 65) k hk
    obtain ⟨a0, a1, a2, a3, a4, a5, a6, a7, a8, a9, a10⟩ := this
    exact dk k a0 a1 a2 a3 a4 a5 a6 a7 a8 a9 a10
  have d10 : ∀ f, ¬ f = 36 → D' 10 0 f = D 10 0 f := fun f hf => by rw [m1 10 (by decide) (by decide)]; exact l4 f hf
  have d51 : D' 51 = D1 51 := m1 51 (by decide) (by decide)
  have d59 : D' 59 = D1 59 := m1 59 (by decide) (by decide)
  have d60 : D' 60 = D1 60 := m1 60 (by decide) (by decide)
  have ck : ∀ k, k ∈ [0, 2, 3, 6, 8, 9, 11, 12, 13, 14, 15, 16, 17, 18, 21] → C' k = C k := fun k hk => by
    have := (by decide : ∀ k, k ∈ [0, 2, 3, 6, 8, 9, 11, 12, 13, 14, 15, 16, 17, 18, 21] → ¬ k = 1 ∧ ¬ k = 4 ∧ ¬ k = 5 ∧ ¬ k = 19 ∧ ¬ k = 20) k hk
    exact k1 k this.1 this.2.1 this.2.2.1 this.2.2.2.1 this.2.2.2.2
  have cun : ∀ o' c', o' < n → c' < 10 → ¬ o' = o → D 51 0 o' = i3 c' → ¬ c' = c := fun o' c' ho' hc' q e1 e2 => by
    rw [e2] at e1
    have a := (hC.2.2 o' c ho' hc e1).1
    rw [hu.1] at a
    exact q ((i3_inj (by omega) (by omega)).mp a.symm)
  refine ⟨C', D', k0, m0, ?_, ?_, ?_, ?_, ?_, ?_, ?_, ?_, ?_⟩
  · exact RP_cg hP (fun k hk => ck k ((by decide : ∀ k, k ∈ [18, 6, 0, 11, 12, 2, 16] → k ∈ [0, 2, 3, 6, 8, 9, 11, 12, 13, 14, 15, 16, 17, 18, 21]) k hk)) (fun k hk => dk2 k ((by decide : ∀ k, k ∈ [30, 31, 32, 33, 34, 35, 36] → k ∈ [30, 31, 32, 33, 34, 35, 36, 37, 38, 39, 40, 41, 42, 43, 45, 46, 47, 50, 52, 53, 54, 55, 56, 57, 58, 69]) k hk))
  · exact RS_cg hS (ck 8 (by decide)) (fun k hk => dk2 k ((by decide : ∀ k, k ∈ [37, 38, 39] → k ∈ [30, 31, 32, 33, 34, 35, 36, 37, 38, 39, 40, 41, 42, 43, 45, 46, 47, 50, 52, 53, 54, 55, 56, 57, 58, 69]) k hk))
  · exact RF_cg hF (ck 21 (by decide)) (dk2 43 (by decide))
  · intro p hp
    obtain ⟨q1, q2, q3, q4, q5, q6, q7⟩ := hQ p hp
    rw [k2 p 0 (by decide), k2 p 1 (by decide), k2 p 3 (by decide), k3 p hp, dk2 40 (by decide), dk2 41 (by decide), dk2 42 (by decide)]
    exact ⟨q1, q2, q3, q4, q5, rfl, Nat.le_trans (by rw [rsv_split p o L]; exact Nat.le_add_left _ _) q7⟩
  · unfold RN
    rw [ck 9 (by decide), d10 14 (by decide), d10 41 (by decide), d10 44 (by decide), d10 46 (by decide), d10 47 (by decide), d10 43 (by decide), d10 42 (by decide)]
    exact hN
  · obtain ⟨o1, o2, o3, o4, o5, o6, o7, o8, o9, o10⟩ := hO
    have run1 := o6 o o40 run
    refine ⟨fun o' h' => ?_, fun o' h' => ?_, fun o' h' hn' => ?_, ?_, fun o' h' hs => ?_, fun o' h' hs => ?_, fun o' h' => ?_, fun o' h' hs => ?_, fun o' h' hs => ?_, fun o' h' hs => ?_⟩
    · rw [dk2 45 (by decide), dk2 46 (by decide), dk2 47 (by decide), dk2 50 (by decide), dk2 53 (by decide), dk2 57 (by decide), dk2 58 (by decide)]
      by_cases e : o' = o
      · subst e
        obtain ⟨p0, p1, p2, p3, p4, p5, p6, p8, p9⟩ := o1 o' o40
        by_cases q : C 4 o' 5 = 1
        · have K := k11 q
          rw [K 0, K 1, K 2, K 3, K 4, K 5, K 6, K 8, K 9, (m4 q).1, (m4 q).2]
          exact ⟨p0, p1, p2, rfl, p4, p5, (run1.2 (e50.symm.trans q)).symm, p8, p9⟩
        · have K := k12 q
          rw [K 0, K 1, K 2, K 3, K 4, K 5, K 6, K 8, K 9, (m5 q).1, (m5 q).2]
          exact ⟨p0, p1, p2, rfl, rfl, p5, p6, p8, p9⟩
      · rw [k10 o' 0 e, k10 o' 1 e, k10 o' 2 e, k10 o' 3 e, k10 o' 4 e, k10 o' 5 e, k10 o' 6 e, k10 o' 8 e, k10 o' 9 e, m2 o' e, m3 o' e]
        exact o1 o' h'
    · rw [dk2 46 (by decide), dk2 47 (by decide), dk2 50 (by decide), dk2 53 (by decide)]
      by_cases e : o' = o
      · subst e
        obtain ⟨p0, p1, _, p3, p4⟩ := o2 o' o40
        refine ⟨p0, p1, ?_, p3, p4⟩
        by_cases q : C 4 o' 5 = 1
        · rw [(m4 q).1]; exact wi_of (k := 0) (by decide) (by decide)
        · rw [(m5 q).1]; exact wi_of (k := 3) (by decide) (by decide)
      · rw [m2 o' e]; exact o2 o' h'
    · have e : ¬ o' = o := by omega
      rw [dk2 50 (by decide), m2 o' e, k10 o' 7 e]; exact o3 o' h' hn'
    · rw [dk2 50 (by decide), dk2 53 (by decide)]; exact o4
    · rw [dk2 50 (by decide)]
      by_cases e : o' = o
      · subst e
        by_cases q : C 4 o' 5 = 1
        · rw [← e50, q]; decide
        · rw [(m5 q).1] at hs; exact absurd hs (by decide)
      · rw [m2 o' e] at hs; exact o5 o' h' hs
    · rw [dk2 50 (by decide), dk2 53 (by decide)]
      by_cases e : o' = o
      · subst e
        by_cases q : C 4 o' 5 = 1
        · rw [(m4 q).1] at hs; exact absurd hs (by decide)
        · rw [(m5 q).1] at hs; exact absurd hs (by decide)
      · rw [m2 o' e] at hs; exact o6 o' h' hs
    · rw [dk2 45 (by decide), d51]
      by_cases e : o' = o
      · subst e
        refine ⟨?_, (o7 o' h').2⟩
        rw [l9]
        by_cases q : C 4 o' 5 = 1
        · rw [k11 q 7]; rfl
        · rw [k12 q 7]; rfl
      · rw [k10 o' 7 e, l10 o' e]; exact o7 o' h'
    · rw [d51]
      by_cases e : o' = o
      · subst e; exact l9
      · rw [m2 o' e] at hs
        rw [l10 o' e]; exact o8 o' h' hs
    · rw [d51]
      by_cases e : o' = o
      · subst e
        by_cases q : C 4 o' 5 = 1
        · rw [(m4 q).1] at hs; exact absurd hs (by decide)
        · rw [(m5 q).1] at hs; exact absurd hs (by decide)
      · rw [m2 o' e] at hs
        rw [l10 o' e]; exact o9 o' h' hs
    · rw [dk2 46 (by decide)]
      have old : cmpl D (nt (D 46 0 o')) := by
        by_cases e : o' = o
        · subst e; exact o10 o' h' (by rw [run]; decide)
        · rw [m2 o' e] at hs; exact o10 o' h' hs
      exact cmpl_cg old (fun f _ => by unfold fd; rw [dk2 30 (by decide)]) (by rw [dk2 34 (by decide)])
  · obtain ⟨h1, h2, h3⟩ := hH
    refine ⟨?_, ?_, ?_⟩
    · rw [ck 3 (by decide), d10 40 (by decide)]; exact h1
    · have e : rel (D' 48 0) 40 = rel (D 48 0) 40 := rel_cg 40 (fun i _ => by
        by_cases e : i = o
        · subst e
          have nr : ¬ D 48 0 i = 2 := by rw [run]; decide
          by_cases q : C 4 i 5 = 1
          · rw [(m4 q).1]; exact ⟨fun z => absurd z (by decide), fun z => absurd z nr⟩
          · rw [(m5 q).1]; exact ⟨fun z => absurd z (by decide), fun z => absurd z nr⟩
        · rw [m2 i e])
      rw [e, d10 40 (by decide)]; exact h2
    · rw [ck 17 (by decide), dk2 69 (by decide)]; exact h3
  · refine RC_leave hC ho hc h40 e51 k6 k7 k8 k9 (by rw [d59]; exact l5) (by rw [d60]; exact l6) (fun c' q => by rw [d59]; exact l7 c' q) (fun c' q => by rw [d60]; exact l8 c' q) (by rw [d51]; exact l9) (fun o' q => by rw [d51]; exact l10 o' q) (dk2 46 (by decide)) ?_
    intro o' c' ho' hc' eo ec q u
    have u1 := RU_lo u (fun x hx e => hlo x hx (by rw [e]; exact eo))
    refine RU_cg u1 (fun f _ => k9 c' f ec) (fun j => by rw [ck 13 (by decide)]) (fun j => by rw [ck 14 (by decide)]) (fun j => by rw [ck 15 (by decide)]) (by rw [d59]; exact l7 c' ec) (by rw [dk2 52 (by decide)]) (by rw [dk2 54 (by decide)]) (by rw [dk2 56 (by decide)]) (fun j _ => by rw [dk2 55 (by decide)]) (fun f _ => by unfold fd; rw [dk2 30 (by decide)]) (oth_other eo L)
  · refine ⟨?_, ?_, ?_, fun x hx => ?_, fun i hi hi2 => ?_, fun _ => ?_, ?_, ?_⟩
    · rw [m1 10 (by decide) (by decide)]; exact l2
    · exact List.Nodup.sublist (List.Sublist.map _ List.filter_sublist) b2
    · intro b x hx
      have := l1 b x hx
      unfold bcell at this
      rw [m1 61 (by decide) (by decide), m1 62 (by decide) (by decide), m1 63 (by decide) (by decide), m1 64 (by decide) (by decide), m1 65 (by decide) (by decide)]
      exact this
    · obtain ⟨hx1, hx2⟩ := oth_mem.mp hx
      obtain ⟨a2, a3, a4, a5, a6, c', hc', a7, a8, a9⟩ := b4 x hx1
      have ec := cun _ c' a6 hc' hx2 a7
      have ni : ¬ (1 ≤ x.1 - T ∧ x.1 - T < 13 ∧ C 20 0 (x.1 - T) = i3 c) := fun q => by
        have := q.2.2
        rw [a8] at this
        exact ec ((i3_inj (by omega) (by omega)).mp this)
      refine ⟨hlo x hx1 hx2, a2, a3, a4, a5, a6, c', hc', ?_, ?_, ?_⟩
      · rw [d51, l10 _ hx2]; exact a7
      · rw [k5, if_neg ni]; exact a8
      · rw [k4, if_neg ni]; exact a9
    · rw [k4, k5]
      by_cases q : 1 ≤ i ∧ i < 13 ∧ C 20 0 i = i3 c
      · rw [if_pos q, if_pos q]; exact Or.inl ⟨rfl, rfl⟩
      · rw [if_neg q, if_neg q]
        rcases b5 i hi hi2 with z | ⟨x, hx, ex⟩
        · exact Or.inl z
        · refine Or.inr ⟨x, oth_mem.mpr ⟨hx, fun eo => ?_⟩, ex⟩
          obtain ⟨_, _, _, _, _, c', hc', a7, a8, _⟩ := b4 x hx
          rw [eo, e51] at a7
          have : c' = c := ((i3_inj (by omega) (by omega)).mp a7).symm
          rw [ex, show T + i - T = i by omega, this] at a8
          exact q ⟨hi, hi2, a8⟩
    · rw [k4, if_neg (by omega), d10 37 (by decide), d10 38 (by decide)]; exact b6
    · rw [d10 37 (by decide)]; exact b7
    · rw [d10 38 (by decide)]; exact b8
