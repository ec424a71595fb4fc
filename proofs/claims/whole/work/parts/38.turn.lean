theorem J_turn {T n : Nat} {L : List Bk} {C D : am_M} (h : Rel 1 40 40 T n L C D) : ∃ C' D', fX9_turnDisc [.inr (9, 0)] C = am_rV C' ∧ fX10_goOn [.inr (10, 0)] (am_put (am_put D 10 0 45 0) 10 0 42 (D 10 0 42 + 1)) = am_rV D' ∧ Rel 0 0 0 (T + 1) n L C' D' := by
  obtain ⟨hP, hS, hF, hQ, hN, hO, hH, hC, hB⟩ := h
  obtain ⟨n1, n2, n3, n4, n5, n6, n7, n8, n9, n10, n11, n12, n13⟩ := hN
  obtain ⟨C', c1, c2, c3, c4, c5, c6⟩ := sX9_turnDisc C
  obtain ⟨D', d1, d2, d3, d4⟩ := sX10_goOn (n := n) (am_put (am_put D 10 0 45 0) 10 0 42 (D 10 0 42 + 1)) n2 n3
  have dk : ∀ k, ¬ k = 59 → ¬ k = 52 → ¬ k = 10 → D' k = D k := fun k a b c => (d2 k a b).trans (by funext u v; rw [put_ne (fun e => c e.1), put_ne (fun e => c e.1)])
  have d10 : ∀ f, ¬ f = 45 → ¬ f = 42 → D' 10 0 f = D 10 0 f := fun f a b => by rw [d2 10 (by decide) (by decide), put_ne (fun e => b e.2.2), put_ne (fun e => a e.2.2)]
  have c7 : ∀ c, c < 10 → C' 1 c 7 = if C 1 c 5 = -1 then C 1 c 7 else C 1 c 7 + 1 := fun c hc => by rw [c3 c 7 hc]; rfl
  have c8 : ∀ c, c < 10 → C' 1 c 8 = if C 1 c 5 = -1 ∧ ¬ C 1 c 8 ≤ 0 then C 1 c 8 - 1 else C 1 c 8 := fun c hc => by rw [c3 c 8 hc]; rfl
  have cf : ∀ c f, c < 10 → ¬ f = 7 → ¬ f = 8 → C' 1 c f = C 1 c f := fun c f hc a b => by rw [c3 c f hc]; unfold trn; rw [if_neg a, if_neg b]
  have d3' : ∀ c, c < 10 → D' 59 0 c = if D 59 0 c ≤ 0 then D 59 0 c else D 59 0 c - 1 := d3
  have d4' : ∀ o, D' 52 0 o = if o < n ∧ D 48 0 o = 1 then D 52 0 o + 1 else D 52 0 o := d4
  refine ⟨C', D', c1, d1, ?_, ?_, ?_, ?_, ?_, ?_, ?_, ⟨?_, ?_, ?_⟩, ?_⟩
  · exact RP_cg hP (fun k hk => by
      have := (by decide : ∀ k, k ∈ [18, 6, 0, 11, 12, 2, 16] → ¬ k = 1 ∧ ¬ k = 19 ∧ ¬ k = 20) k hk
      exact c2 k this.1 this.2.1 this.2.2) (fun k hk => by
      have := (by decide : ∀ k, k ∈ [30, 31, 32, 33, 34, 35, 36] → ¬ k = 59 ∧ ¬ k = 52 ∧ ¬ k = 10) k hk
      exact dk k this.1 this.2.1 this.2.2)
  · exact RS_cg hS (c2 8 (by decide) (by decide) (by decide)) (fun k hk => by
      have := (by decide : ∀ k, k ∈ [37, 38, 39] → ¬ k = 59 ∧ ¬ k = 52 ∧ ¬ k = 10) k hk
      exact dk k this.1 this.2.1 this.2.2)
  · exact RF_cg hF (c2 21 (by decide) (by decide) (by decide)) (dk 43 (by decide) (by decide) (by decide))
  · exact RQ_cg hQ (c2 5 (by decide) (by decide) (by decide)) (fun k hk => by
      have := (by decide : ∀ k, k ∈ [40, 41, 42] → ¬ k = 59 ∧ ¬ k = 52 ∧ ¬ k = 10) k hk
      exact dk k this.1 this.2.1 this.2.2)
  · unfold RN
    rw [c2 9 (by decide) (by decide) (by decide), d10 14 (by decide) (by decide), d10 41 (by decide) (by decide), d10 44 (by decide) (by decide), d10 46 (by decide) (by decide), d10 47 (by decide) (by decide), d10 43 (by decide) (by decide)]
    refine ⟨n1, n2, n3, n4, n5, n6, n7, n8, n9, n10, n11, n12, ?_⟩
    rw [d2 10 (by decide) (by decide)]
    show D 10 0 42 + 1 = _
    rw [n13, i3_one]
  · exact RO_cg hO (c2 4 (by decide) (by decide) (by decide)) (fun k hk => by
      have := (by decide : ∀ k, k ∈ [45, 46, 47, 48, 49, 50, 51, 53, 57, 58, 30, 34] → ¬ k = 59 ∧ ¬ k = 52 ∧ ¬ k = 10) k hk
      exact dk k this.1 this.2.1 this.2.2)
  · exact RH_cg hH (c2 3 (by decide) (by decide) (by decide)) (c2 17 (by decide) (by decide) (by decide)) (dk 48 (by decide) (by decide) (by decide)) (dk 69 (by decide) (by decide) (by decide)) (d10 40 (by decide) (by decide))
  · intro c hc
    obtain ⟨q1, q2, q3⟩ := hC.1 c hc
    have e59 : D 59 0 c = i3 (nt (D 59 0 c)) := q2.1
    have b3 := q2.2
    have key : ∀ x : Int32, x = D 59 0 c → wi (if x ≤ 0 then x else x - 1) 3 := by
      intro x ex
      subst ex
      by_cases a : D 59 0 c ≤ 0
      · rw [if_pos a]; exact q2
      · rw [if_neg a]
        have z : ¬ nt (D 59 0 c) = 0 := fun z => a (by rw [e59, z]; decide)
        rw [e59, show (1 : Int32) = i3 1 from rfl, i3_sub (by omega)]
        exact wi_of (by omega) (by decide)
    refine ⟨?_, ?_, ?_⟩
    · rw [c8 c hc, d3' c hc, q1]
      by_cases f : C 1 c 5 = -1
      · by_cases a : D 59 0 c ≤ 0
        · rw [if_neg (fun q => q.2 a), if_pos a]
        · rw [if_pos ⟨f, a⟩, if_neg a]
      · rw [if_neg (fun q => f q.1)]
        rcases hC.2.1 c hc with q | ⟨o, ho, _, q⟩
        · exact absurd q f
        · have := (hC.2.2 o c ho hc q).2.1
          rw [this]; rfl
    · rw [d3' c hc]; exact key _ rfl
    · rw [cf c 9 hc (by decide) (by decide), dk 60 (by decide) (by decide) (by decide)]; exact q3
  · intro c hc
    rw [cf c 5 hc (by decide) (by decide), dk 51 (by decide) (by decide) (by decide)]
    exact hC.2.1 c hc
  · intro o c ho hc q
    rw [dk 51 (by decide) (by decide) (by decide)] at q
    rw [dk 46 (by decide) (by decide) (by decide)]
    have run := c_run hO ho hc q
    obtain ⟨u1, u2, u3, u4, u5, u6, u7, u8, u9, u10, u11, u12, u13, u14, u15⟩ := hC.2.2 o c ho hc q
    have o40 : o < 40 := by omega
    have al := u6 o40
    rw [if_pos o40] at u10
    have e52 : D' 52 0 o = i3 (nt (D 52 0 o) + 1) := by rw [d4', if_pos ⟨ho, run⟩, u4, nt_i (nt_lt _), i3_one]
    have n52 : nt (D' 52 0 o) = nt (D 52 0 o) + 1 := by
      have w8 := (RP_wi hP (t4_of hO o40) (f := 8) (m := 12) (by decide) rfl rfl (by decide)).2
      rw [e52]; exact nt_i (by omega)
    have fds : ∀ f, fd D' (nt (D 46 0 o)) f = fd D (nt (D 46 0 o)) f := fun f => by unfold fd; rw [dk 30 (by decide) (by decide) (by decide)]
    have nf : ¬ C 1 c 5 = -1 := by rw [u1]; exact i3_nm (by omega)
    have pn : ∀ w, w < 2 → pnd1 (T + 1) C' D' c o (nt (D 46 0 o)) w = pnd1 T C D c o (nt (D 46 0 o)) w := by
      intro w hw
      unfold pnd1
      rw [cf c 4 hc (by decide) (by decide), c2 14 (by decide) (by decide) (by decide), c2 15 (by decide) (by decide) (by decide), fds, fds, n52]
      rw [show T + 1 + nt (fd D (nt (D 46 0 o)) (3 + 3 * w)) - (nt (D 52 0 o) + 1) = T + nt (fd D (nt (D 46 0 o)) (3 + 3 * w)) - nt (D 52 0 o) by omega]
    refine ⟨?_, ?_, ?_, ?_, ?_, ?_, ?_, ?_, ?_, ?_, ?_, ?_, ?_, ?_, ?_⟩
    · rw [cf c 5 hc (by decide) (by decide)]; exact u1
    · rw [d3' c hc, u2]; rfl
    · rw [c7 c hc, if_neg nf, u3, e52, u4, nt_i (nt_lt _), i3_one]
    · rw [n52]; exact e52
    · rw [n52, fds]; omega
    · intro q; omega
    · rw [cf c 6 hc (by decide) (by decide), dk 54 (by decide) (by decide) (by decide)]; exact u7
    · rw [dk 54 (by decide) (by decide) (by decide)]; exact u8
    · rw [cf c 1 hc (by decide) (by decide), dk 56 (by decide) (by decide) (by decide)]; exact u9
    · rw [dk 56 (by decide) (by decide) (by decide), if_neg (by omega), n52, fds, u10]
      congr 1; omega
    · rw [dk 56 (by decide) (by decide) (by decide), c2 13 (by decide) (by decide) (by decide), dk 55 (by decide) (by decide) (by decide)]; exact u11
    · rw [cf c 4 hc (by decide) (by decide)]; exact u12
    · intro w hw
      rw [c2 14 (by decide) (by decide) (by decide), c2 15 (by decide) (by decide) (by decide), fds, fds]; exact u13 w hw
    · intro w hw
      rw [cf c 4 hc (by decide) (by decide), c2 14 (by decide) (by decide) (by decide), fds, n52]
      intro q1 q2
      have := u14 w hw q1 q2
      omega
    · rw [pn 0 (by decide), pn 1 (by decide)]; exact u15
  · obtain ⟨b1, b2, b3, b4, b5, b6, b7, b8⟩ := hB
    refine ⟨?_, b2, ?_, ?_, ?_, ?_, ?_, ?_⟩
    · rw [d10 36 (by decide) (by decide)]; exact b1
    · rw [dk 61 (by decide) (by decide) (by decide), dk 62 (by decide) (by decide) (by decide), dk 63 (by decide) (by decide) (by decide), dk 64 (by decide) (by decide) (by decide), dk 65 (by decide) (by decide) (by decide)]; exact b3
    · intro x hx
      obtain ⟨a1, a2, a3, a4, a5, a6, c, hc, a7, a8, a9⟩ := b4 x hx
      refine ⟨by omega, by omega, a3, a4, a5, a6, c, hc, ?_, ?_, ?_⟩
      · rw [dk 51 (by decide) (by decide) (by decide)]; exact a7
      · rw [(c4 (x.1 - (T + 1)) (by omega)).2, show x.1 - (T + 1) + 1 = x.1 - T by omega]; exact a8
      · rw [(c4 (x.1 - (T + 1)) (by omega)).1, show x.1 - (T + 1) + 1 = x.1 - T by omega]; exact a9
    · intro i _ hi
      rcases Nat.lt_or_ge i 12 with l | l
      · rw [(c4 i l).1, (c4 i l).2]
        rcases b5 (i + 1) (by omega) (by omega) with q | ⟨x, hx, ex⟩
        · exact Or.inl q
        · exact Or.inr ⟨x, hx, by omega⟩
      · rw [show i = 12 by omega]; exact Or.inl ⟨c5, c6⟩
    · intro q; omega
    · rw [d10 37 (by decide) (by decide)]; exact wi_mono b7 (by omega)
    · rw [d10 38 (by decide) (by decide)]; exact b8
