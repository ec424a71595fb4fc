/-! ===== an order starts, or fails, or goes on waiting ===== -/
theorem RN_cg {T n : Nat} {C D C' D' : am_M} (h : RN T n C D) (c9 : C' 9 = C 9) (d : ∀ f, ¬ f = 36 → D' 10 0 f = D 10 0 f) : RN T n C' D' := by
  unfold RN at h ⊢
  rw [c9, d 14 (by decide), d 41 (by decide), d 44 (by decide), d 46 (by decide), d 47 (by decide), d 43 (by decide), d 42 (by decide)]
  exact h
theorem RC_cg {lo ms jd T n : Nat} {L : List Bk} {C D C' D' : am_M} (h : RC lo ms jd T n L C D) (c : ∀ k, k ∈ [1, 13, 14, 15] → C' k = C k) (d : ∀ k, k ∈ [30, 46, 51, 52, 54, 55, 56, 59, 60] → D' k = D k) : RC lo ms jd T n L C' D' := by
  unfold RC RU pnd1 fd at h ⊢
  rw [c 1 (by decide), c 13 (by decide), c 14 (by decide), c 15 (by decide), d 30 (by decide), d 46 (by decide), d 51 (by decide), d 52 (by decide), d 54 (by decide), d 55 (by decide), d 56 (by decide), d 59 (by decide), d 60 (by decide)]
  exact h
theorem RB_cg {lo T n : Nat} {L : List Bk} {C D C' D' : am_M} (h : RB lo T n L C D) (c : ∀ i, C' 19 0 i = C 19 0 i ∧ C' 20 0 i = C 20 0 i) (d51 : D' 51 = D 51) (d36 : D' 10 0 36 = i3 L.length) (cl : ∀ b x, L[b]? = some x → bcell D' b x) (d37 : D' 10 0 37 = D 10 0 37) (d38 : D' 10 0 38 = D 10 0 38) : RB lo T n L C' D' := by
  obtain ⟨_, b2, _, b4, b5, b6, b7, b8⟩ := h
  refine ⟨d36, b2, cl, fun x hx => ?_, fun i h1 h2 => ?_, fun e => ?_, by rw [d37]; exact b7, by rw [d38]; exact b8⟩
  · rw [(c _).1, (c _).2, d51]; exact b4 x hx
  · rw [(c _).1, (c _).2]; exact b5 i h1 h2
  · rw [(c _).1, d37, d38]; exact b6 e
/-- nothing has changed but how the bookings lie -/
theorem Rel_same {lo ms jd T n : Nat} {L : List Bk} {C D C' D' : am_M} (h : Rel lo ms jd T n L C D) (ck : ∀ k, ¬ k = 19 → ¬ k = 20 → C' k = C k) (c : ∀ i, C' 19 0 i = C 19 0 i ∧ C' 20 0 i = C 20 0 i)
    (dk : ∀ k, ¬ k = 10 → ¬ k = 61 → ¬ k = 62 → ¬ k = 63 → ¬ k = 64 → ¬ k = 65 → D' k = D k) (d : ∀ f, ¬ f = 36 → D' 10 0 f = D 10 0 f) (d36 : D' 10 0 36 = i3 L.length) (cl : ∀ b x, L[b]? = some x → bcell D' b x) : Rel lo ms jd T n L C' D' := by
  obtain ⟨hP, hS, hF, hQ, hN, hO, hH, hC, hB⟩ := h
  have ck' : ∀ k, ¬ (k = 19 ∨ k = 20) → C' k = C k := fun k q => ck k (fun e => q (Or.inl e)) (fun e => q (Or.inr e))
  have dk' : ∀ k, ¬ (k = 10 ∨ k = 61 ∨ k = 62 ∨ k = 63 ∨ k = 64 ∨ k = 65) → D' k = D k := fun k q => dk k (fun e => q (by omega)) (fun e => q (by omega)) (fun e => q (by omega)) (fun e => q (by omega)) (fun e => q (by omega)) (fun e => q (by omega))
  have cl1 : ∀ (l : List Nat), (∀ k, k ∈ l → ¬ (k = 19 ∨ k = 20)) → ∀ k, k ∈ l → C' k = C k := fun l q k hk => ck' k (q k hk)
  have dl1 : ∀ (l : List Nat), (∀ k, k ∈ l → ¬ (k = 10 ∨ k = 61 ∨ k = 62 ∨ k = 63 ∨ k = 64 ∨ k = 65)) → ∀ k, k ∈ l → D' k = D k := fun l q k hk => dk' k (q k hk)
  exact ⟨RP_cg hP (cl1 _ (by decide)) (dl1 _ (by decide)), RS_cg hS (ck' 8 (by decide)) (dl1 _ (by decide)), RF_cg hF (ck' 21 (by decide)) (dk' 43 (by decide)), RQ_cg hQ (ck' 5 (by decide)) (dl1 _ (by decide)), RN_cg hN (ck' 9 (by decide)) d,
    RO_cg hO (ck' 4 (by decide)) (dl1 _ (by decide)), RH_cg hH (ck' 3 (by decide)) (ck' 17 (by decide)) (dk' 48 (by decide)) (dk' 69 (by decide)) (d 40 (by decide)), RC_cg hC (cl1 _ (by decide)) (dl1 _ (by decide)), RB_cg hB c (dk' 51 (by decide)) d36 cl (d 37 (by decide)) (d 38 (by decide))⟩
/-- a waiting order fails -/
theorem Rel_fail {T n o : Nat} {L : List Bk} {C D D' : am_M} {y : Int32} (h : Rel 1 40 40 T n L C D) (ho : o < n) (hw : D 48 0 o = 0)
    (dk : ∀ k, ¬ k = 10 → ¬ k = 61 → ¬ k = 62 → ¬ k = 63 → ¬ k = 64 → ¬ k = 65 → D' k = D k) (d : ∀ f, ¬ f = 36 → D' 10 0 f = D 10 0 f) (d36 : D' 10 0 36 = i3 L.length) (cl : ∀ b x, L[b]? = some x → bcell D' b x) :
    Rel 1 40 40 T n L (am_put (am_put (am_put C 4 o 3 3) 4 o 4 y) 4 o 7 (-1)) (am_put (am_put D' 48 0 o 3) 49 0 o y) := by
  have h' : Rel 1 40 40 T n L C D' := Rel_same h (fun _ _ _ => rfl) (fun _ => ⟨rfl, rfl⟩) dk d d36 cl
  have hw' : D' 48 0 o = 0 := by rw [dk 48 (by decide) (by decide) (by decide) (by decide) (by decide) (by decide)]; exact hw
  clear h hw dk d d36 cl
  obtain ⟨hP, hS, hF, hQ, hN, hO, hH, hC, hB⟩ := h'
  have h40 := hN.2.2.1
  refine ⟨hP, hS, hF, hQ, hN, ?_, ?_, hC, hB⟩
  · obtain ⟨o1, o2, o3, o4, o5, o6, o7, o8, o9, o10⟩ := hO
    have C4 : ∀ o' f, ¬ o' = o → am_put (am_put (am_put C 4 o 3 3) 4 o 4 y) 4 o 7 (-1) 4 o' f = C 4 o' f := fun o' f ne => by rw [am_put_ni ne, am_put_ni ne, am_put_ni ne]
    have C4o : ∀ f, ¬ f = 3 → ¬ f = 4 → ¬ f = 7 → am_put (am_put (am_put C 4 o 3 3) 4 o 4 y) 4 o 7 (-1) 4 o f = C 4 o f := fun f h1 h2 h3 => by rw [am_put_nf h3, am_put_nf h2, am_put_nf h1]
    have D48 : ∀ o', ¬ o' = o → am_put (am_put D' 48 0 o 3) 49 0 o y 48 0 o' = D' 48 0 o' := fun o' ne => by rw [am_put_nk (by decide), am_put_nf ne]
    have D49 : ∀ o', ¬ o' = o → am_put (am_put D' 48 0 o 3) 49 0 o y 49 0 o' = D' 49 0 o' := fun o' ne => by rw [am_put_nf ne, am_put_nk (by decide)]
    have D48o : am_put (am_put D' 48 0 o 3) 49 0 o y 48 0 o = 3 := by rw [am_put_nk (by decide), am_put_i]
    have D49o : am_put (am_put D' 48 0 o 3) 49 0 o y 49 0 o = y := by rw [am_put_i]
    have C43 : am_put (am_put (am_put C 4 o 3 3) 4 o 4 y) 4 o 7 (-1) 4 o 3 = 3 := by rw [am_put_nf (by decide), am_put_nf (by decide), am_put_i]
    have C44 : am_put (am_put (am_put C 4 o 3 3) 4 o 4 y) 4 o 7 (-1) 4 o 4 = y := by rw [am_put_nf (by decide), am_put_i]
    have C47 : am_put (am_put (am_put C 4 o 3 3) 4 o 4 y) 4 o 7 (-1) 4 o 7 = -1 := by rw [am_put_i]
    generalize am_put (am_put (am_put C 4 o 3 3) 4 o 4 y) 4 o 7 (-1) = C2 at C4 C4o C43 C44 C47 ⊢
    have Dk : ∀ k, ¬ k = 48 → ¬ k = 49 → am_put (am_put D' 48 0 o 3) 49 0 o y k = D' k := fun k h1 h2 => by funext i f; rw [am_put_nk h2, am_put_nk h1]
    generalize am_put (am_put D' 48 0 o 3) 49 0 o y = D2 at D48 D49 D48o D49o Dk ⊢
    have fdE : ∀ t, cmpl D' t → cmpl D2 t := fun t q => cmpl_cg q (fun f _ => by unfold fd; rw [Dk 30 (by decide) (by decide)]) (by rw [Dk 34 (by decide) (by decide)])
    refine ⟨fun o' h => ?_, fun o' h => ?_, fun o' h h2 => ?_, fun o' h => ?_, fun o' h => ?_, fun o' h => ?_, fun o' h => ?_, fun o' h => ?_, fun o' h => ?_, fun o' h => ?_⟩
    · rw [Dk 45 (by decide) (by decide), Dk 46 (by decide) (by decide), Dk 47 (by decide) (by decide), Dk 50 (by decide) (by decide), Dk 53 (by decide) (by decide), Dk 57 (by decide) (by decide), Dk 58 (by decide) (by decide)]
      by_cases e : o' = o
      · subst e
        have q := o1 o' h
        rw [C4o 0 (by decide) (by decide) (by decide), C4o 1 (by decide) (by decide) (by decide), C4o 2 (by decide) (by decide) (by decide), C4o 5 (by decide) (by decide) (by decide), C4o 6 (by decide) (by decide) (by decide), C4o 8 (by decide) (by decide) (by decide), C4o 9 (by decide) (by decide) (by decide), C43, C44, D48o, D49o]
        exact ⟨q.1, q.2.1, q.2.2.1, rfl, rfl, q.2.2.2.2.2⟩
      · rw [C4 _ _ e, C4 _ _ e, C4 _ _ e, C4 _ _ e, C4 _ _ e, C4 _ _ e, C4 _ _ e, C4 _ _ e, C4 _ _ e, D48 _ e, D49 _ e]
        exact o1 o' h
    · rw [Dk 46 (by decide) (by decide), Dk 47 (by decide) (by decide), Dk 50 (by decide) (by decide), Dk 53 (by decide) (by decide)]
      by_cases e : o' = o
      · subst e; rw [D48o]
        have q := o2 o' h
        exact ⟨q.1, q.2.1, wi_of (k := 3) (by decide) (by decide), q.2.2.2⟩
      · rw [D48 _ e]; exact o2 o' h
    · have e : ¬ o' = o := by omega
      rw [D48 _ e, C4 _ _ e, Dk 50 (by decide) (by decide)]; exact o3 o' h h2
    · rw [Dk 50 (by decide) (by decide), Dk 53 (by decide) (by decide)]; exact o4 o' h
    · rw [Dk 50 (by decide) (by decide)]
      by_cases e : o' = o
      · subst e; rw [D48o]; exact fun q => absurd q (by decide)
      · rw [D48 _ e]; exact o5 o' h
    · rw [Dk 50 (by decide) (by decide), Dk 53 (by decide) (by decide)]
      by_cases e : o' = o
      · subst e; rw [D48o]; exact fun q => absurd q (by decide)
      · rw [D48 _ e]; exact o6 o' h
    · rw [Dk 51 (by decide) (by decide), Dk 45 (by decide) (by decide)]
      by_cases e : o' = o
      · subst e; rw [C47]
        exact ⟨(o8 o' h (by rw [hw']; decide)).symm, (o7 o' h).2⟩
      · rw [C4 _ _ e]; exact o7 o' h
    · rw [Dk 51 (by decide) (by decide)]
      by_cases e : o' = o
      · subst e; exact fun _ => o8 o' h (by rw [hw']; decide)
      · rw [D48 _ e]; exact o8 o' h
    · rw [Dk 51 (by decide) (by decide)]
      by_cases e : o' = o
      · subst e; rw [D48o]; exact fun q => absurd q (by decide)
      · rw [D48 _ e]; exact o9 o' h
    · rw [Dk 46 (by decide) (by decide)]
      by_cases e : o' = o
      · subst e; rw [D48o]; exact fun q => absurd q (by decide)
      · rw [D48 _ e]; exact fun q => fdE _ (o10 o' h q)
  · obtain ⟨e1, e2, e3⟩ := hH
    refine ⟨e1, ?_, e3⟩
    show wi (D' 10 0 40) (rel (am_put (am_put D' 48 0 o 3) 49 0 o y 48 0) 40)
    rw [rel_cg (d := D' 48 0) 40]
    · exact e2
    · intro i _
      by_cases e : i = o
      · rw [e, am_put_nk (by decide), am_put_i, hw']; exact ⟨fun q => absurd q (by decide), fun q => absurd q (by decide)⟩
      · rw [am_put_nk (by decide), am_put_nf e]
