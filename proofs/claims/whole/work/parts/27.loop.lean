/-! ===== loops ===== -/
theorem lp_find {r : Nat → Nat → am_R} {N c : Nat} {P : Nat → Prop} {yes : Nat → am_O × am_M} {no : am_O × am_M}
    (hy : ∀ i n, i < N → P i → r (n + c) i = some (yes i))
    (hn : ∀ i n res, i < N → ¬ P i → r n (i + 1) = some res → r (n + c) i = some res)
    (he : ∀ n, r (n + c) N = some no) :
    ∀ k i, i + k = N → (∃ j, i ≤ j ∧ j < N ∧ P j ∧ (∀ l, i ≤ l → l < j → ¬ P l) ∧ ∀ m, c * (k + 1) ≤ m → r m i = some (yes j)) ∨ ((∀ l, i ≤ l → l < N → ¬ P l) ∧ ∀ m, c * (k + 1) ≤ m → r m i = some no)
  | 0, i, hi => by
    have e : i = N := by omega
    subst e
    refine Or.inr ⟨fun l h1 h2 => by omega, fun m hm => ?_⟩
    rw [show m = (m - c) + c by omega]
    exact he _
  | k + 1, i, hi => by
    have hlt : i < N := by omega
    have hmul : c * (k + 1 + 1) = c * (k + 1) + c := by rw [Nat.mul_add c (k + 1) 1, Nat.mul_one]
    by_cases hp : P i
    · refine Or.inl ⟨i, Nat.le_refl i, hlt, hp, fun l h1 h2 => by omega, fun m hm => ?_⟩
      have hc : c ≤ m := by omega
      rw [show m = (m - c) + c by omega]
      exact hy i _ hlt hp
    · rcases lp_find hy hn he k (i + 1) (by omega) with ⟨j, h1, h2, h3, h4, h5⟩ | ⟨h1, h2⟩
      · refine Or.inl ⟨j, by omega, h2, h3, fun l hl hj => ?_, fun m hm => ?_⟩
        · by_cases e : l = i
          · rw [e]; exact hp
          · exact h4 l (by omega) hj
        · rw [show m = (m - c) + c by omega]
          exact hn i _ _ hlt hp (h5 _ (by omega))
      · refine Or.inr ⟨fun l hl hj => ?_, fun m hm => ?_⟩
        · by_cases e : l = i
          · rw [e]; exact hp
          · exact h1 l (by omega) hj
        · rw [show m = (m - c) + c by omega]
          exact hn i _ _ hlt hp (h2 _ (by omega))
/-- a search that answers with a truth -/
theorem lp_bi {r : Nat → Nat → am_R} {N c : Nat} {P : Nat → Prop} {M : am_M}
    (hy : ∀ i n, i < N → P i → r (n + c) i = am_rI 1 M)
    (hn : ∀ i n res, i < N → ¬ P i → r n (i + 1) = some res → r (n + c) i = some res)
    (he : ∀ n, r (n + c) N = am_rI 0 M) {m : Nat} (hm : c * (N + 1) ≤ m) : r m 0 = am_rI (bi (∃ i, i < N ∧ P i)) M := by
  rcases lp_find (yes := fun _ => (.inl (some (.inl (.int 1))), M)) hy hn he N 0 (Nat.zero_add N) with ⟨j, _, h2, h3, _, h5⟩ | ⟨h1, h2⟩
  · rw [bi_t ⟨j, h2, h3⟩]; exact h5 m hm
  · rw [bi_f (fun ⟨i, h, hp⟩ => h1 i (Nat.zero_le i) h hp)]; exact h2 m hm
/-- a loop that goes on to its end -/
theorem lp_do {A : Type} {r : Nat → Nat → A → am_R} {N c : Nat} {I : Nat → A → Prop}
    (hb : ∀ i M, i < N → I i M → ∃ M', I (i + 1) M' ∧ ∀ n res, r n (i + 1) M' = some res → r (n + c) i M = some res) :
    ∀ k i M, i + k = N → I i M → ∃ M', I N M' ∧ ∀ n res, r n N M' = some res → r (n + c * k) i M = some res
  | 0, i, M, hi, h => by
    have e : i = N := by omega
    subst e
    exact ⟨M, h, fun n res hr => by rw [Nat.mul_zero]; exact hr⟩
  | k + 1, i, M, hi, h => by
    obtain ⟨M1, h1, h2⟩ := hb i M (by omega) h
    obtain ⟨M2, h3, h4⟩ := lp_do hb k (i + 1) M1 (by omega) h1
    refine ⟨M2, h3, fun n res hr => ?_⟩
    have := h2 _ _ (h4 n res hr)
    rw [show n + c * (k + 1) = n + c * k + c by rw [Nat.mul_add c k 1]; omega]
    exact this
/-- two loops side by side -/
theorem lp_do2 {A B : Type} {r : Nat → Nat → A → am_R} {s : Nat → Nat → B → am_R} {N c d : Nat} {I : Nat → A → B → Prop}
    (hb : ∀ i C D, i < N → I i C D → ∃ C' D', I (i + 1) C' D' ∧ (∀ n res, r n (i + 1) C' = some res → r (n + c) i C = some res) ∧ (∀ n res, s n (i + 1) D' = some res → s (n + d) i D = some res)) :
    ∀ k i C D, i + k = N → I i C D → ∃ C' D', I N C' D' ∧ (∀ n res, r n N C' = some res → r (n + c * k) i C = some res) ∧ (∀ n res, s n N D' = some res → s (n + d * k) i D = some res)
  | 0, i, C, D, hi, h => by
    have e : i = N := by omega
    subst e
    exact ⟨C, D, h, fun n res hr => by rw [Nat.mul_zero]; exact hr, fun n res hr => by rw [Nat.mul_zero]; exact hr⟩
  | k + 1, i, C, D, hi, h => by
    obtain ⟨C1, D1, h1, h2, h2'⟩ := hb i C D (by omega) h
    obtain ⟨C2, D2, h3, h4, h4'⟩ := lp_do2 hb k (i + 1) C1 D1 (by omega) h1
    refine ⟨C2, D2, h3, fun n res hr => ?_, fun n res hr => ?_⟩
    · have := h2 _ _ (h4 n res hr)
      rw [show n + c * (k + 1) = n + c * k + c by rw [Nat.mul_add c k 1]; omega]
      exact this
    · have := h2' _ _ (h4' n res hr)
      rw [show n + d * (k + 1) = n + d * k + d by rw [Nat.mul_add d k 1]; omega]
      exact this
/-- fuel as it is given -/
theorem lp_n {r : Nat → am_R} {c n : Nat} {res : am_O × am_M} (h : ∀ m, r m = some res → r (m + c) = some res) (hc : c ≤ n) (k : r (n - c) = some res) : r n = some res := by
  have := h _ k
  rwa [show n - c + c = n by omega] at this
