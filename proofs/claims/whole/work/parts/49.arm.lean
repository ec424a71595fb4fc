/-! ===== successions of reagents ===== -/
theorem lp_q {r s : Nat → am_R} {c n : Nat} {res : am_O × am_M} (h : ∀ m, s m = some res → r (m + c) = some res) (hc : c ≤ n) (k : s (n - c) = some res) : r n = some res := by
  have := h _ k
  rwa [show n - c + c = n by omega] at this
theorem sX10_nextUse {L : List Bk} {D : am_M} {s : Nat} (hs : s ≤ 2000000) (hb : D 10 0 36 = i3 L.length) (hl : L.length ≤ 24) (hc : ∀ b x, L[b]? = some x → bcell D b x) (hr : ∀ x, x ∈ L → x.1 ≤ 2000000) :
    ∃ v, fX10_nextUse [.inr (10, 0), .inl (.int (i3 s))] D = am_rI v D ∧ ((v = -1 ∧ ∀ x, x ∈ L → x.1 ≤ s) ∨ ∃ j x, v = i3 j ∧ L[j]? = some x ∧ s < x.1 ∧ ∀ y, y ∈ L → s < y.1 → x.1 ≤ y.1) := by
  have main := lp_do (A := Int32) (r := fun m i a => rX10_nextUse m 4 [.inr (10, 0), .inl (.int (i3 s)), .inl (.int a), .inl (.int (i3 i))] [] D) (N := L.length) (c := 100)
    (I := fun i a => (a = -1 ∧ ∀ j x, j < i → L[j]? = some x → x.1 ≤ s) ∨ ∃ j x, a = i3 j ∧ L[j]? = some x ∧ s < x.1 ∧ ∀ j' y, j' < i → L[j']? = some y → s < y.1 → x.1 ≤ y.1) ?_ L.length 0 (-1) (Nat.zero_add _) (Or.inl ⟨rfl, fun j x h => absurd h (Nat.not_lt_zero j)⟩)
  · obtain ⟨a, ha, h⟩ := main
    refine ⟨a, qX10_nextUse_0 (lp_q (n := 99900) (c := 100 * L.length) (r := fun m => rX10_nextUse m 4 [.inr (10, 0), .inl (.int (i3 s)), .inl (.int (-1)), .inl (.int (i3 0))] [] D) (fun m k => h m _ k) (by omega) (mX10_nextUse (qX10_nextUse_4_0 (n := 0) (hen hb (by omega))) (by omega))), ?_⟩
    rcases ha with ⟨e, q⟩ | ⟨j, x, e, q1, q2, q3⟩
    · refine Or.inl ⟨e, fun x hx => ?_⟩
      obtain ⟨j, hj⟩ := List.mem_iff_getElem?.1 hx
      exact q j x (by obtain ⟨h, _⟩ := List.getElem?_eq_some_iff.1 hj; exact h) hj
    · refine Or.inr ⟨j, x, e, q1, q2, fun y hy h => ?_⟩
      obtain ⟨j', hj⟩ := List.mem_iff_getElem?.1 hy
      exact q3 j' y (by obtain ⟨h, _⟩ := List.getElem?_eq_some_iff.1 hj; exact h) hj h
  · intro i a hi ha
    have hx : L[i]? = some (L[i]'hi) := List.getElem?_eq_getElem hi
    generalize L[i]'hi = x at hx
    have c1 := (hc i x hx).1
    have hxm : x ∈ L := List.mem_iff_getElem?.2 ⟨i, hx⟩
    have hx2 := hr x hxm
    have hg := hge hb hi (by omega)
    by_cases h3 : x.1 ≤ s
    · refine ⟨a, ?_, fun m res k => qX10_nextUse_4_1 hg (by omega) (by rw [c1]; exact (i3_le (by omega) (by omega)).2 h3) k⟩
      rcases ha with ⟨e, q⟩ | ⟨j, y, e, q1, q2, q3⟩
      · refine Or.inl ⟨e, fun j y hj hy => ?_⟩
        by_cases ej : j = i
        · rw [ej, hx] at hy; cases hy; exact h3
        · exact q j y (by omega) hy
      · refine Or.inr ⟨j, y, e, q1, q2, fun j' z hj hz hl => ?_⟩
        by_cases ej : j' = i
        · rw [ej, hx] at hz; cases hz; omega
        · exact q3 j' z (by omega) hz hl
    · have h3' : ¬ D 61 0 i ≤ i3 s := by rw [c1]; exact fun q => h3 ((i3_le (by omega) (by omega)).1 q)
      rcases ha with ⟨e, q⟩ | ⟨j, y, e, q1, q2, q3⟩
      · refine ⟨i3 i, Or.inr ⟨i, x, rfl, hx, by omega, fun j' z hj hz hl => ?_⟩, fun m res k => qX10_nextUse_4_2 hg (by omega) h3' (by rw [e]; decide) k⟩
        by_cases ej : j' = i
        · rw [ej, hx] at hz; cases hz; exact Nat.le_refl _
        · have := q j' z (by omega) hz; omega
      · have jl : j < L.length := by obtain ⟨h, _⟩ := List.getElem?_eq_some_iff.1 q1; exact h
        have cj := (hc j y q1).1
        have hym : y ∈ L := List.mem_iff_getElem?.2 ⟨j, q1⟩
        have hy2 := hr y hym
        have hna : ¬ a < 0 := by rw [e]; exact i3_nl (by omega)
        by_cases h7 : y.1 ≤ x.1
        · refine ⟨a, Or.inr ⟨j, y, e, q1, q2, fun j' z hj hz hl => ?_⟩, fun m res k => qX10_nextUse_4_3 hg (by omega) h3' hna (by omega) e (by rw [cj, c1]; exact (i3_le (by omega) (by omega)).2 h7) k⟩
          by_cases ej : j' = i
          · rw [ej, hx] at hz; cases hz; exact h7
          · exact q3 j' z (by omega) hz hl
        · refine ⟨i3 i, Or.inr ⟨i, x, rfl, hx, by omega, fun j' z hj hz hl => ?_⟩, fun m res k => qX10_nextUse_4_4 hg (by omega) h3' hna (by omega) e (by rw [cj, c1]; exact fun q => h7 ((i3_le (by omega) (by omega)).1 q)) k⟩
          by_cases ej : j' = i
          · rw [ej, hx] at hz; cases hz; exact Nat.le_refl _
          · have := q3 j' z (by omega) hz hl; omega
theorem sX10_follows {L : List Bk} {D : am_M} {s u : Nat} (hs : s ≤ 2000000) (hu : u < 6) (hb : D 10 0 36 = i3 L.length) (hl : L.length ≤ 24) (hc : ∀ b x, L[b]? = some x → bcell D b x) (hr : ∀ x, x ∈ L → x.1 ≤ 2000000) (hk : ∀ x, x ∈ L → x.2.1 < 6) (hf : ∀ i, i < 36 → D 43 0 i = 0 ∨ D 43 0 i = 1) :
    ∃ v, fX10_follows [.inr (10, 0), .inl (.int (i3 u)), .inl (.int (i3 s))] D = am_rI v D ∧ ((L.map (fun x => x.1)).Nodup → (v = 0 ↔ ∃ x, x ∈ L ∧ x.1 = s + 1 ∧ ¬ D 43 0 (6 * u + x.2.1) = 0)) := by
  obtain ⟨v, hv, h⟩ := sX10_nextUse hs hb hl hc hr
  rcases h with ⟨e, q⟩ | ⟨j, x, e, q1, q2, q3⟩
  · refine ⟨1, qX10_follows_0 hv (by rw [e]; decide), fun _ => ⟨fun z => absurd z (by decide), fun ⟨x, h1, h2, _⟩ => ?_⟩⟩
    have := q x h1; omega
  · have jl : j < L.length := by obtain ⟨h, _⟩ := List.getElem?_eq_some_iff.1 q1; exact h
    have hxm : x ∈ L := List.mem_iff_getElem?.2 ⟨j, q1⟩
    have hx1 := hr x hxm
    have hx2 := hk x hxm
    have hna : ¬ v < 0 := by rw [e]; exact i3_nl (by omega)
    have ix : (6 : Int32) * i3 u + D 62 0 j = i3 (6 * u + x.2.1) := by
      rw [(hc j x q1).2.1, show (6 : Int32) = i3 6 from rfl, i3_mul, i3_add]
    have uq : (L.map (fun x => x.1)).Nodup → ∀ y, y ∈ L → y.1 = s + 1 → y = x := by
      intro nd y hy e1
      have e2 : x.1 = y.1 := by have := q3 y hy (by omega); omega
      obtain ⟨j', hj⟩ := List.mem_iff_getElem?.1 hy
      have := nd_eq nd hj q1 e2.symm
      rw [this, q1] at hj; cases hj; rfl
    have hb43 := b01 (hf (6 * u + x.2.1) (by omega))
    by_cases h7 : D 43 0 (6 * u + x.2.1) = 0
    · refine ⟨1, qX10_follows_1 hv hna (by omega) e (by omega) ix (by rw [hb43]; exact h7), fun nd => ⟨fun z => absurd z (by decide), fun ⟨y, h1, h2, h3⟩ => ?_⟩⟩
      rw [uq nd y h1 h2] at h3
      exact absurd h7 h3
    · have sb : D 61 0 j - i3 s = i3 (x.1 - s) := by rw [(hc j x q1).1]; exact i3_sub (by omega)
      by_cases h8 : x.1 - s < 2
      · refine ⟨0, qX10_follows_2 hv hna (by omega) e (by omega) ix (by rw [hb43]; exact h7) (by rw [sb]; exact (i3_lt (b := 2) (by omega) (by decide)).2 h8), fun nd => ⟨fun _ => ⟨x, hxm, by omega, h7⟩, fun _ => rfl⟩⟩
      · refine ⟨1, qX10_follows_3 hv hna (by omega) e (by omega) ix (by rw [hb43]; exact h7) (by rw [sb]; exact fun q => h8 ((i3_lt (b := 2) (by omega) (by decide)).1 q)), fun nd => ⟨fun z => absurd z (by decide), fun ⟨y, h1, h2, h3⟩ => ?_⟩⟩
        rw [uq nd y h1 h2] at h2; omega
def ax : Nat → am_V
  | 0 => am_D
  | i + 1 => .inl (.int (i3 i))
/-- what the reference forbids -/
def fbd (L : List Bk) (D : am_M) : Prop :=
  (∃ u, u < 6 ∧ D 10 0 38 = i3 u ∧ ∃ x, x ∈ L ∧ x.1 = nt (D 10 0 37) + 1 ∧ ¬ D 43 0 (6 * u + x.2.1) = 0) ∨
  ∃ y, y ∈ L ∧ ∃ x, x ∈ L ∧ x.1 = y.1 + 1 ∧ ¬ D 43 0 (6 * y.2.1 + x.2.1) = 0
theorem sX10_allowed {L : List Bk} {D : am_M} (hb : D 10 0 36 = i3 L.length) (hl : L.length ≤ 24) (hc : ∀ b x, L[b]? = some x → bcell D b x) (hr : ∀ x, x ∈ L → x.1 ≤ 2000000) (hk : ∀ x, x ∈ L → x.2.1 < 6) (hf : ∀ i, i < 36 → D 43 0 i = 0 ∨ D 43 0 i = 1)
    (h37 : wi (D 10 0 37) 2000000) (h38 : D 10 0 38 = -1 ∨ wi (D 10 0 38) 5) :
    fX10_allowed [.inr (10, 0)] D = am_rI (bi ((L.map (fun x => x.1)).Nodup ∧ ¬ fbd L D)) D := by
  have inner0 : ∀ (i : Nat) (x : Bk), L[i]? = some x → ∀ k j, j + k = i → (∃ l y, j ≤ l ∧ l < i ∧ L[l]? = some y ∧ x.1 = y.1) → ∀ m, 100 * (k + 1) ≤ m → rX10_allowed m 36 [.inr (10, 0), .inl (.int (i3 i)), .inl (.int (i3 j))] [] D = am_rI 0 D := by
    intro i x hx k
    have il : i < L.length := by obtain ⟨h, _⟩ := List.getElem?_eq_some_iff.1 hx; exact h
    induction k with
    | zero => intro j hj ⟨l, y, h1, h2, _⟩; omega
    | succ k ih =>
      intro j hj ⟨l, y, h1, h2, h3, h4⟩ m hm
      have hg : ¬ i3 i ≤ i3 j := fun q => by have := (i3_le (by omega) (by omega)).1 q; omega
      rw [show m = (m - 100) + 100 by omega]
      by_cases h5 : D 61 0 i = D 61 0 j
      · exact qX10_allowed_36_2 hg (by omega) (by omega) h5
      · refine qX10_allowed_36_3 hg (by omega) (by omega) h5 (ih (j + 1) (by omega) ⟨l, y, ?_, h2, h3, h4⟩ _ (by omega))
        have : ¬ l = j := by
          intro e
          rw [e] at h3
          exact h5 (by rw [(hc i x hx).1, (hc j y h3).1, h4])
        omega
  have inner1 : ∀ (i : Nat) (x : Bk), L[i]? = some x → (∀ l y, l < i → L[l]? = some y → ¬ x.1 = y.1) → ∀ m res, rX10_allowed m 36 [.inr (10, 0), .inl (.int (i3 i)), .inl (.int (i3 i))] [] D = some res → rX10_allowed (m + 100 * i) 36 [.inr (10, 0), .inl (.int (i3 i)), .inl (.int (i3 0))] [] D = some res := by
    intro i x hx h
    have il : i < L.length := by obtain ⟨h, _⟩ := List.getElem?_eq_some_iff.1 hx; exact h
    obtain ⟨_, _, k⟩ := lp_do (A := Unit) (r := fun m j _ => rX10_allowed m 36 [.inr (10, 0), .inl (.int (i3 i)), .inl (.int (i3 j))] [] D) (N := i) (c := 100) (I := fun _ _ => True) (by
      intro j _ hj _
      refine ⟨(), trivial, fun m res k => qX10_allowed_36_3 (fun q => ?_) (by omega) (by omega) (fun q => ?_) k⟩
      · have := (i3_le (by omega) (by omega)).1 q; omega
      · have jl : j < L.length := by omega
        have hy : L[j]? = some (L[j]'jl) := List.getElem?_eq_getElem jl
        rw [(hc i x hx).1, (hc j _ hy).1] at q
        have b1 := hr x (List.mem_iff_getElem?.2 ⟨i, hx⟩)
        have b2 := hr _ (List.mem_iff_getElem?.2 ⟨j, hy⟩)
        exact h j _ hj hy ((i3_inj (by omega) (by omega)).1 q)) i 0 () (Nat.zero_add i) trivial
    exact k
  have loop := lp_find (r := fun m i => rX10_allowed m 26 [.inr (10, 0), .inl (.int (i3 i)), ax i] [] D) (N := L.length) (c := 3000)
    (P := fun i => (∃ x, L[i]? = some x ∧ ∃ l y, l < i ∧ L[l]? = some y ∧ x.1 = y.1) ∨ ∃ x, L[i]? = some x ∧ fX10_follows [.inr (10, 0), .inl (.int (i3 x.2.1)), .inl (.int (i3 x.1))] D = am_rI 0 D)
    (yes := fun _ => (.inl (some (.inl (.int 0))), D)) (no := (.inl (some (.inl (.int 1))), D)) ?_ ?_ ?_ L.length 0 (Nat.zero_add _)
  · have whole : rX10_allowed 99800 26 [.inr (10, 0), .inl (.int 0), am_D] [] D = am_rI (bi ((L.map (fun x => x.1)).Nodup ∧ ¬ ∃ y, y ∈ L ∧ ∃ x, x ∈ L ∧ x.1 = y.1 + 1 ∧ ¬ D 43 0 (6 * y.2.1 + x.2.1) = 0)) D := by
      rcases loop with ⟨j, _, jl, h3, _, h5⟩ | ⟨h1, h2⟩
      · rw [bi_f]
        · exact h5 99800 (by omega)
        · intro ⟨nd, q⟩
          rcases h3 with ⟨x, hx, l, y, h6, h7, h8⟩ | ⟨x, hx, h6⟩
          · have := nd_eq nd hx h7 h8
            omega
          · have hxm : x ∈ L := List.mem_iff_getElem?.2 ⟨j, hx⟩
            obtain ⟨v, hv, hw⟩ := sX10_follows (L := L) (D := D) (s := x.1) (u := x.2.1) (hr x hxm) (hk x hxm) hb hl hc hr hk hf
            rw [h6] at hv
            have e : v = 0 := by injection hv with hv; injection hv with hv; injection hv with hv; injection hv with hv; injection hv with hv; injection hv with hv; exact hv.symm
            obtain ⟨z, z1, z2, z3⟩ := (hw nd).1 e
            exact q ⟨x, hxm, z, z1, z2, z3⟩
      · have nd : (L.map (fun x => x.1)).Nodup := by
          unfold List.Nodup
          rw [List.pairwise_map, List.pairwise_iff_getElem]
          intro i j hi hj hij e
          exact h1 j (Nat.zero_le j) hj (Or.inl ⟨_, List.getElem?_eq_getElem hj, i, _, hij, List.getElem?_eq_getElem hi, e.symm⟩)
        rw [bi_t]
        · exact h2 99800 (by omega)
        · refine ⟨nd, fun ⟨y, hy, x, hx, e, q⟩ => ?_⟩
          obtain ⟨j, hj⟩ := List.mem_iff_getElem?.1 hy
          have jl : j < L.length := by obtain ⟨h, _⟩ := List.getElem?_eq_some_iff.1 hj; exact h
          obtain ⟨v, hv, hw⟩ := sX10_follows (L := L) (D := D) (s := y.1) (u := y.2.1) (hr y hy) (hk y hy) hb hl hc hr hk hf
          have e0 := (hw nd).2 ⟨x, hx, e, q⟩
          rw [e0] at hv
          exact h1 j (Nat.zero_le j) jl (Or.inr ⟨y, hj, hv⟩)
    unfold fbd
    rcases h38 with e | w
    · refine qX10_allowed_0 (by rw [e]; decide) (mX10_allowed ?_ (Nat.le_add_right 99800 100))
      rw [whole]
      refine congrArg (fun v => am_rI v D) (bi_c ⟨fun ⟨a, b⟩ => ⟨a, fun z => z.elim (fun ⟨u, h1, h2, _⟩ => ?_) b⟩, fun ⟨a, b⟩ => ⟨a, fun z => b (Or.inr z)⟩⟩)
      rw [e] at h2
      exact i3_nm (by omega) h2.symm
    · have n38 : ¬ D 10 0 38 < 0 := by rw [w.1]; exact i3_nl (nt_lt _)
      have u6 : nt (D 10 0 38) < 6 := by have := w.2; omega
      obtain ⟨v, hv, hw⟩ := sX10_follows (L := L) (D := D) (s := nt (D 10 0 37)) (u := nt (D 10 0 38)) h37.2 u6 hb hl hc hr hk hf
      rw [← w.1, ← h37.1] at hv
      by_cases h0 : v = 0
      · rw [bi_f]
        · exact qX10_allowed_1 n38 hv h0
        · intro ⟨nd, q⟩
          exact q (Or.inl ⟨_, u6, w.1, (hw nd).1 h0⟩)
      · refine qX10_allowed_2 n38 hv h0 ?_
        rw [whole]
        refine congrArg (fun v => am_rI v D) (bi_c ⟨fun ⟨a, b⟩ => ⟨a, fun z => z.elim (fun ⟨u, h1, h2, h3⟩ => ?_) b⟩, fun ⟨a, b⟩ => ⟨a, fun z => b (Or.inr z)⟩⟩)
        have e : nt (D 10 0 38) = u := by rw [h2]; exact nt_i (by omega)
        exact h0 ((hw a).2 (e ▸ h3))
  · intro i m hi hp
    have hx : L[i]? = some (L[i]'hi) := List.getElem?_eq_getElem hi
    generalize L[i]'hi = x at hx
    refine mX10_allowed (qX10_allowed_26_1 (n := 2800) (hge hb hi (by omega)) ?_) (by omega)
    by_cases dup : ∃ l y, l < i ∧ L[l]? = some y ∧ x.1 = y.1
    · obtain ⟨l, y, h1, h2, h3⟩ := dup
      exact inner0 i x hx i 0 (Nat.zero_add i) ⟨l, y, Nat.zero_le l, h1, h2, h3⟩ _ (by omega)
    · refine lp_q (n := 2800) (c := 100 * i) (r := fun m => rX10_allowed m 36 [.inr (10, 0), .inl (.int (i3 i)), .inl (.int (i3 0))] [] D) (fun m k => inner1 i x hx (fun l y h1 h2 h3 => dup ⟨l, y, h1, h2, h3⟩) m _ k) (by omega) (mX10_allowed (n := 200) (qX10_allowed_36_0 (n := 0) (v1 := 0) ((i3_le (by omega) (by omega)).2 (Nat.le_refl i)) (by omega) ?_ rfl) (by omega))
      rcases hp with ⟨x', h1, l, y, h2, h3, h4⟩ | ⟨x', h1, h2⟩
      · rw [hx] at h1; cases h1; exact absurd ⟨l, y, h2, h3, h4⟩ dup
      · rw [hx] at h1; cases h1
        rw [(hc i x hx).1, (hc i x hx).2.1]; exact h2
  · intro i m res hi hp kk
    have hx : L[i]? = some (L[i]'hi) := List.getElem?_eq_getElem hi
    generalize L[i]'hi = x at hx
    have hxm : x ∈ L := List.mem_iff_getElem?.2 ⟨i, hx⟩
    have hnd : ∀ l y, l < i → L[l]? = some y → ¬ x.1 = y.1 := fun l y h1 h2 h3 => hp (Or.inl ⟨x, hx, l, y, h1, h2, h3⟩)
    obtain ⟨v, hv, hw⟩ := sX10_follows (L := L) (D := D) (s := x.1) (u := x.2.1) (hr x hxm) (hk x hxm) hb hl hc hr hk hf
    refine mX10_allowed (qX10_allowed_26_1 (n := m + 200 + 100 * i) (hge hb hi (by omega)) (inner1 i x hx hnd _ _ (qX10_allowed_36_1 (v1 := v) ((i3_le (by omega) (by omega)).2 (Nat.le_refl i)) (by omega) ?_ (fun e => ?_) kk))) (by omega)
    · rw [(hc i x hx).1, (hc i x hx).2.1]; exact hv
    · rw [e] at hv; exact hp (Or.inr ⟨x, hx, hv⟩)
  · intro m
    exact mX10_allowed (qX10_allowed_26_0 (n := 0) (hen hb (by omega))) (by omega)
/-- what the class forbids -/
def fbc (C : am_M) : Prop := ∃ i, i < 12 ∧ ¬ C 19 0 i = -1 ∧ ¬ C 19 0 (i + 1) = -1 ∧ ¬ C 21 0 (nt (C 19 0 i) * 6 + nt (C 19 0 (i + 1))) = 0
theorem sX7_hasForbidden {C : am_M} (hk : ∀ i, i < 13 → C 19 0 i = -1 ∨ wi (C 19 0 i) 5) (hf : ∀ i, i < 36 → C 21 0 i = 0 ∨ C 21 0 i = 1) :
    fX7_hasForbiddenSuccession [.inr (7, 0)] C = am_rI (bi (fbc C)) C := by
  unfold fbc
  refine qX7_hasForbiddenSuccession_0 (lp_bi (r := fun m i => rX7_hasForbiddenSuccession m 2 [.inr (7, 0), .inl (.int (i3 (i + 1)))] [] C) (N := 12) (c := 100) ?_ ?_ ?_ (by omega))
  · intro i m hi ⟨h1, h2, h3⟩
    have w1 := (hk i (by omega)).resolve_left h1
    have w2 := (hk (i + 1) (by omega)).resolve_left h2
    have := w1.2
    have := w2.2
    refine qX7_hasForbiddenSuccession_2_4 (j1 := i) (j2 := nt (C 19 0 i) * 6 + nt (C 19 0 (i + 1))) (fun q => ?_) (by omega) (i3_sub (b := 1) (by omega)) h1 (by omega) h2 (by omega) ?_ ?_
    · have := (i3_lt (a := 12) (by decide) (by omega)).1 q; omega
    · conv => lhs; rw [w1.1, w2.1]
      rw [show (6 : Int32) = i3 6 from rfl, i3_mul, i3_add]
    · rw [b01 (hf _ (by omega))]; exact h3
  · intro i m res hi hp kk
    have hg : ¬ (12 : Int32) < i3 (i + 1) := fun q => by have := (i3_lt (a := 12) (by decide) (by omega)).1 q; omega
    by_cases h1 : C 19 0 i = -1
    · exact qX7_hasForbiddenSuccession_2_1 (j1 := i) hg (by omega) (i3_sub (b := 1) (by omega)) h1 kk
    · by_cases h2 : C 19 0 (i + 1) = -1
      · exact qX7_hasForbiddenSuccession_2_2 (j1 := i) hg (by omega) (i3_sub (b := 1) (by omega)) h1 (by omega) h2 kk
      · have w1 := (hk i (by omega)).resolve_left h1
        have w2 := (hk (i + 1) (by omega)).resolve_left h2
        have := w1.2
        have := w2.2
        refine qX7_hasForbiddenSuccession_2_3 (j1 := i) (j2 := nt (C 19 0 i) * 6 + nt (C 19 0 (i + 1))) hg (by omega) (i3_sub (b := 1) (by omega)) h1 (by omega) h2 (by omega) ?_ ?_ kk
        · conv => lhs; rw [w1.1, w2.1]
          rw [show (6 : Int32) = i3 6 from rfl, i3_mul, i3_add]
        · rw [b01 (hf _ (by omega))]
          exact Classical.byContradiction fun q => hp ⟨h1, h2, q⟩
  · intro m
    exact qX7_hasForbiddenSuccession_2_0 (by decide)
/-- the arm's row and the bookings -/
def AR (T : Nat) (L : List Bk) (C D : am_M) : Prop :=
  (∀ x, x ∈ L → T + 1 ≤ x.1 ∧ x.1 ≤ T + 12 ∧ x.2.1 < 6 ∧ C 19 0 (x.1 - T) = i3 x.2.1) ∧
  (∀ i, 1 ≤ i → i < 13 → C 19 0 i = -1 ∨ ∃ x, x ∈ L ∧ x.1 = T + i) ∧
  C 19 0 0 = (if D 10 0 37 = i3 T then D 10 0 38 else -1) ∧ wi (D 10 0 37) T ∧ (D 10 0 38 = -1 ∨ wi (D 10 0 38) 5)
theorem AR_k {T : Nat} {L : List Bk} {C D : am_M} (h : AR T L C D) : ∀ i, i < 13 → C 19 0 i = -1 ∨ wi (C 19 0 i) 5 := by
  intro i hi
  by_cases h0 : i = 0
  · rw [h0, h.2.2.1]
    by_cases e : D 10 0 37 = i3 T
    · rw [if_pos e]; exact h.2.2.2.2
    · rw [if_neg e]; exact Or.inl rfl
  · rcases h.2.1 i (by omega) hi with e | ⟨x, hx, e⟩
    · exact Or.inl e
    · have q := (h.1 x hx)
      have e2 := q.2.2.2
      rw [show x.1 - T = i by omega] at e2
      rw [e2]; exact Or.inr (wi_of (by omega) (by omega))
theorem fb_iff {T : Nat} {L : List Bk} {C D : am_M} (h : AR T L C D) (hT : T ≤ 1000000) (hF : RF C D) : fbc C ↔ fbd L D := by
  obtain ⟨h1, h2, h3, h4, h5⟩ := h
  refine ⟨fun ⟨i, hi, a, b, c⟩ => ?_, fun z => ?_⟩
  · obtain ⟨x, hx, ex⟩ := (h2 (i + 1) (by omega) (by omega)).resolve_left b
    obtain ⟨x1, x2, x3, x4⟩ := h1 x hx
    rw [show x.1 - T = i + 1 by omega] at x4
    by_cases h0 : i = 0
    · rw [h0] at a c x4
      rw [h3] at a c
      by_cases e : D 10 0 37 = i3 T
      · rw [if_pos e] at a c
        have w := h5.resolve_left a
        have := w.2
        refine Or.inl ⟨nt (D 10 0 38), by omega, w.1, x, hx, by rw [e, nt_i (by omega)]; omega, ?_⟩
        rw [x4, nt_i (by omega), (hF _ (by omega)).1, Nat.mul_comm] at c
        exact c
      · rw [if_neg e] at a; exact absurd rfl a
    · obtain ⟨y, hy, ey⟩ := (h2 i (by omega) (by omega)).resolve_left a
      obtain ⟨y1, y2, y3, y4⟩ := h1 y hy
      rw [show y.1 - T = i by omega] at y4
      refine Or.inr ⟨y, hy, x, hx, by omega, ?_⟩
      rw [x4, y4, nt_i (by omega), nt_i (by omega), (hF _ (by omega)).1, Nat.mul_comm] at c
      exact c
  · rcases z with ⟨u, u6, eu, x, hx, ex, c⟩ | ⟨y, hy, x, hx, ex, c⟩
    · obtain ⟨x1, x2, x3, x4⟩ := h1 x hx
      have e37 : nt (D 10 0 37) = T := by have := h4.2; omega
      have e : D 10 0 37 = i3 T := by rw [h4.1, e37]
      rw [if_pos e, eu] at h3
      rw [show x.1 - T = 0 + 1 by omega] at x4
      refine ⟨0, by omega, by rw [h3]; exact i3_nm (by omega), by rw [x4]; exact i3_nm (by omega), ?_⟩
      rw [h3, x4, nt_i (by omega), nt_i (by omega), (hF _ (by omega)).1, Nat.mul_comm]
      exact c
    · obtain ⟨x1, x2, x3, x4⟩ := h1 x hx
      obtain ⟨y1, y2, y3, y4⟩ := h1 y hy
      rw [show x.1 - T = (y.1 - T) + 1 by omega] at x4
      refine ⟨y.1 - T, by omega, by rw [y4]; exact i3_nm (by omega), by rw [x4]; exact i3_nm (by omega), ?_⟩
      rw [y4, x4, nt_i (by omega), nt_i (by omega), (hF _ (by omega)).1, Nat.mul_comm]
      exact c
