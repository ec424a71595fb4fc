/-! ===== a clean cuvette; the place of a reagent ===== -/
theorem sX9_cleanCuvette (M : am_M) : fX9_cleanCuvette [.inr (9, 0)] M = am_rI (fst1 (fun c => M 1 c 5 = -1 ∧ M 1 c 8 = 0) 10 0) M := by
  refine qX9_cleanCuvette_0 (lp_first (r := fun m i => rX9_cleanCuvette m 2 [.inr (9, 0), .inl (.int (i3 i))] [] M) (N := 10) (c := 200) ?_ ?_ ?_ 10 0 99900 rfl (by omega))
  · intro i m hi hp
    exact qX9_cleanCuvette_2_2 (hge (n := 10) rfl hi (by decide)) hi hp
  · intro i m res hi hp k
    exact qX9_cleanCuvette_2_1 (hge (n := 10) rfl hi (by decide)) hi hp k
  · intro m
    exact qX9_cleanCuvette_2_0 (n := m + 100) (hen rfl (by omega))
theorem sX10_clean {n : Nat} (M : am_M) (hn : M 10 0 14 = i3 n) (h40 : n ≤ 40) : fX10_clean [.inr (10, 0)] M = am_rI (fst1 (fun c => M 59 0 c = 0 ∧ ∀ o, o < n → ¬ M 51 0 o = i3 c) 10 0) M := by
  have inner : ∀ (c : Nat) (f : Int32), ∃ f' : Int32, (f' = 0 ↔ f = 0 ∨ ∃ o, o < n ∧ M 51 0 o = i3 c) ∧
      ∀ m res, rX10_clean m 25 [.inr (10, 0), .inl (.int (i3 c)), .inl (.int f'), .inl (.int (i3 n))] [] M = some res → rX10_clean (m + 100 * n) 25 [.inr (10, 0), .inl (.int (i3 c)), .inl (.int f), .inl (.int (i3 0))] [] M = some res := by
    intro c f
    refine lp_do (A := Int32) (r := fun m i a => rX10_clean m 25 [.inr (10, 0), .inl (.int (i3 c)), .inl (.int a), .inl (.int (i3 i))] [] M) (N := n) (c := 100) (I := fun i a => a = 0 ↔ f = 0 ∨ ∃ o, o < i ∧ M 51 0 o = i3 c) ?_ n 0 f (Nat.zero_add n) ⟨Or.inl, fun h => h.elim id (fun ⟨o, h, _⟩ => absurd h (Nat.not_lt_zero o))⟩
    intro i a hi ha
    by_cases h : M 51 0 i = i3 c
    · refine ⟨0, ⟨fun _ => Or.inr ⟨i, Nat.lt_succ_self i, h⟩, fun _ => rfl⟩, fun m res k => qX10_clean_25_2 (hge hn hi (by omega)) (by omega) h k⟩
    · refine ⟨a, ?_, fun m res k => qX10_clean_25_3 (hge hn hi (by omega)) (by omega) h k⟩
      rw [ha]
      refine ⟨fun q => q.elim Or.inl (fun ⟨o, h1, h2⟩ => Or.inr ⟨o, by omega, h2⟩), fun q => q.elim Or.inl (fun ⟨o, h1, h2⟩ => Or.inr ⟨o, ?_, h2⟩)⟩
      have : ¬ o = i := fun e => h (e ▸ h2)
      omega
  have start : ∀ (c : Nat), c < 10 → ∃ f : Int32, (f = 0 ↔ ¬ M 59 0 c = 0) ∧ ∀ m res x2 x3, rX10_clean m 25 [.inr (10, 0), .inl (.int (i3 c)), .inl (.int f), .inl (.int 0)] [] M = some res → rX10_clean (m + 100) 2 [.inr (10, 0), .inl (.int (i3 c)), x2, x3] [] M = some res := by
    intro c hc
    by_cases h : M 59 0 c = 0
    · exact ⟨1, ⟨fun q => absurd q (by decide), fun q => absurd h q⟩, fun m res x2 x3 k => qX10_clean_2_1 (hge (n := 10) rfl hc (by decide)) hc h k⟩
    · exact ⟨0, ⟨fun _ => h, fun _ => rfl⟩, fun m res x2 x3 k => qX10_clean_2_2 (hge (n := 10) rfl hc (by decide)) hc h k⟩
  have go : ∀ (k c m : Nat) (x2 x3 : am_V), c + k = 10 → 5000 * (k + 1) ≤ m → rX10_clean m 2 [.inr (10, 0), .inl (.int (i3 c)), x2, x3] [] M = am_rI (fst1 (fun c => M 59 0 c = 0 ∧ ∀ o, o < n → ¬ M 51 0 o = i3 c) k c) M := by
    intro k
    induction k with
    | zero =>
      intro c m x2 x3 hc hm
      rw [show m = (m - 100) + 100 by omega, show c = 10 by omega]
      exact qX10_clean_2_0 (hen rfl (by omega))
    | succ k ih =>
      intro c m x2 x3 hc hm
      obtain ⟨f, hf, h1⟩ := start c (by omega)
      obtain ⟨f', hf', h2⟩ := inner c f
      rw [show m = (m - 200 - 100 * n) + 100 + 100 * n + 100 by omega]
      refine h1 _ _ _ _ (h2 _ _ ?_)
      unfold fst1
      by_cases h : M 59 0 c = 0 ∧ ∀ o, o < n → ¬ M 51 0 o = i3 c
      · rw [if_pos h]
        refine qX10_clean_25_1 (hen hn (by omega)) (fun q => ?_)
        rcases hf'.1 q with q | ⟨o, q1, q2⟩
        · exact hf.1 q h.1
        · exact h.2 o q1 q2
      · rw [if_neg h]
        refine qX10_clean_25_0 (hen hn (by omega)) (hf'.2 ?_) (ih (c + 1) _ _ _ (by omega) (by omega))
        by_cases h5 : M 59 0 c = 0
        · refine Or.inr (Classical.byContradiction fun q => h ⟨h5, fun o q1 q2 => q ⟨o, q1, q2⟩⟩)
        · exact Or.inl (hf.2 h5)
  exact qX10_clean_0 (go 10 0 99900 _ _ rfl (by omega))
theorem clean_cg {lo ms jd T n : Nat} {L : List Bk} {C D : am_M} (h40 : n ≤ 40) (hC : RC lo ms jd T n L C D) : fst1 (fun c => C 1 c 5 = -1 ∧ C 1 c 8 = 0) 10 0 = fst1 (fun c => D 59 0 c = 0 ∧ ∀ o, o < n → ¬ D 51 0 o = i3 c) 10 0 := by
  refine fst1_cg 10 0 (fun c _ h2 => ?_)
  have hc : c < 10 := by omega
  refine ⟨fun ⟨q1, q2⟩ => ⟨(hC.1 c hc).1 ▸ q2, fun o ho e => ?_⟩, fun ⟨q1, q2⟩ => ⟨?_, (hC.1 c hc).1.trans q1⟩⟩
  · have := (hC.2.2 o c ho hc e).1
    rw [q1] at this
    exact i3_nm (by omega) this.symm
  · rcases hC.2.1 c hc with e | ⟨o, ho, _, e⟩
    · exact e
    · exact absurd e (q2 o ho)
/-- the best of k places: the first of the earliest end among those that will do -/
noncomputable def bst (ok : Nat → Prop) (e : Nat → Int32) : Nat → Int32
  | 0 => -1
  | k + 1 => @ite _ (ok k ∧ (bst ok e k = -1 ∨ e k < e (nt (bst ok e k)))) (Classical.propDecidable _) (i3 k) (bst ok e k)
theorem bst_spec {ok : Nat → Prop} {e : Nat → Int32} : ∀ k, bst ok e k = -1 ∨ ∃ j, j < k ∧ bst ok e k = i3 j ∧ ok j
  | 0 => Or.inl rfl
  | k + 1 => by
    unfold bst
    by_cases h : ok k ∧ (bst ok e k = -1 ∨ e k < e (nt (bst ok e k)))
    · rw [if_pos h]; exact Or.inr ⟨k, Nat.lt_succ_self k, rfl, h.1⟩
    · rw [if_neg h]
      rcases bst_spec (ok := ok) (e := e) k with q | ⟨j, h1, h2, h3⟩
      · exact Or.inl q
      · exact Or.inr ⟨j, by omega, h2, h3⟩
theorem bst_cg {ok ok' : Nat → Prop} {e e' : Nat → Int32} : ∀ k, k ≤ 1000 → (∀ p, p < k → (ok p ↔ ok' p)) → (∀ p, p < k → e p = e' p) → bst ok e k = bst ok' e' k
  | 0, _, _, _ => rfl
  | k + 1, hk, h1, h2 => by
    unfold bst
    have ih := bst_cg k (by omega) (fun p hp => h1 p (by omega)) (fun p hp => h2 p (by omega))
    have hx : (bst ok e k = -1 ∨ e k < e (nt (bst ok e k))) ↔ (bst ok' e' k = -1 ∨ e' k < e' (nt (bst ok' e' k))) := by
      rw [ih, h2 k (by omega)]
      rcases bst_spec (ok := ok') (e := e') k with q | ⟨j, q1, q2, _⟩
      · rw [q]; exact ⟨fun _ => Or.inl rfl, fun _ => Or.inl rfl⟩
      · rw [q2, nt_i (by omega), h2 j (by omega)]
    rw [propext (h1 k (by omega)), propext hx, ih]
theorem sX9_positionFor (t : Nat) (w h kd ds : Int32) (M : am_M) (hk : fX6_kindOf [.inr (6, t), .inl (.int w)] M = am_rI kd M) (hd : fX6_doseOf [.inr (6, t), .inl (.int w)] M = am_rI ds M) (h1 : ¬ kd = -1) :
    fX9_positionFor [.inr (9, 0), .inr (6, t), .inl (.int w), .inl (.int h)] M = am_rI (bst (fun p => M 5 p 0 = kd ∧ M 9 0 8 < M 5 p 3 ∧ ds + (if i3 p = h then M 18 t 2 else 0) ≤ M 5 p 1 - M 5 p 2) (fun p => M 5 p 3) 8) M := by
  refine qX9_positionFor_1 hk h1 ?_
  generalize hok : (fun p => M 5 p 0 = kd ∧ M 9 0 8 < M 5 p 3 ∧ ds + (if i3 p = h then M 18 t 2 else 0) ≤ M 5 p 1 - M 5 p 2) = ok
  have hokp : ∀ p, ok p ↔ (M 5 p 0 = kd ∧ M 9 0 8 < M 5 p 3 ∧ ds + (if i3 p = h then M 18 t 2 else 0) ≤ M 5 p 1 - M 5 p 2) := fun p => by rw [← hok]
  have main := lp_do (A := Int32 × am_V) (r := fun m i a => rX9_positionFor m 22 [.inr (9, 0), .inr (6, t), .inl (.int w), .inl (.int h), .inl (.int kd), .inl (.int a.1), .inl (.int (i3 i)), a.2] [] M) (N := 8) (c := 300) (I := fun i a => a.1 = bst ok (fun p => M 5 p 3) i) ?_ 8 0 (-1, am_D) rfl rfl
  · obtain ⟨a, ha, hh⟩ := main
    have := hh 97400 (.inl (some (.inl (.int a.1))), M) (qX9_positionFor_22_0 (n := 97300) (hen rfl (by omega)))
    rw [ha] at this
    exact this
  · intro i a hi ha
    obtain ⟨a, x7⟩ := a
    replace ha : a = bst ok (fun p => M 5 p 3) i := ha
    have hg : ¬ (8 : Int32) ≤ i3 i := hge (n := 8) rfl hi (by decide)
    have hnew : bst ok (fun p => M 5 p 3) (i + 1) = @ite _ (ok i ∧ (a = -1 ∨ M 5 i 3 < M 5 (nt a) 3)) (Classical.propDecidable _) (i3 i) a := by rw [ha]; rfl
    by_cases e : i3 i = h
    · have ho := hokp i
      rw [if_pos e] at ho
      by_cases h5 : ok i
      · by_cases h6 : a = -1
        · exact ⟨(i3 i, .inl (.int (ds + M 18 t 2))), by rw [hnew, if_pos ⟨h5, Or.inl h6⟩], fun m res k => qX9_positionFor_22_2 hg hd e hi (ho.1 h5) h6 k⟩
        · rcases bst_spec (ok := ok) (e := fun p => M 5 p 3) i with q | ⟨j, j1, j2, _⟩
          · exact absurd (ha.trans q) h6
          · have ej : a = i3 j := ha.trans j2
            have ejn : nt a = j := by rw [ej]; exact nt_i (by omega)
            by_cases h9 : M 5 j 3 ≤ M 5 i 3
            · exact ⟨(a, .inl (.int (ds + M 18 t 2))), by rw [hnew, if_neg (fun q => q.2.elim h6 (fun q => absurd h9 (i3_nle.2 (ejn ▸ q))))], fun m res k => qX9_positionFor_22_3 hg hd e hi (ho.1 h5) h6 (by omega) ej h9 k⟩
            · exact ⟨(i3 i, .inl (.int (ds + M 18 t 2))), by rw [hnew, if_pos ⟨h5, Or.inr (by rw [ejn]; exact i3_nle.1 h9)⟩], fun m res k => qX9_positionFor_22_4 hg hd e hi (ho.1 h5) h6 (by omega) ej h9 k⟩
      · exact ⟨(a, .inl (.int (ds + M 18 t 2))), by rw [hnew, if_neg (fun q => h5 q.1)], fun m res k => qX9_positionFor_22_1 hg hd e hi (fun q => h5 (ho.2 q)) k⟩
    · have ho := hokp i
      rw [if_neg e] at ho
      by_cases h5 : ok i
      · by_cases h6 : a = -1
        · exact ⟨(i3 i, .inl (.int (ds + 0))), by rw [hnew, if_pos ⟨h5, Or.inl h6⟩], fun m res k => qX9_positionFor_22_6 hg hd e hi (ho.1 h5) h6 k⟩
        · rcases bst_spec (ok := ok) (e := fun p => M 5 p 3) i with q | ⟨j, j1, j2, _⟩
          · exact absurd (ha.trans q) h6
          · have ej : a = i3 j := ha.trans j2
            have ejn : nt a = j := by rw [ej]; exact nt_i (by omega)
            by_cases h9 : M 5 j 3 ≤ M 5 i 3
            · exact ⟨(a, .inl (.int (ds + 0))), by rw [hnew, if_neg (fun q => q.2.elim h6 (fun q => absurd h9 (i3_nle.2 (ejn ▸ q))))], fun m res k => qX9_positionFor_22_7 hg hd e hi (ho.1 h5) h6 (by omega) ej h9 k⟩
            · exact ⟨(i3 i, .inl (.int (ds + 0))), by rw [hnew, if_pos ⟨h5, Or.inr (by rw [ejn]; exact i3_nle.1 h9)⟩], fun m res k => qX9_positionFor_22_8 hg hd e hi (ho.1 h5) h6 (by omega) ej h9 k⟩
      · exact ⟨(a, .inl (.int (ds + 0))), by rw [hnew, if_neg (fun q => h5 q.1)], fun m res k => qX9_positionFor_22_5 hg hd e hi (fun q => h5 (ho.2 q)) k⟩
theorem sX10_placeFor {L : List Bk} (x1 x2 : Int32) (M : am_M) (hb : M 10 0 36 = i3 L.length) (hl : L.length ≤ 24) (hc : ∀ b x, L[b]? = some x → bcell M b x) (hr : ∀ x, x ∈ L → x.2.2.1 < 8) :
    fX10_placeFor [.inr (10, 0), .inl (.int x1), .inl (.int x2)] M = am_rI (bst (fun p => M 40 0 p = x1 ∧ M 10 0 41 < M 42 0 p ∧ x2 ≤ M 41 0 p - i3 (rsv L p)) (fun p => M 42 0 p) 8) M := by
  refine qX10_placeFor_0 ?_
  generalize hok : (fun p => M 40 0 p = x1 ∧ M 10 0 41 < M 42 0 p ∧ x2 ≤ M 41 0 p - i3 (rsv L p)) = ok
  have hokp : ∀ p, ok p ↔ (M 40 0 p = x1 ∧ M 10 0 41 < M 42 0 p ∧ x2 ≤ M 41 0 p - i3 (rsv L p)) := fun p => by rw [← hok]
  have main := lp_do (A := Int32 × am_V) (r := fun m i a => rX10_placeFor m 5 [.inr (10, 0), .inl (.int x1), .inl (.int x2), .inl (.int a.1), .inl (.int (i3 i)), a.2] [] M) (N := 8) (c := 200) (I := fun i a => a.1 = bst ok (fun p => M 42 0 p) i) ?_ 8 0 (-1, am_D) rfl rfl
  · obtain ⟨a, ha, hh⟩ := main
    have := hh 98300 (.inl (some (.inl (.int a.1))), M) (qX10_placeFor_5_0 (n := 98200) (hen rfl (by omega)))
    rw [ha] at this
    exact this
  · intro i a hi ha
    obtain ⟨a, x5⟩ := a
    replace ha : a = bst ok (fun p => M 42 0 p) i := ha
    have hg : ¬ (8 : Int32) ≤ i3 i := hge (n := 8) rfl hi (by decide)
    have hnew : bst ok (fun p => M 42 0 p) (i + 1) = @ite _ (ok i ∧ (a = -1 ∨ M 42 0 i < M 42 0 (nt a))) (Classical.propDecidable _) (i3 i) a := by rw [ha]; rfl
    have ho := hokp i
    by_cases h3 : M 40 0 i = x1
    · by_cases h4 : M 42 0 i ≤ M 10 0 41
      · exact ⟨(a, .inl (.int 0)), by rw [hnew, if_neg (fun q => absurd h4 (i3_nle.2 (ho.1 q.1).2.1))], fun m res k => qX10_placeFor_5_1 (n := m + 100) hg hi h3 h4 (mX10_placeFor k (by omega))⟩
      · have hv := sX10_reserved (L := L) (D := M) (p := i) hi hb hl (fun b x h => ⟨(hc b x h).2.2.1, (hc b x h).2.2.2.1⟩) hr
        by_cases h6 : M 41 0 i - i3 (rsv L i) < x2
        · exact ⟨(a, .inl (.int 0)), by rw [hnew, if_neg (fun q => absurd h6 (i3_nlt.2 (ho.1 q.1).2.2))], fun m res k => qX10_placeFor_5_2 hg hi h3 h4 hv h6 k⟩
        · have h5 : ok i := ho.2 ⟨h3, i3_nle.1 h4, i3_nlt.1 h6⟩
          by_cases h7 : a = -1
          · exact ⟨(i3 i, .inl (.int 1)), by rw [hnew, if_pos ⟨h5, Or.inl h7⟩], fun m res k => qX10_placeFor_5_3 hg hi h3 h4 hv h6 (show a < 0 by rw [h7]; decide) k⟩
          · rcases bst_spec (ok := ok) (e := fun p => M 42 0 p) i with q | ⟨j, j1, j2, _⟩
            · exact absurd (ha.trans q) h7
            · have ej : a = i3 j := ha.trans j2
              have ejn : nt a = j := by rw [ej]; exact nt_i (by omega)
              have hna : ¬ a < 0 := by rw [ej]; exact i3_nl (by omega)
              by_cases h9 : M 42 0 j ≤ M 42 0 i
              · exact ⟨(a, .inl (.int 1)), by rw [hnew, if_neg (fun q => q.2.elim h7 (fun q => absurd h9 (i3_nle.2 (ejn ▸ q))))], fun m res k => qX10_placeFor_5_4 hg hi h3 h4 hv h6 hna (by omega) ej h9 k⟩
              · exact ⟨(i3 i, .inl (.int 1)), by rw [hnew, if_pos ⟨h5, Or.inr (by rw [ejn]; exact i3_nle.1 h9)⟩], fun m res k => qX10_placeFor_5_5 hg hi h3 h4 hv h6 hna (by omega) ej h9 k⟩
    · exact ⟨(a, .inl (.int 0)), by rw [hnew, if_neg (fun q => h3 (ho.1 q.1).1)], fun m res k => qX10_placeFor_5_6 (n := m + 100) hg hi h3 (mX10_placeFor k (by omega))⟩
