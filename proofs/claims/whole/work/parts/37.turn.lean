/-! ===== step: the parts that stay, and the turn ===== -/
theorem RP_cg {C D C' D' : am_M} (h : RP C D) (hC : ∀ k, k ∈ [18, 6, 0, 11, 12, 2, 16] → C' k = C k) (hD : ∀ k, k ∈ [30, 31, 32, 33, 34, 35, 36] → D' k = D k) : RP C' D' := by
  unfold RP cmpl fd at h ⊢
  rw [hC 18 (by decide), hC 6 (by decide), hC 0 (by decide), hC 11 (by decide), hC 12 (by decide), hC 2 (by decide), hC 16 (by decide), hD 30 (by decide), hD 31 (by decide), hD 32 (by decide), hD 33 (by decide), hD 34 (by decide), hD 35 (by decide), hD 36 (by decide)]
  exact h
theorem RS_cg {C D C' D' : am_M} (h : RS C D) (c8 : C' 8 = C 8) (hD : ∀ k, k ∈ [37, 38, 39] → D' k = D k) : RS C' D' := by
  unfold RS at h ⊢
  rw [c8, hD 37 (by decide), hD 38 (by decide), hD 39 (by decide)]; exact h
theorem RF_cg {C D C' D' : am_M} (h : RF C D) (c21 : C' 21 = C 21) (d43 : D' 43 = D 43) : RF C' D' := by
  unfold RF at h ⊢
  rw [c21, d43]; exact h
theorem RQ_cg {L : List Bk} {C D C' D' : am_M} (h : RQ L C D) (c5 : C' 5 = C 5) (hD : ∀ k, k ∈ [40, 41, 42] → D' k = D k) : RQ L C' D' := by
  unfold RQ at h ⊢
  rw [c5, hD 40 (by decide), hD 41 (by decide), hD 42 (by decide)]; exact h
theorem RO_cg {n : Nat} {C D C' D' : am_M} (h : RO n C D) (c4 : C' 4 = C 4) (hD : ∀ k, k ∈ [45, 46, 47, 48, 49, 50, 51, 53, 57, 58, 30, 34] → D' k = D k) : RO n C' D' := by
  unfold RO cmpl fd at h ⊢
  rw [c4, hD 45 (by decide), hD 46 (by decide), hD 47 (by decide), hD 48 (by decide), hD 49 (by decide), hD 50 (by decide), hD 51 (by decide), hD 53 (by decide), hD 57 (by decide), hD 58 (by decide), hD 30 (by decide), hD 34 (by decide)]; exact h
theorem RH_cg {C D C' D' : am_M} (h : RH C D) (c3 : C' 3 = C 3) (c17 : C' 17 = C 17) (d48 : D' 48 = D 48) (d69 : D' 69 = D 69) (d10 : D' 10 0 40 = D 10 0 40) : RH C' D' := by
  unfold RH at h ⊢
  rw [c3, c17, d48, d69, d10]; exact h
/-- running orders are those in a cuvette -/
theorem run_c {lo ms jd T n : Nat} {L : List Bk} {C D : am_M} (hO : RO n C D) {o : Nat} (ho : o < n) (h : D 48 0 o = 1) : ∃ c, c < 10 ∧ D 51 0 o = i3 c := by
  have w := hO.2.2.2.2.2.2.2.2.1 o ho h
  exact ⟨nt (D 51 0 o), by have := w.2; omega, w.1⟩
theorem c_run {n : Nat} {C D : am_M} (hO : RO n C D) {o c : Nat} (ho : o < n) (hc : c < 10) (h : D 51 0 o = i3 c) : D 48 0 o = 1 := Classical.byContradiction fun r => by
  have := hO.2.2.2.2.2.2.2.1 o ho r
  rw [this] at h
  exact i3_nm (by omega) h.symm
theorem t4_of {n : Nat} {C D : am_M} (hO : RO n C D) {o : Nat} (ho : o < 40) : nt (D 46 0 o) < 4 := by
  have := (hO.2.1 o ho).1.2
  omega
/-- what a turn makes of a cuvette's cell -/
def trn (C : am_M) (c f : Nat) : Int32 := if f = 7 then (if C 1 c 5 = -1 then C 1 c 7 else C 1 c 7 + 1) else if f = 8 then (if C 1 c 5 = -1 ∧ ¬ C 1 c 8 ≤ 0 then C 1 c 8 - 1 else C 1 c 8) else C 1 c f
theorem sX7_turn (M : am_M) : ∃ M', fX7_turn [.inr (7, 0)] M = am_rV M' ∧ (∀ k, ¬ k = 19 → ¬ k = 20 → M' k = M k) ∧ (∀ i, i < 12 → M' 19 0 i = M 19 0 (i + 1) ∧ M' 20 0 i = M 20 0 (i + 1)) ∧ M' 19 0 12 = -1 ∧ M' 20 0 12 = -1 := by
  have main := lp_do (A := am_M) (r := fun m i M => rX7_turn m 2 [.inr (7, 0), .inl (.int (i3 i))] [] M) (N := 12) (c := 100) (I := fun i M1 => (∀ k, ¬ k = 19 → ¬ k = 20 → M1 k = M k) ∧ (∀ j, M1 19 0 j = (if j < i then M 19 0 (j + 1) else M 19 0 j) ∧ M1 20 0 j = (if j < i then M 20 0 (j + 1) else M 20 0 j))) ?_ 12 0 M rfl ⟨fun _ _ _ => rfl, fun j => ⟨rfl, rfl⟩⟩
  · obtain ⟨M1, ⟨h1, h2⟩, h3⟩ := main
    refine ⟨am_put (am_put M1 19 0 12 (-1)) 20 0 12 (-1), qX7_turn_0 (h3 98700 _ (qX7_turn_2_0 (n := 98600) (by decide))), fun k a b => ?_, fun i hi => ?_, rfl, rfl⟩
    · rw [← h1 k a b]
      funext u v
      rw [put_ne (fun e => b e.1), put_ne (fun e => a e.1)]
    · refine ⟨?_, ?_⟩
      · show am_put M1 19 0 12 (-1) 19 0 i = _
        rw [put_ne (by omega), (h2 i).1, if_pos hi]
      · rw [put_ne (by omega)]
        show M1 20 0 i = _
        rw [(h2 i).2, if_pos hi]
  · intro i M1 hi h
    obtain ⟨h1, h2⟩ := h
    refine ⟨am_put (am_put M1 19 0 i (M1 19 0 (i + 1))) 20 0 i (M1 20 0 (i + 1)), ⟨fun k a b => ?_, fun j => ?_⟩, fun m res k => qX7_turn_2_1 (hge (n := 12) rfl hi (by decide)) (j1 := i + 1) (by omega) (i3_one i) (by omega) k⟩
    · rw [← h1 k a b]
      funext u v
      rw [put_ne (fun e => b e.1), put_ne (fun e => a e.1)]
    · refine ⟨?_, ?_⟩
      · show am_put M1 19 0 i (M1 19 0 (i + 1)) 19 0 j = _
        by_cases e : j = i
        · rw [e, put_eq ⟨rfl, rfl, rfl⟩, (h2 (i + 1)).1, if_neg (by omega), if_pos (by omega)]
        · rw [put_ne (by omega), (h2 j).1]
          by_cases l : j < i
          · rw [if_pos l, if_pos (by omega)]
          · rw [if_neg l, if_neg (by omega)]
      · by_cases e : j = i
        · rw [e, put_eq ⟨rfl, rfl, rfl⟩, (h2 (i + 1)).2, if_neg (by omega), if_pos (by omega)]
        · rw [put_ne (by omega)]
          show M1 20 0 j = _
          rw [(h2 j).2]
          by_cases l : j < i
          · rw [if_pos l, if_pos (by omega)]
          · rw [if_neg l, if_neg (by omega)]
theorem sX9_turnDisc (C : am_M) : ∃ C', fX9_turnDisc [.inr (9, 0)] C = am_rV C' ∧ (∀ k, ¬ k = 1 → ¬ k = 19 → ¬ k = 20 → C' k = C k) ∧ (∀ c f, c < 10 → C' 1 c f = trn C c f) ∧ (∀ i, i < 12 → C' 19 0 i = C 19 0 (i + 1) ∧ C' 20 0 i = C 20 0 (i + 1)) ∧ C' 19 0 12 = -1 ∧ C' 20 0 12 = -1 := by
  have main := lp_do (A := am_M) (r := fun m i M => rX9_turnDisc m 2 [.inr (9, 0), .inl (.int (i3 i))] [] M) (N := 10) (c := 200) (I := fun i M1 => (∀ k, ¬ k = 1 → M1 k = C k) ∧ (∀ c f, M1 1 c f = if c < i then trn C c f else C 1 c f)) ?_ 10 0 C rfl ⟨fun _ _ => rfl, fun _ _ => rfl⟩
  · obtain ⟨M1, ⟨h1, h2⟩, h3⟩ := main
    obtain ⟨M2, t1, t2, t3, t4, t5⟩ := sX7_turn M1
    refine ⟨M2, qX9_turnDisc_0 (h3 97900 _ (qX9_turnDisc_2_0 (n := 97700) (by decide) t1)), fun k a b c => ?_, fun c f hc => ?_, fun i hi => ?_, t4, t5⟩
    · rw [t2 k b c, h1 k a]
    · rw [t2 1 (by decide) (by decide), h2 c f, if_pos hc]
    · rw [(t3 i hi).1, (t3 i hi).2, h1 19 (by decide), h1 20 (by decide)]; exact ⟨rfl, rfl⟩
  · intro i M1 hi h
    obtain ⟨h1, h2⟩ := h
    have r5 : M1 1 i 5 = C 1 i 5 := by rw [h2, if_neg (by omega)]
    have r7 : M1 1 i 7 = C 1 i 7 := by rw [h2, if_neg (by omega)]
    have r8 : M1 1 i 8 = C 1 i 8 := by rw [h2, if_neg (by omega)]
    have same : ∀ (M2 : am_M), (∀ c f, ¬ c = i → M2 1 c f = M1 1 c f) → (∀ f, M2 1 i f = trn C i f) → ∀ c f, M2 1 c f = if c < i + 1 then trn C c f else C 1 c f := by
      intro M2 q1 q2 c f
      by_cases e : c = i
      · rw [e, q2, if_pos (by omega)]
      · rw [q1 c f e, h2]
        by_cases l : c < i
        · rw [if_pos l, if_pos (by omega)]
        · rw [if_neg l, if_neg (by omega)]
    by_cases a : C 1 i 5 = -1
    · by_cases b : C 1 i 8 ≤ 0
      · refine ⟨M1, ⟨h1, same M1 (fun _ _ _ => rfl) (fun f => ?_)⟩, fun m res k => qX9_turnDisc_2_1 (hge (n := 10) rfl hi (by decide)) hi (qX1_turn_0 (r5.trans a) (by rw [r8]; exact b)) k⟩
        rw [h2, if_neg (by omega)]
        unfold trn
        by_cases e7 : f = 7
        · rw [if_pos e7, if_pos a, e7]
        · rw [if_neg e7]
          by_cases e8 : f = 8
          · rw [if_pos e8, if_neg (fun q => q.2 b), e8]
          · rw [if_neg e8]
      · refine ⟨am_put M1 1 i 8 (M1 1 i 8 - 1), ⟨fun k q => ?_, same _ (fun c f q => put_ne (by omega)) (fun f => ?_)⟩, fun m res k => qX9_turnDisc_2_1 (hge (n := 10) rfl hi (by decide)) hi (qX1_turn_1 (r5.trans a) (by rw [r8]; exact b)) k⟩
        · rw [← h1 k q]; funext u v; rw [put_ne (fun e => q e.1)]
        · unfold trn
          by_cases e8 : f = 8
          · rw [e8, put_eq ⟨rfl, rfl, rfl⟩, r8, if_neg (by decide), if_pos rfl, if_pos ⟨a, b⟩]
          · rw [put_ne (by omega), h2, if_neg (by omega)]
            by_cases e7 : f = 7
            · rw [if_pos e7, if_pos a, e7]
            · rw [if_neg e7, if_neg e8]
    · refine ⟨am_put M1 1 i 7 (M1 1 i 7 + 1), ⟨fun k q => ?_, same _ (fun c f q => put_ne (by omega)) (fun f => ?_)⟩, fun m res k => qX9_turnDisc_2_1 (hge (n := 10) rfl hi (by decide)) hi (qX1_turn_2 (by rw [r5]; exact a)) k⟩
      · rw [← h1 k q]; funext u v; rw [put_ne (fun e => q e.1)]
      · unfold trn
        by_cases e7 : f = 7
        · rw [e7, put_eq ⟨rfl, rfl, rfl⟩, r7, if_pos rfl, if_neg a]
        · rw [put_ne (by omega), h2, if_neg (by omega), if_neg e7]
          by_cases e8 : f = 8
          · rw [if_pos e8, if_neg (fun q => a q.1), e8]
          · rw [if_neg e8]
theorem sX10_goOn {n : Nat} (D : am_M) (hn : D 10 0 14 = i3 n) (h40 : n ≤ 40) : ∃ D', fX10_goOn [.inr (10, 0)] D = am_rV D' ∧ (∀ k, ¬ k = 59 → ¬ k = 52 → D' k = D k) ∧ (∀ c, c < 10 → D' 59 0 c = if D 59 0 c ≤ 0 then D 59 0 c else D 59 0 c - 1) ∧ (∀ o, D' 52 0 o = if o < n ∧ D 48 0 o = 1 then D 52 0 o + 1 else D 52 0 o) := by
  have two : ∀ D1 : am_M, (∀ k, ¬ k = 59 → D1 k = D k) → ∃ D', (∀ k, ¬ k = 59 → ¬ k = 52 → D' k = D k) ∧ D' 59 = D1 59 ∧ (∀ o, D' 52 0 o = if o < n ∧ D 48 0 o = 1 then D 52 0 o + 1 else D 52 0 o) ∧ ∀ m, 9000 ≤ m → rX10_goOn m 35 [.inr (10, 0), .inl (.int 0)] [] D1 = am_rV D' := by
    intro D1 hD1
    have main := lp_do (A := am_M) (r := fun m i M => rX10_goOn m 35 [.inr (10, 0), .inl (.int (i3 i))] [] M) (N := n) (c := 100) (I := fun i M1 => (∀ k, ¬ k = 52 → M1 k = D1 k) ∧ (∀ o, M1 52 0 o = if o < i ∧ D 48 0 o = 1 then D 52 0 o + 1 else D 52 0 o)) ?_ n 0 D1 (Nat.zero_add n) ⟨fun _ _ => rfl, fun o => by rw [if_neg (by omega), hD1 52 (by decide)]⟩
    · obtain ⟨M1, ⟨h1, h2⟩, h3⟩ := main
      refine ⟨M1, fun k a b => (h1 k b).trans (hD1 k a), h1 59 (by decide), h2, fun m hm => ?_⟩
      have := h3 (m - 100 * n) _ (mX10_goOn (qX10_goOn_35_0 (n := 0) (x1 := n) (by rw [h1 10 (by decide), hD1 10 (by decide)]; exact hen hn (by omega))) (by omega))
      rw [show m - 100 * n + 100 * n = m by omega] at this
      exact this
    · intro i M1 hi h
      obtain ⟨h1, h2⟩ := h
      have e14 : M1 10 0 14 = i3 n := by rw [h1 10 (by decide), hD1 10 (by decide)]; exact hn
      have e48 : M1 48 0 i = D 48 0 i := by rw [h1 48 (by decide), hD1 48 (by decide)]
      by_cases a : D 48 0 i = 1
      · refine ⟨am_put M1 52 0 i (M1 52 0 i + 1), ⟨fun k q => ?_, fun o => ?_⟩, fun m res k => qX10_goOn_35_1 (hge e14 hi (by omega)) (by omega) (e48.trans a) k⟩
        · rw [← h1 k q]; funext u v; rw [put_ne (fun e => q e.1)]
        · by_cases e : o = i
          · rw [e, put_eq ⟨rfl, rfl, rfl⟩, h2, if_neg (by omega), if_pos ⟨by omega, a⟩]
          · rw [put_ne (by omega), h2]
            by_cases l : o < i ∧ D 48 0 o = 1
            · rw [if_pos l, if_pos ⟨by omega, l.2⟩]
            · rw [if_neg l, if_neg (fun q => l ⟨by omega, q.2⟩)]
      · refine ⟨M1, ⟨h1, fun o => ?_⟩, fun m res k => qX10_goOn_35_2 (hge e14 hi (by omega)) (by omega) (by rw [e48]; exact a) k⟩
        rw [h2]
        by_cases l : o < i ∧ D 48 0 o = 1
        · rw [if_pos l, if_pos ⟨by omega, l.2⟩]
        · rw [if_neg l, if_neg (fun q => l ⟨by
            have : ¬ o = i := fun e => a (by rw [← e]; exact q.2)
            omega, q.2⟩)]
  have main := lp_do (A := am_M) (r := fun m i M => rX10_goOn m 2 [.inr (10, 0), .inl (.int (i3 i))] [] M) (N := 10) (c := 100) (I := fun i M1 => (∀ k, ¬ k = 59 → M1 k = D k) ∧ (∀ c, M1 59 0 c = if c < i ∧ ¬ D 59 0 c ≤ 0 then D 59 0 c - 1 else D 59 0 c)) ?_ 10 0 D rfl ⟨fun _ _ => rfl, fun c => by rw [if_neg (by omega)]⟩
  · obtain ⟨M1, ⟨h1, h2⟩, h3⟩ := main
    obtain ⟨D', t1, t2, t3, t4⟩ := two M1 h1
    refine ⟨D', qX10_goOn_0 (h3 98900 _ (qX10_goOn_2_0 (n := 98800) (by decide) (t4 _ (by decide)))), t1, fun c hc => ?_, t3⟩
    rw [t2, h2]
    by_cases a : D 59 0 c ≤ 0
    · rw [if_neg (fun q => q.2 a), if_pos a]
    · rw [if_pos ⟨hc, a⟩, if_neg a]
  · intro i M1 hi h
    obtain ⟨h1, h2⟩ := h
    have e59 : M1 59 0 i = D 59 0 i := by rw [h2, if_neg (by omega)]
    by_cases a : D 59 0 i ≤ 0
    · refine ⟨M1, ⟨h1, fun c => ?_⟩, fun m res k => qX10_goOn_2_1 (hge (n := 10) rfl hi (by decide)) hi (by rw [e59]; exact a) k⟩
      rw [h2]
      by_cases l : c < i ∧ ¬ D 59 0 c ≤ 0
      · rw [if_pos l, if_pos ⟨by omega, l.2⟩]
      · rw [if_neg l, if_neg (fun q => l ⟨by
          have : ¬ c = i := fun e => q.2 (by rw [e]; exact a)
          omega, q.2⟩)]
    · refine ⟨am_put M1 59 0 i (M1 59 0 i - 1), ⟨fun k q => ?_, fun c => ?_⟩, fun m res k => qX10_goOn_2_2 (hge (n := 10) rfl hi (by decide)) hi (by rw [e59]; exact a) k⟩
      · rw [← h1 k q]; funext u v; rw [put_ne (fun e => q e.1)]
      · by_cases e : c = i
        · rw [e, put_eq ⟨rfl, rfl, rfl⟩, e59, if_pos ⟨by omega, a⟩]
        · rw [put_ne (by omega), h2]
          by_cases l : c < i ∧ ¬ D 59 0 c ≤ 0
          · rw [if_pos l, if_pos ⟨by omega, l.2⟩]
          · rw [if_neg l, if_neg (fun q => l ⟨by omega, q.2⟩)]
