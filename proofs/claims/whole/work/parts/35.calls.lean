/-! ===== seal ===== -/
theorem sub_toInt {a b : Int32} (h1 : -2147483648 ≤ a.toInt - b.toInt) (h2 : a.toInt - b.toInt < 2147483648) : (a - b).toInt = a.toInt - b.toInt := by
  rw [Int32.toInt_sub]
  exact Int.bmod_eq_of_le (by omega) (by omega)
theorem m1_toInt {a : Int32} (h1 : -2147483647 ≤ a.toInt) : (-1 * a).toInt = -a.toInt := by
  have e : (-1 : Int32).toInt = -1 := by decide
  have h2 := a.toInt_lt
  rw [Int32.toInt_mul, e]
  rw [Int.bmod_eq_of_le (by omega) (by omega)]; omega
theorem mlt {a : Int32} (h : -1000000 ≤ a ∧ a ≤ 1000000) : -1000000 ≤ a.toInt ∧ a.toInt ≤ 1000000 := by
  have e1 : (-1000000 : Int32).toInt = -1000000 := by decide
  have e2 : (1000000 : Int32).toInt = 1000000 := by decide
  have h1 := Int32.le_iff_toInt_le.mp h.1
  have h2 := Int32.le_iff_toInt_le.mp h.2
  omega
theorem up1 {a b : Int32} (ha : -1000000 ≤ a ∧ a ≤ 1000000) (hb : -1000000 ≤ b ∧ b ≤ 1000000) : 0 < 1 * (a - b) ↔ b < a := by
  have h1 := mlt ha
  have h2 := mlt hb
  rw [Int32.one_mul, Int32.lt_iff_toInt_lt, Int32.lt_iff_toInt_lt, sub_toInt (by omega) (by omega), show (0 : Int32).toInt = 0 by decide]
  omega
theorem dn1 {a b : Int32} (ha : -1000000 ≤ a ∧ a ≤ 1000000) (hb : -1000000 ≤ b ∧ b ≤ 1000000) : 0 < -1 * (a - b) ↔ a < b := by
  have h1 := mlt ha
  have h2 := mlt hb
  have e := sub_toInt (a := a) (b := b) (by omega) (by omega)
  rw [Int32.lt_iff_toInt_lt, Int32.lt_iff_toInt_lt, m1_toInt (by omega), e, show (0 : Int32).toInt = 0 by decide]
  omega
def ups (D : am_M) (t p : Nat) : Prop := ∀ k, 1 ≤ k → k < p → D 33 0 (5 * t + k - 1) < D 33 0 (5 * t + k)
def dns (D : am_M) (t p : Nat) : Prop := ∀ k, 1 ≤ k → k < p → D 33 0 (5 * t + k) < D 33 0 (5 * t + k - 1)
theorem sX0_isMonotone {t p : Nat} {s : Int32} {M : am_M} (hp : M 0 t 2 = i3 p) (h1 : 1 ≤ p) (h5 : p ≤ 5) : fX0_isMonotone [.inr (0, t), .inl (.int s)] M = am_rI (bi (∀ k, 1 ≤ k → k < p → 0 < s * (M 12 t k - M 12 t (k - 1)))) M := by
  have ix : ∀ i, i3 (i + 1) - 1 = i3 i := fun i => by rw [show (1 : Int32) = i3 1 from rfl, i3_sub (by omega)]; rfl
  have lp := lp_find (r := fun m i => rX0_isMonotone m 2 [.inr (0, t), .inl (.int s), .inl (.int (i3 (i + 1)))] [] M) (N := p - 1) (c := 100) (P := fun i => ¬ 0 < s * (M 12 t (i + 1) - M 12 t i)) (yes := fun _ => (.inl (some (.inl (.int 0))), M)) (no := (.inl (some (.inl (.int 1))), M))
    (by
      intro i m hi hq
      exact qX0_isMonotone_2_2 (hge hp (by omega) (by omega)) (by omega) (j1 := i) (by omega) (ix i) hq)
    (by
      intro i m res hi hq k
      exact qX0_isMonotone_2_1 (hge hp (by omega) (by omega)) (by omega) (j1 := i) (by omega) (ix i) (Classical.byContradiction hq) k)
    (by
      intro m
      rw [show p - 1 + 1 = p by omega]
      exact qX0_isMonotone_2_0 (hen hp (by omega)))
    (p - 1) 0 (Nat.zero_add _)
  refine qX0_isMonotone_0 ?_
  rcases lp with ⟨j, _, hj, hq, _, hr⟩ | ⟨hq, hr⟩
  · rw [bi_f (fun q => hq (q (j + 1) (by omega) (by omega)))]
    exact hr 99900 (by omega)
  · rw [bi_t (fun k k1 kp => by
      have := Classical.byContradiction (hq (k - 1) (Nat.zero_le _) (by omega))
      rw [show k - 1 + 1 = k by omega] at this
      exact this)]
    exact hr 99900 (by omega)
def CG (D : am_M) (t : Nat) : Prop := 2 ≤ nt (D 34 0 t) ∧ (ups D t (nt (D 34 0 t)) ∨ dns D t (nt (D 34 0 t)))
theorem sX0_isComplete {C D : am_M} (hP : RP C D) {t : Nat} (ht : t < 4) : fX0_isComplete [.inr (0, t)] C = am_rI (bi (CG D t)) C := by
  obtain ⟨p1, p2, p3, p4, p5, p6, p7, p8, p9, p10⟩ := hP
  obtain ⟨e0, w⟩ := p4 t ht
  have e1 : C 0 t 2 = i3 (nt (D 34 0 t)) := e0.trans w.1
  have h5 := w.2
  unfold CG
  generalize nt (D 34 0 t) = p at *
  by_cases h2 : 2 ≤ p
  · have n2 : ¬ C 0 t 2 < 2 := by
      rw [e1]; intro q
      have := (i3_lt (b := 2) (by omega) (by decide)).mp q
      omega
    have cell : ∀ k, 1 ≤ k → k < p → C 12 t k = D 33 0 (5 * t + k) ∧ C 12 t (k - 1) = D 33 0 (5 * t + k - 1) := fun k a b =>
      ⟨(p5 t k ht (by omega)).2, by rw [(p5 t (k - 1) ht (by omega)).2, show 5 * t + (k - 1) = 5 * t + k - 1 by omega]⟩
    have bd : ∀ k, k < 5 → -1000000 ≤ D 33 0 (5 * t + k) ∧ D 33 0 (5 * t + k) ≤ 1000000 := fun k a => ⟨(p6 t k ht a).2.2.1, (p6 t k ht a).2.2.2⟩
    have bd1 : ∀ k, 1 ≤ k → k < 5 → -1000000 ≤ D 33 0 (5 * t + k - 1) ∧ D 33 0 (5 * t + k - 1) ≤ 1000000 := fun k a b => by
      have := bd (k - 1) (by omega)
      rw [show 5 * t + (k - 1) = 5 * t + k - 1 by omega] at this
      exact this
    have u := sX0_isMonotone (s := 1) e1 (by omega) h5
    have d := sX0_isMonotone (s := -1) e1 (by omega) h5
    rw [show bi (∀ k, 1 ≤ k → k < p → 0 < 1 * (C 12 t k - C 12 t (k - 1))) = bi (ups D t p) from bi_c ⟨fun q k a b => by
        have := q k a b
        rw [(cell k a b).1, (cell k a b).2, up1 (bd k (by omega)) (bd1 k a (by omega))] at this
        exact this, fun q k a b => by
        rw [(cell k a b).1, (cell k a b).2, up1 (bd k (by omega)) (bd1 k a (by omega))]
        exact q k a b⟩] at u
    rw [show bi (∀ k, 1 ≤ k → k < p → 0 < -1 * (C 12 t k - C 12 t (k - 1))) = bi (dns D t p) from bi_c ⟨fun q k a b => by
        have := q k a b
        rw [(cell k a b).1, (cell k a b).2, dn1 (bd k (by omega)) (bd1 k a (by omega))] at this
        exact this, fun q k a b => by
        rw [(cell k a b).1, (cell k a b).2, dn1 (bd k (by omega)) (bd1 k a (by omega))]
        exact q k a b⟩] at d
    by_cases hu : ups D t p
    · rw [bi_t hu] at u
      rw [bi_t ⟨h2, Or.inl hu⟩]
      exact qX0_isComplete_3 n2 u (by decide)
    · rw [bi_f hu] at u
      by_cases hd : dns D t p
      · rw [bi_t hd] at d
        rw [bi_t ⟨h2, Or.inr hd⟩]
        exact qX0_isComplete_2 n2 u rfl d (by decide)
      · rw [bi_f hd] at d
        rw [bi_f (fun q => q.2.elim hu hd)]
        exact qX0_isComplete_1 n2 u rfl d rfl
  · rw [bi_f (fun q => h2 q.1)]
    refine qX0_isComplete_0 ?_
    rw [e1]
    exact (i3_lt (b := 2) (by omega) (by decide)).mpr (by omega)
theorem sX10_curveGood {C D : am_M} (hP : RP C D) {t : Nat} (ht : t < 4) : fX10_curveGood [.inr (10, 0), .inl (.int (i3 t))] D = am_rI (bi (CG D t)) D := by
  have w := (hP.2.2.2.1 t ht).2
  have e1 : D 34 0 t = i3 (nt (D 34 0 t)) := w.1
  have h5 := w.2
  unfold CG
  generalize nt (D 34 0 t) = p at *
  have e5 : (5 : Int32) * i3 t = i3 (5 * t) := i3_mul 5 t
  have ee : 5 * i3 t + D 34 0 t = i3 (5 * t + p) := by rw [e5, e1, i3_add]
  have e0 : (5 : Int32) * i3 t + 1 = i3 (5 * t + 1) := by rw [e5, i3_one]
  by_cases h2 : 2 ≤ p
  · refine qX10_curveGood_1 ht rfl (by
      rw [e1]; intro q
      have := (i3_lt (b := 2) (by omega) (by decide)).mp q
      omega) ?_
    have main := lp_do (A := Int32 × Int32) (r := fun m i a => rX10_curveGood m 39 [.inr (10, 0), .inl (.int (i3 t)), .inl (.int a.1), .inl (.int a.2), .inl (.int (i3 (5 * t + (i + 1))))] [] D) (N := p - 1) (c := 100) (I := fun i a => a.1 = bi (ups D t (i + 1)) ∧ a.2 = bi (dns D t (i + 1))) ?_ (p - 1) 0 (1, 1) (Nat.zero_add _) ⟨(bi_t (fun k a b => by omega)).symm, (bi_t (fun k a b => by omega)).symm⟩
    · obtain ⟨a, ⟨ha1, ha2⟩, h⟩ := main
      rw [show p - 1 + 1 = p by omega] at ha1 ha2
      have fin : ∀ m, rX10_curveGood (m + 100) 39 [.inr (10, 0), .inl (.int (i3 t)), .inl (.int a.1), .inl (.int a.2), .inl (.int (i3 (5 * t + (p - 1 + 1))))] [] D = am_rI (bi (2 ≤ p ∧ (ups D t p ∨ dns D t p))) D := by
        intro m
        have he : 5 * i3 t + D 34 0 t ≤ i3 (5 * t + (p - 1 + 1)) := by
          rw [show 5 * t + (p - 1 + 1) = 5 * t + p by omega]; exact hen ee (by omega)
        by_cases hu : ups D t p
        · rw [bi_t ⟨h2, Or.inl hu⟩]
          exact qX10_curveGood_39_2 ht rfl he (by rw [ha1, bi_t hu]; decide)
        · by_cases hd : dns D t p
          · rw [bi_t ⟨h2, Or.inr hd⟩]
            exact qX10_curveGood_39_1 ht rfl he (by rw [ha1, bi_f hu]) (by rw [ha2, bi_t hd]; decide)
          · rw [bi_f (fun q => q.2.elim hu hd)]
            exact qX10_curveGood_39_0 ht rfl he (by rw [ha1, bi_f hu]) (by rw [ha2, bi_f hd])
      have := h (99900 - 100 * (p - 1)) _ (by
        have := fin (99900 - 100 * (p - 1) - 100)
        rw [show 99900 - 100 * (p - 1) - 100 + 100 = 99900 - 100 * (p - 1) by omega] at this
        exact this)
      rw [show 99900 - 100 * (p - 1) + 100 * (p - 1) = 99900 by omega] at this
      rw [e0]
      exact this
    · intro i a hi ha
      obtain ⟨ha1, ha2⟩ := ha
      have hh : ¬ 5 * i3 t + D 34 0 t ≤ i3 (5 * t + (i + 1)) := hge ee (by omega) (by omega)
      have ix : i3 (5 * t + (i + 1)) - 1 = i3 (5 * t + i) := by rw [show (1 : Int32) = i3 1 from rfl, i3_sub (by omega)]; rfl
      have upN : D 33 0 (5 * t + i) < D 33 0 (5 * t + (i + 1)) → (ups D t (i + 2) ↔ ups D t (i + 1)) := fun q => by
        refine ⟨fun u k a b => u k a (by omega), fun u k a b => ?_⟩
        by_cases e : k = i + 1
        · rw [e, show 5 * t + (i + 1) - 1 = 5 * t + i by omega]; exact q
        · exact u k a (by omega)
      have upF : ¬ D 33 0 (5 * t + i) < D 33 0 (5 * t + (i + 1)) → ¬ ups D t (i + 2) := fun q u => q (by
        have := u (i + 1) (by omega) (by omega)
        rw [show 5 * t + (i + 1) - 1 = 5 * t + i by omega] at this
        exact this)
      have dnN : D 33 0 (5 * t + (i + 1)) < D 33 0 (5 * t + i) → (dns D t (i + 2) ↔ dns D t (i + 1)) := fun q => by
        refine ⟨fun u k a b => u k a (by omega), fun u k a b => ?_⟩
        by_cases e : k = i + 1
        · rw [e, show 5 * t + (i + 1) - 1 = 5 * t + i by omega]; exact q
        · exact u k a (by omega)
      have dnF : ¬ D 33 0 (5 * t + (i + 1)) < D 33 0 (5 * t + i) → ¬ dns D t (i + 2) := fun q u => q (by
        have := u (i + 1) (by omega) (by omega)
        rw [show 5 * t + (i + 1) - 1 = 5 * t + i by omega] at this
        exact this)
      by_cases c1 : D 33 0 (5 * t + i) < D 33 0 (5 * t + (i + 1))
      · by_cases c2 : D 33 0 (5 * t + (i + 1)) < D 33 0 (5 * t + i)
        · exact ⟨(a.1, a.2), ⟨by rw [ha1]; exact (bi_c (upN c1)).symm, by rw [ha2]; exact (bi_c (dnN c2)).symm⟩, fun m res k => qX10_curveGood_39_3 ht rfl hh (by omega) (by omega) ix c1 c2 k⟩
        · exact ⟨(a.1, 0), ⟨by rw [ha1]; exact (bi_c (upN c1)).symm, (bi_f (dnF c2)).symm⟩, fun m res k => qX10_curveGood_39_4 ht rfl hh (by omega) (by omega) ix c1 c2 k⟩
      · by_cases c2 : D 33 0 (5 * t + (i + 1)) < D 33 0 (5 * t + i)
        · exact ⟨(0, a.2), ⟨(bi_f (upF c1)).symm, by rw [ha2]; exact (bi_c (dnN c2)).symm⟩, fun m res k => qX10_curveGood_39_5 ht rfl hh (by omega) (by omega) ix c1 c2 k⟩
        · exact ⟨(0, 0), ⟨(bi_f (upF c1)).symm, (bi_f (dnF c2)).symm⟩, fun m res k => qX10_curveGood_39_6 ht rfl hh (by omega) (by omega) ix c1 c2 k⟩
  · rw [bi_f (fun q => h2 q.1)]
    refine qX10_curveGood_0 ht rfl (by rw [e1]; exact (i3_lt (b := 2) (by omega) (by decide)).mpr (by omega)) ?_
    rw [e0]
    refine qX10_curveGood_39_0 (n := 99800) ht rfl ?_ rfl rfl
    rw [ee]
    exact (i3_le (by omega) (by omega)).mpr (by omega)
def RRt (F : Nat → Int32) (w : Nat) : Prop := 1 ≤ F (2 + 3 * w) ∧ 1 ≤ F (3 + 3 * w) ∧ F (3 + 3 * w) < F 7
theorem sX6_isReagentRight {t : Nat} {x : Int32} {M : am_M} {ds ag : Int32} (hd : fX6_doseOf [.inr (6, t), .inl (.int x)] M = am_rI ds M) (ha : fX6_ageOf [.inr (6, t), .inl (.int x)] M = am_rI ag M) : fX6_isReagentRight [.inr (6, t), .inl (.int x)] M = am_rI (bi (1 ≤ ds ∧ 1 ≤ ag ∧ ag < M 18 t 7)) M := by
  by_cases h1 : ds < 1
  · rw [bi_f (fun q => i3_nle.mpr h1 q.1)]; exact qX6_isReagentRight_0 hd h1
  by_cases h2 : ag < 1
  · rw [bi_f (fun q => i3_nle.mpr h2 q.2.1)]; exact qX6_isReagentRight_1 hd h1 ha h2
  by_cases h3 : M 18 t 7 ≤ ag
  · rw [bi_f (fun q => i3_nle.mpr q.2.2 h3)]; exact qX6_isReagentRight_2 hd h1 ha h2 ha h3
  · rw [bi_t ⟨i3_nlt.mp h1, i3_nlt.mp h2, i3_nle.mp h3⟩]; exact qX6_isReagentRight_3 hd h1 ha h2 ha h3
/-- what sealing asks of the fields -/
def FG (F : Nat → Int32) : Prop :=
  1 ≤ F 0 ∧ (F 1 = -1 ∧ F 4 = -1 ∨ ¬ F 1 = -1 ∧ RRt F 0 ∧ (F 4 = -1 ∨ RRt F 1 ∧ F 3 < F 6)) ∧
  (1 ≤ F 7 ∧ (if F 9 = 0 then 1 else 2 : Int32) ≤ F 8 - F 7 + 1 ∧ F 8 - F 7 + 1 ≤ 6) ∧ F 10 ≤ F 11 ∧
  (F 12 = 2 → F 0 - F 0 / F 13 * F 13 = 0)
theorem sX6_isComplete {C D : am_M} (hP : RP C D) {t : Nat} (ht : t < 4) : fX6_isComplete [.inr (6, t)] C = am_rI (bi (FG (C 18 t) ∧ CG D t)) C := by
  have h13 : 0 < C 18 t 13 := by
    rw [hP.1 t 13 ht (by decide)]
    have := (hP.2.1 t 13 ht (by decide)).1
    have e : am_st 27 13 = 2 := rfl
    rw [e, Int32.le_iff_toInt_le] at this
    rw [Int32.lt_iff_toInt_lt]
    have e2 : (2 : Int32).toInt = 2 := by decide
    have e0 : (0 : Int32).toInt = 0 := by decide
    omega
  by_cases h0 : C 18 t 0 < 1
  · rw [bi_f (fun q => i3_nle.mpr h0 q.1.1)]; exact qX6_isComplete_0 h0
  have dz0 : fX6_doseOf [.inr (6, t), .inl (.int 0)] C = am_rI (C 18 t 2) C := by rw [eX6_doseOf]; exact eX6_doseOf_0 rfl
  have dz1 : fX6_doseOf [.inr (6, t), .inl (.int 1)] C = am_rI (C 18 t 5) C := by rw [eX6_doseOf]; exact eX6_doseOf_0 rfl
  have az0 : fX6_ageOf [.inr (6, t), .inl (.int 0)] C = am_rI (C 18 t 3) C := by rw [eX6_ageOf]; exact eX6_ageOf_0 rfl
  have az1 : fX6_ageOf [.inr (6, t), .inl (.int 1)] C = am_rI (C 18 t 6) C := by rw [eX6_ageOf]; exact eX6_ageOf_0 rfl
  have r0 : fX6_isReagentRight [.inr (6, t), .inl (.int 0)] C = am_rI (bi (RRt (C 18 t) 0)) C := sX6_isReagentRight dz0 az0
  have r1 : fX6_isReagentRight [.inr (6, t), .inl (.int 1)] C = am_rI (bi (RRt (C 18 t) 1)) C := sX6_isReagentRight dz1 az1
  have rg : fX6_areReagentsRight [.inr (6, t)] C = am_rI (bi (C 18 t 1 = -1 ∧ C 18 t 4 = -1 ∨ ¬ C 18 t 1 = -1 ∧ RRt (C 18 t) 0 ∧ (C 18 t 4 = -1 ∨ RRt (C 18 t) 1 ∧ C 18 t 3 < C 18 t 6))) C := by
    by_cases a : C 18 t 1 = -1
    · by_cases b : C 18 t 4 = -1
      · rw [bi_t (Or.inl ⟨a, b⟩)]; exact qX6_areReagentsRight_0 a b
      · rw [bi_f (fun q => q.elim (fun q => b q.2) (fun q => q.1 a))]; exact qX6_areReagentsRight_1 a b
    · by_cases c : RRt (C 18 t) 0
      · have r0' := r0
        rw [bi_t c] at r0'
        by_cases b : C 18 t 4 = -1
        · rw [bi_t (Or.inr ⟨a, c, Or.inl b⟩)]; exact qX6_areReagentsRight_3 a r0' (by decide) b
        · by_cases d : RRt (C 18 t) 1
          · have r1' := r1
            rw [bi_t d] at r1'
            by_cases e : C 18 t 6 ≤ C 18 t 3
            · rw [bi_f (fun q => q.elim (fun q => a q.1) (fun q => q.2.2.elim b (fun q => i3_nle.mpr q.2 e)))]
              exact qX6_areReagentsRight_5 a r0' (by decide) b r1' (by decide) e
            · rw [bi_t (Or.inr ⟨a, c, Or.inr ⟨d, i3_nle.mp e⟩⟩)]
              exact qX6_areReagentsRight_6 a r0' (by decide) b r1' (by decide) e
          · have r1' := r1
            rw [bi_f d] at r1'
            rw [bi_f (fun q => q.elim (fun q => a q.1) (fun q => q.2.2.elim b (fun q => d q.1)))]
            exact qX6_areReagentsRight_4 a r0' (by decide) b r1' rfl
      · have r0' := r0
        rw [bi_f c] at r0'
        rw [bi_f (fun q => q.elim (fun q => a q.1) (fun q => c q.2.1))]
        exact qX6_areReagentsRight_2 a r0' rfl
  have rd : fX6_areReadingsRight [.inr (6, t)] C = am_rI (bi (1 ≤ C 18 t 7 ∧ (if C 18 t 9 = 0 then 1 else 2 : Int32) ≤ C 18 t 8 - C 18 t 7 + 1 ∧ C 18 t 8 - C 18 t 7 + 1 ≤ 6)) C := by
    by_cases a : C 18 t 9 = 0
    · rw [if_pos a]
      by_cases b : C 18 t 7 < 1
      · rw [bi_f (fun q => i3_nle.mpr b q.1)]; exact qX6_areReadingsRight_0 a b
      · by_cases c : 1 ≤ C 18 t 8 - C 18 t 7 + 1 ∧ C 18 t 8 - C 18 t 7 + 1 ≤ 6
        · rw [bi_t ⟨i3_nlt.mp b, c⟩]; exact qX6_areReadingsRight_2 a b c
        · rw [bi_f (fun q => c q.2)]; exact qX6_areReadingsRight_1 a b c
    · rw [if_neg a]
      by_cases b : C 18 t 7 < 1
      · rw [bi_f (fun q => i3_nle.mpr b q.1)]; exact qX6_areReadingsRight_3 a b
      · by_cases c : 2 ≤ C 18 t 8 - C 18 t 7 + 1 ∧ C 18 t 8 - C 18 t 7 + 1 ≤ 6
        · rw [bi_t ⟨i3_nlt.mp b, c⟩]; exact qX6_areReadingsRight_5 a b c
        · rw [bi_f (fun q => c q.2)]; exact qX6_areReadingsRight_4 a b c
  have dl : fX6_isDilutionRight [.inr (6, t)] C = am_rI (bi (C 18 t 12 = 2 → C 18 t 0 - C 18 t 0 / C 18 t 13 * C 18 t 13 = 0)) C := by
    by_cases a : C 18 t 12 = 2
    · have n0 : ¬ C 18 t 13 = 0 := fun q => by rw [q] at h13; exact absurd h13 (by decide)
      by_cases b : C 18 t 0 - C 18 t 0 / C 18 t 13 * C 18 t 13 = 0
      · rw [bi_t (fun _ => b)]; exact qX6_isDilutionRight_2 a (i3_nle.mpr h13) n0 b
      · rw [bi_f (fun q => b (q a))]; exact qX6_isDilutionRight_3 a (i3_nle.mpr h13) n0 b
    · rw [bi_t (fun q => absurd q a)]; exact qX6_isDilutionRight_0 a
  have cu := sX0_isComplete hP ht
  by_cases k1 : C 18 t 1 = -1 ∧ C 18 t 4 = -1 ∨ ¬ C 18 t 1 = -1 ∧ RRt (C 18 t) 0 ∧ (C 18 t 4 = -1 ∨ RRt (C 18 t) 1 ∧ C 18 t 3 < C 18 t 6)
  case neg =>
    rw [bi_f k1] at rg
    rw [bi_f (fun q => k1 q.1.2.1)]; exact qX6_isComplete_1 h0 rg rfl
  rw [bi_t k1] at rg
  by_cases k2 : 1 ≤ C 18 t 7 ∧ (if C 18 t 9 = 0 then 1 else 2 : Int32) ≤ C 18 t 8 - C 18 t 7 + 1 ∧ C 18 t 8 - C 18 t 7 + 1 ≤ 6
  case neg =>
    rw [bi_f k2] at rd
    rw [bi_f (fun q => k2 q.1.2.2.1)]; exact qX6_isComplete_2 h0 rg (by decide) rd rfl
  rw [bi_t k2] at rd
  by_cases k3 : C 18 t 11 < C 18 t 10
  · rw [bi_f (fun q => i3_nle.mpr k3 q.1.2.2.2.1)]; exact qX6_isComplete_3 h0 rg (by decide) rd (by decide) k3
  by_cases k4 : C 18 t 12 = 2 → C 18 t 0 - C 18 t 0 / C 18 t 13 * C 18 t 13 = 0
  case neg =>
    rw [bi_f k4] at dl
    rw [bi_f (fun q => k4 q.1.2.2.2.2)]; exact qX6_isComplete_4 h0 rg (by decide) rd (by decide) k3 dl rfl
  rw [bi_t k4] at dl
  by_cases k5 : CG D t
  · rw [bi_t k5] at cu
    rw [bi_t ⟨⟨i3_nlt.mp h0, k1, k2, i3_nlt.mp k3, k4⟩, k5⟩]; exact qX6_isComplete_6 h0 rg (by decide) rd (by decide) k3 dl (by decide) cu (by decide)
  · rw [bi_f k5] at cu
    rw [bi_f (fun q => k5 q.2)]; exact qX6_isComplete_5 h0 rg (by decide) rd (by decide) k3 dl (by decide) cu rfl
theorem wi_lt {a b : Int32} {m k : Nat} (ha : wi a m) (hb : wi b k) : a < b ↔ nt a < nt b := by
  have h := i3_lt (nt_lt a) (nt_lt b)
  rw [← ha.1, ← hb.1] at h; exact h
theorem wi_l1 {a : Int32} {m : Nat} (ha : wi a m) : 1 ≤ a ↔ 1 ≤ nt a := by
  have h := i3_le (a := 1) (by decide) (nt_lt a)
  rw [← ha.1] at h; exact h
theorem ages_toInt {a b : Int32} (ha : wi a 12) (hb : wi b 12) : (a - b + 1).toInt = (nt a : Int) - nt b + 1 := by
  have e1 : a.toInt = nt a := by rw [congrArg Int32.toInt ha.1]; exact i3_toInt (nt_lt a)
  have e2 : b.toInt = nt b := by rw [congrArg Int32.toInt hb.1]; exact i3_toInt (nt_lt b)
  have h1 := ha.2
  have h2 := hb.2
  have e3 : (a - b).toInt = (nt a : Int) - nt b := by rw [sub_toInt (by omega) (by omega), e1, e2]
  rw [Int32.toInt_add, e3, show (1 : Int32).toInt = 1 by decide]
  exact Int.bmod_eq_of_le (by omega) (by omega)
theorem sX10_reagentGood {D : am_M} {t w : Nat} (ht : t < 4) (hw : w < 2) : fX10_reagentGood [.inr (10, 0), .inl (.int (i3 t)), .inl (.int (i3 w))] D = am_rI (bi (0 ≤ fd D t (1 + 3 * w) → RRt (fd D t) w)) D := by
  have e : ∀ k : Nat, (3 : Int32) * i3 w + i3 k = i3 (k + 3 * w) := fun k => by
    show i3 3 * i3 w + i3 k = _
    rw [i3_mul, i3_add, Nat.add_comm]
  by_cases a : 0 ≤ fd D t (1 + 3 * w)
  · by_cases b : fd D t (2 + 3 * w) < 1
    · rw [bi_f (fun q => i3_nle.mpr b (q a).1)]; exact qX10_reagentGood_0 ht rfl (by omega) (e 1) a (by omega) (e 2) b
    by_cases c : fd D t (3 + 3 * w) < 1
    · rw [bi_f (fun q => i3_nle.mpr c (q a).2.1)]; exact qX10_reagentGood_1 ht rfl (by omega) (e 1) a (by omega) (e 2) b (by omega) (e 3) c
    by_cases d : fd D t 7 ≤ fd D t (3 + 3 * w)
    · rw [bi_f (fun q => i3_nle.mpr (q a).2.2 d)]; exact qX10_reagentGood_2 ht rfl (by omega) (e 1) a (by omega) (e 2) b (by omega) (e 3) c d
    · rw [bi_t (fun _ => ⟨i3_nlt.mp b, i3_nlt.mp c, i3_nle.mp d⟩)]; exact qX10_reagentGood_3 ht rfl (by omega) (e 1) a (by omega) (e 2) b (by omega) (e 3) c d
  · rw [bi_t (fun q => absurd q a)]; exact qX10_reagentGood_4 ht rfl (by omega) (e 1) a
def Q2 (F : Nat → Int32) : Prop := F 4 < 0 ∨ ¬ F 1 < 0 ∧ F 3 < F 6
def Q3 (F : Nat → Int32) : Prop := ¬ F 7 < 1 ∧ ¬ F 8 - F 7 + 1 < 1 ∧ ¬ 6 < F 8 - F 7 + 1 ∧ (F 9 ≤ 0 ∨ ¬ F 8 - F 7 + 1 < 2) ∧ F 10 ≤ F 11
def Q4 (F : Nat → Int32) : Prop := F 12 = 2 → F 0 - F 0 / F 13 * F 13 = 0
theorem seg184 {D : am_M} {t : Nat} (ht : t < 4) (h13 : ¬ fd D t 13 = 0) (P : Prop) (x3 : Int32) (m : Nat) : rX10_seal (m + 300) 184 [.inr (10, 0), .inl (.int (i3 t)), .inl (.int (bi P)), .inl (.int x3)] [.inl (.int (fd D t 12))] D = am_rI (bi (P ∧ Q4 (fd D t))) (am_put D 31 0 t (bi (P ∧ Q4 (fd D t)))) := by
  by_cases a : fd D t 12 = 2
  · by_cases b : fd D t 0 - fd D t 0 / fd D t 13 * fd D t 13 = 0
    · rw [show bi (P ∧ Q4 (fd D t)) = bi P from bi_c ⟨fun q => q.1, fun q => ⟨q, fun _ => b⟩⟩]
      exact qX10_seal_184_0 a ht rfl h13 b (bi_b _) (bi_b _)
    · rw [show bi (P ∧ Q4 (fd D t)) = 0 from bi_f (fun q => b (q.2 a))]
      exact qX10_seal_184_1 a ht rfl h13 b
  · rw [show bi (P ∧ Q4 (fd D t)) = bi P from bi_c ⟨fun q => q.1, fun q => ⟨q, fun r => absurd r a⟩⟩]
    exact qX10_seal_184_2 (n := m + 200) a ht rfl (bi_b _) (bi_b _)
theorem bi_n {P Q : Prop} (h : ¬ Q) : (0 : Int32) = bi (P ∧ Q) := (bi_f (fun q => h q.2)).symm
theorem bi_y {P Q : Prop} (h : Q) : bi P = bi (P ∧ Q) := bi_c ⟨fun q => ⟨q, h⟩, fun q => q.1⟩
theorem seg110 {D : am_M} {t : Nat} (ht : t < 4) (h13 : ¬ fd D t 13 = 0) (P : Prop) (m : Nat) : rX10_seal (m + 900) 110 [.inr (10, 0), .inl (.int (i3 t)), .inl (.int (bi P)), am_D] [.inl (.int (fd D t 8))] D = am_rI (bi ((P ∧ Q3 (fd D t)) ∧ Q4 (fd D t))) (am_put D 31 0 t (bi ((P ∧ Q3 (fd D t)) ∧ Q4 (fd D t)))) := by
  have fin := fun (k : Nat) => seg184 ht h13 (P ∧ Q3 (fd D t)) (fd D t 8 - fd D t 7 + 1) k
  by_cases a : fd D t 7 < 1
  · refine qX10_seal_110_0 (n := m + 600) ht rfl a ?_
    rw [bi_n (P := P) (Q := Q3 (fd D t)) (fun q => q.1 a)]; exact fin (m + 300)
  by_cases b : fd D t 8 - fd D t 7 + 1 < 1
  · refine qX10_seal_110_1 (n := m + 600) ht rfl a b ?_
    rw [bi_n (P := P) (Q := Q3 (fd D t)) (fun q => q.2.1 b)]; exact fin (m + 300)
  by_cases c : 6 < fd D t 8 - fd D t 7 + 1
  · refine qX10_seal_110_2 (n := m + 600) ht rfl a b c ?_
    rw [bi_n (P := P) (Q := Q3 (fd D t)) (fun q => q.2.2.1 c)]; exact fin (m + 300)
  by_cases d : fd D t 9 ≤ 0
  · by_cases e : fd D t 10 ≤ fd D t 11
    · refine qX10_seal_110_3 (n := m + 300) ht rfl a b c d e ?_
      rw [bi_y (P := P) (Q := Q3 (fd D t)) ⟨a, b, c, Or.inl d, e⟩]; exact fin m
    · refine qX10_seal_110_4 (n := m + 300) ht rfl a b c d e ?_
      rw [bi_n (P := P) (Q := Q3 (fd D t)) (fun q => e q.2.2.2.2)]; exact fin m
  · by_cases f : fd D t 8 - fd D t 7 + 1 < 2
    · refine qX10_seal_110_5 (n := m + 500) ht rfl a b c d f ?_
      rw [bi_n (P := P) (Q := Q3 (fd D t)) (fun q => q.2.2.2.1.elim d (fun r => r f))]; exact fin (m + 200)
    · by_cases e : fd D t 10 ≤ fd D t 11
      · refine qX10_seal_110_6 (n := m + 300) ht rfl a b c d f e ?_
        rw [bi_y (P := P) (Q := Q3 (fd D t)) ⟨a, b, c, Or.inr f, e⟩]; exact fin m
      · refine qX10_seal_110_7 (n := m + 300) ht rfl a b c d f e ?_
        rw [bi_n (P := P) (Q := Q3 (fd D t)) (fun q => e q.2.2.2.2)]; exact fin m
theorem seg73 {D : am_M} {t : Nat} (ht : t < 4) (h13 : ¬ fd D t 13 = 0) (P : Prop) (m : Nat) : rX10_seal (m + 1300) 73 [.inr (10, 0), .inl (.int (i3 t)), .inl (.int (bi P)), am_D] [.inl (.int (fd D t 4))] D = am_rI (bi (((P ∧ Q2 (fd D t)) ∧ Q3 (fd D t)) ∧ Q4 (fd D t))) (am_put D 31 0 t (bi (((P ∧ Q2 (fd D t)) ∧ Q3 (fd D t)) ∧ Q4 (fd D t)))) := by
  have fin := fun (k : Nat) => seg110 ht h13 (P ∧ Q2 (fd D t)) k
  by_cases a : fd D t 4 < 0
  · refine qX10_seal_73_0 (n := m + 1200) a ht rfl ?_
    rw [bi_y (P := P) (Q := Q2 (fd D t)) (Or.inl a)]; exact fin (m + 300)
  by_cases b : fd D t 1 < 0
  · refine qX10_seal_73_1 (n := m + 1100) a ht rfl b ?_
    rw [bi_n (P := P) (Q := Q2 (fd D t)) (fun q => q.elim a (fun q => q.1 b))]; exact fin (m + 200)
  by_cases c : fd D t 3 < fd D t 6
  · refine qX10_seal_73_2 (n := m + 900) a ht rfl b c ?_
    rw [bi_y (P := P) (Q := Q2 (fd D t)) (Or.inr ⟨b, c⟩)]; exact fin m
  · refine qX10_seal_73_3 (n := m + 900) a ht rfl b c ?_
    rw [bi_n (P := P) (Q := Q2 (fd D t)) (fun q => q.elim a (fun q => c q.2))]; exact fin m
theorem sX10_seal {C D : am_M} (hP : RP C D) {t : Nat} (ht : t < 4) (h03 : 0 ≤ i3 t ∧ i3 t ≤ 3) : fX10_seal [.inr (10, 0), .inl (.int (i3 t))] D = am_rI (bi (FG (fd D t) ∧ CG D t)) (am_put (am_put D 10 0 45 0) 31 0 t (bi (FG (fd D t) ∧ CG D t))) := by
  have h13 : ¬ fd D t 13 = 0 := fun q => by
    have := (hP.2.1 t 13 ht (by decide)).1
    rw [q] at this
    exact absurd this (by decide)
  have hP' : RP C (am_put D 10 0 45 0) := hP
  have r0 : fX10_reagentGood [.inr (10, 0), .inl (.int (i3 t)), .inl (.int 0)] (am_put D 10 0 45 0) = am_rI (bi (0 ≤ fd D t 1 → RRt (fd D t) 0)) (am_put D 10 0 45 0) := sX10_reagentGood (D := am_put D 10 0 45 0) ht (w := 0) (by decide)
  have r1 : fX10_reagentGood [.inr (10, 0), .inl (.int (i3 t)), .inl (.int 1)] (am_put D 10 0 45 0) = am_rI (bi (0 ≤ fd D t 4 → RRt (fd D t) 1)) (am_put D 10 0 45 0) := sX10_reagentGood (D := am_put D 10 0 45 0) ht (w := 1) (by decide)
  have cg : fX10_curveGood [.inr (10, 0), .inl (.int (i3 t))] (am_put D 10 0 45 0) = am_rI (bi (CG D t)) (am_put D 10 0 45 0) := sX10_curveGood hP' ht
  have fin : ∀ (P : Prop) (k : Nat), rX10_seal (k + 1300) 73 [.inr (10, 0), .inl (.int (i3 t)), .inl (.int (bi P)), am_D] [.inl (.int (fd D t 4))] (am_put D 10 0 45 0) = am_rI (bi (((P ∧ Q2 (fd D t)) ∧ Q3 (fd D t)) ∧ Q4 (fd D t))) (am_put (am_put D 10 0 45 0) 31 0 t (bi (((P ∧ Q2 (fd D t)) ∧ Q3 (fd D t)) ∧ Q4 (fd D t)))) := fun P k => seg73 (D := am_put D 10 0 45 0) ht h13 P k
  have eqv : (((((¬ fd D t 0 < 1 ∧ (0 ≤ fd D t 1 → RRt (fd D t) 0) ∧ (0 ≤ fd D t 4 → RRt (fd D t) 1) ∧ CG D t) ∧ Q2 (fd D t)) ∧ Q3 (fd D t)) ∧ Q4 (fd D t))) ↔ (FG (fd D t) ∧ CG D t) := by
    have k1 : fd D t 1 = -1 ∧ fd D t 1 < 0 ∨ ¬ fd D t 1 = -1 ∧ 0 ≤ fd D t 1 := by
      have := (hP.2.1 t 1 ht (by decide)).1
      have e : am_st 27 1 = -1 := rfl
      rw [e, Int32.le_iff_toInt_le, show (-1 : Int32).toInt = -1 by decide] at this
      by_cases q : fd D t 1 = -1
      · left; exact ⟨q, by rw [q]; decide⟩
      · right; refine ⟨q, ?_⟩
        rw [Int32.le_iff_toInt_le, show (0 : Int32).toInt = 0 by decide]
        have : ¬ (fd D t 1).toInt = -1 := fun r => q (Int32.toInt_inj.mp (by rw [r]; decide))
        omega
    have k4 : fd D t 4 = -1 ∧ fd D t 4 < 0 ∨ ¬ fd D t 4 = -1 ∧ 0 ≤ fd D t 4 := by
      have := (hP.2.1 t 4 ht (by decide)).1
      have e : am_st 27 4 = -1 := rfl
      rw [e, Int32.le_iff_toInt_le, show (-1 : Int32).toInt = -1 by decide] at this
      by_cases q : fd D t 4 = -1
      · left; exact ⟨q, by rw [q]; decide⟩
      · right; refine ⟨q, ?_⟩
        rw [Int32.le_iff_toInt_le, show (0 : Int32).toInt = 0 by decide]
        have : ¬ (fd D t 4).toInt = -1 := fun r => q (Int32.toInt_inj.mp (by rw [r]; decide))
        omega
    have k9 : fd D t 9 ≤ 0 ↔ fd D t 9 = 0 := by
      have := (hP.2.1 t 9 ht (by decide)).1
      have e : am_st 27 9 = 0 := rfl
      rw [e] at this
      refine ⟨fun q => ?_, fun q => by rw [q]; decide⟩
      rw [Int32.le_iff_toInt_le] at this q
      exact Int32.toInt_inj.mp (by omega)
    have three : Q3 (fd D t) ↔ (1 ≤ fd D t 7 ∧ (if fd D t 9 = 0 then 1 else 2 : Int32) ≤ fd D t 8 - fd D t 7 + 1 ∧ fd D t 8 - fd D t 7 + 1 ≤ 6) ∧ fd D t 10 ≤ fd D t 11 := by
      unfold Q3
      rw [i3_nlt, i3_nlt, i3_nlt, i3_nlt, k9]
      by_cases z : fd D t 9 = 0
      · rw [if_pos z]
        exact ⟨fun ⟨a, b, c, _, e⟩ => ⟨⟨a, b, c⟩, e⟩, fun ⟨⟨a, b, c⟩, e⟩ => ⟨a, b, c, Or.inl z, e⟩⟩
      · rw [if_neg z]
        refine ⟨fun ⟨a, b, c, d, e⟩ => ⟨⟨a, d.resolve_left z, c⟩, e⟩, fun ⟨⟨a, b, c⟩, e⟩ => ⟨a, ?_, c, Or.inr b, e⟩⟩
        rw [Int32.le_iff_toInt_le] at b ⊢
        have e1 : (1 : Int32).toInt = 1 := by decide
        have e2 : (2 : Int32).toInt = 2 := by decide
        omega
    rw [three, i3_nlt]
    unfold FG Q2 Q4
    rcases k1 with ⟨a1, a2⟩ | ⟨a1, a2⟩
    · have a3 : ¬ 0 ≤ fd D t 1 := i3_nle.mpr a2
      rcases k4 with ⟨b1, b2⟩ | ⟨b1, b2⟩
      · have b3 : ¬ 0 ≤ fd D t 4 := i3_nle.mpr b2
        exact ⟨fun ⟨⟨⟨⟨x0, _, _, x3⟩, _⟩, x5, x6⟩, x7⟩ => ⟨⟨x0, Or.inl ⟨a1, b1⟩, x5, x6, x7⟩, x3⟩, fun ⟨⟨x0, _, x5, x6, x7⟩, x3⟩ => ⟨⟨⟨⟨x0, fun q => absurd q a3, fun q => absurd q b3, x3⟩, Or.inl b2⟩, x5, x6⟩, x7⟩⟩
      · have b3 : ¬ fd D t 4 < 0 := i3_nlt.mpr b2
        exact ⟨fun ⟨⟨⟨_, x4⟩, _⟩, _⟩ => x4.elim (fun q => absurd q b3) (fun q => absurd a2 q.1), fun ⟨⟨_, x1, _⟩, _⟩ => x1.elim (fun q => absurd q.2 b1) (fun q => absurd a1 q.1)⟩
    · have a3 : ¬ fd D t 1 < 0 := i3_nlt.mpr a2
      rcases k4 with ⟨b1, b2⟩ | ⟨b1, b2⟩
      · have b3 : ¬ 0 ≤ fd D t 4 := i3_nle.mpr b2
        exact ⟨fun ⟨⟨⟨⟨x0, x1, _, x3⟩, _⟩, x5, x6⟩, x7⟩ => ⟨⟨x0, Or.inr ⟨a1, x1 a2, Or.inl b1⟩, x5, x6, x7⟩, x3⟩, fun ⟨⟨x0, x1, x5, x6, x7⟩, x3⟩ => ⟨⟨⟨⟨x0, fun _ => x1.elim (fun q => absurd q.1 a1) (fun q => q.2.1), fun q => absurd q b3, x3⟩, Or.inl b2⟩, x5, x6⟩, x7⟩⟩
      · have b3 : ¬ fd D t 4 < 0 := i3_nlt.mpr b2
        exact ⟨fun ⟨⟨⟨⟨x0, x1, x2, x3⟩, x4⟩, x5, x6⟩, x7⟩ => ⟨⟨x0, Or.inr ⟨a1, x1 a2, Or.inr ⟨x2 b2, x4.elim (fun q => absurd q b3) (fun q => q.2)⟩⟩, x5, x6, x7⟩, x3⟩, fun ⟨⟨x0, x1, x5, x6, x7⟩, x3⟩ => by
          rcases x1 with q | ⟨_, q1, q2⟩
          · exact absurd q.1 a1
          · rcases q2 with q2 | ⟨q2, q3⟩
            · exact absurd q2 b1
            · exact ⟨⟨⟨⟨x0, fun _ => q1, fun _ => q2, x3⟩, Or.inr ⟨a3, q3⟩⟩, x5, x6⟩, x7⟩⟩
  rw [← bi_c eqv]
  by_cases a : fd D t 0 < 1
  · refine qX10_seal_1 h03 ht rfl a ?_
    have := fin (¬ fd D t 0 < 1 ∧ (0 ≤ fd D t 1 → RRt (fd D t) 0) ∧ (0 ≤ fd D t 4 → RRt (fd D t) 1) ∧ CG D t) 98400
    rw [bi_f (p := ¬ fd D t 0 < 1 ∧ (0 ≤ fd D t 1 → RRt (fd D t) 0) ∧ (0 ≤ fd D t 4 → RRt (fd D t) 1) ∧ CG D t) (fun q => q.1 a)] at this
    exact this
  by_cases b : 0 ≤ fd D t 1 → RRt (fd D t) 0
  case neg =>
    rw [bi_f b] at r0
    refine qX10_seal_2 h03 ht rfl a r0 rfl ?_
    have := fin (¬ fd D t 0 < 1 ∧ (0 ≤ fd D t 1 → RRt (fd D t) 0) ∧ (0 ≤ fd D t 4 → RRt (fd D t) 1) ∧ CG D t) 98300
    rw [bi_f (p := ¬ fd D t 0 < 1 ∧ (0 ≤ fd D t 1 → RRt (fd D t) 0) ∧ (0 ≤ fd D t 4 → RRt (fd D t) 1) ∧ CG D t) (fun q => b q.2.1)] at this
    exact this
  rw [bi_t b] at r0
  by_cases c : 0 ≤ fd D t 4 → RRt (fd D t) 1
  case neg =>
    rw [bi_f c] at r1
    refine qX10_seal_3 h03 ht rfl a r0 (by decide) r1 rfl ?_
    have := fin (¬ fd D t 0 < 1 ∧ (0 ≤ fd D t 1 → RRt (fd D t) 0) ∧ (0 ≤ fd D t 4 → RRt (fd D t) 1) ∧ CG D t) 98200
    rw [bi_f (p := ¬ fd D t 0 < 1 ∧ (0 ≤ fd D t 1 → RRt (fd D t) 0) ∧ (0 ≤ fd D t 4 → RRt (fd D t) 1) ∧ CG D t) (fun q => c q.2.2.1)] at this
    exact this
  rw [bi_t c] at r1
  by_cases d : CG D t
  · rw [bi_t d] at cg
    refine qX10_seal_5 h03 ht rfl a r0 (by decide) r1 (by decide) cg (by decide) ?_
    have := fin (¬ fd D t 0 < 1 ∧ (0 ≤ fd D t 1 → RRt (fd D t) 0) ∧ (0 ≤ fd D t 4 → RRt (fd D t) 1) ∧ CG D t) 98100
    rw [bi_t (p := ¬ fd D t 0 < 1 ∧ (0 ≤ fd D t 1 → RRt (fd D t) 0) ∧ (0 ≤ fd D t 4 → RRt (fd D t) 1) ∧ CG D t) ⟨a, b, c, d⟩] at this
    exact this
  · rw [bi_f d] at cg
    refine qX10_seal_4 h03 ht rfl a r0 (by decide) r1 (by decide) cg rfl ?_
    have := fin (¬ fd D t 0 < 1 ∧ (0 ≤ fd D t 1 → RRt (fd D t) 0) ∧ (0 ≤ fd D t 4 → RRt (fd D t) 1) ∧ CG D t) 98100
    rw [bi_f (p := ¬ fd D t 0 < 1 ∧ (0 ≤ fd D t 1 → RRt (fd D t) 0) ∧ (0 ≤ fd D t 4 → RRt (fd D t) 1) ∧ CG D t) (fun q => d q.2.2.2)] at this
    exact this
theorem cmpl_of {C D : am_M} (hP : RP C D) {t : Nat} (ht : t < 4) (h : FG (fd D t)) (hc : CG D t) : cmpl D t := by
  obtain ⟨_, h1, ⟨h2, h3, h4⟩, _, _⟩ := h
  have w3 := RP_wi hP ht (f := 3) (m := 12) (by decide) rfl rfl (by decide)
  have w6 := RP_wi hP ht (f := 6) (m := 12) (by decide) rfl rfl (by decide)
  have w7 := RP_wi hP ht (f := 7) (m := 12) (by decide) rfl rfl (by decide)
  have w8 := RP_wi hP ht (f := 8) (m := 12) (by decide) rfl rfl (by decide)
  have ag := ages_toInt w8 w7
  have n7 := (wi_l1 w7).mp h2
  have h4' := Int32.le_iff_toInt_le.mp h4
  have h3' := Int32.le_iff_toInt_le.mp h3
  rw [ag, show (6 : Int32).toInt = 6 by decide] at h4'
  rw [ag] at h3'
  have e1 : (1 : Int32).toInt = 1 := by decide
  have e2 : (2 : Int32).toInt = 2 := by decide
  have lo : nt (fd D t 7) ≤ nt (fd D t 8) := by
    by_cases z : fd D t 9 = 0
    · rw [if_pos z] at h3'; omega
    · rw [if_neg z] at h3'; omega
  refine ⟨fun q => ?_, fun q => ?_, fun q => ?_, n7, lo, by omega, fun q => ?_, hc.1⟩
  · rcases h1 with r | r
    · exact r.2
    · exact absurd q r.1
  · rcases h1 with r | r
    · exact absurd r.1 q
    · exact ⟨(wi_l1 w3).mp r.2.1.2.1, (wi_lt w3 w7).mp r.2.1.2.2⟩
  · rcases h1 with r | r
    · exact absurd r.2 q
    · rcases r.2.2 with s | s
      · exact absurd s q
      · exact ⟨(wi_lt w3 w6).mp s.2, (wi_lt w6 w7).mp s.1.2.2⟩
  · have z : ¬ fd D t 9 = 0 := by rw [q]; decide
    rw [if_neg z] at h3'; omega
theorem J_seal {T : Nat} {C D : am_M} (h : St T C D) (x1 : Int32) : JO T (fL_seal [.inr (9, 0), .inl (.int x1), .inr (80, 0)] C) (fX10_seal [.inr (10, 0), .inl (.int x1)] D) := by
  obtain ⟨n, L, h⟩ := h
  by_cases h1 : 0 ≤ x1 ∧ x1 ≤ 3
  case neg => exact JO_no h (qL_seal_0 (qX9_seal_0 h1)) (qX10_seal_0 h1) (by decide)
  obtain ⟨t, ht, et⟩ := pl (m := 3) (by decide) h1
  have hP := h.1
  have c1 := sX6_isComplete hP ht
  have h03 := h1
  rw [et] at h03
  have d1 := sX10_seal hP ht h03
  rw [← et] at d1
  have ef : ∀ f, f < 16 → C 18 t f = fd D t f := fun f hf => hP.1 t f ht hf
  have eFG : FG (C 18 t) = FG (fd D t) := by
    unfold FG RRt
    rw [ef 0 (by decide), ef 1 (by decide), ef 4 (by decide), ef (2 + 3 * 0) (by decide), ef (3 + 3 * 0) (by decide), ef (2 + 3 * 1) (by decide), ef (3 + 3 * 1) (by decide), ef 7 (by decide), ef 9 (by decide), ef 8 (by decide), ef 10 (by decide), ef 11 (by decide), ef 12 (by decide), ef 13 (by decide)]
    try rfl
  rw [eFG] at c1
  have c2 := qX9_seal_1 h1 ht et c1 (bi_b _)
  rw [put_eq ⟨rfl, rfl, rfl⟩, bi_b] at c2
  have rel : Rel 1 40 40 T n L (am_put C 6 t 3 (bi (FG (fd D t) ∧ CG D t))) (am_put (am_put D 10 0 45 0) 31 0 t (bi (FG (fd D t) ∧ CG D t))) := by
    obtain ⟨_, hS, hF, hQ, hN, hO, hH, hC, hB⟩ := h
    obtain ⟨p1, p2, p3, p4, p5, p6, p7, p8, p9, p10⟩ := hP
    refine ⟨⟨p1, p2, fun t' ht' => ?_, p4, p5, p6, p7, p8, p9, fun t' ht' hs => ?_⟩, hS, hF, hQ, hN, hO, hH, hC, hB⟩
    · by_cases e : t' = t
      · rw [e, put_eq ⟨rfl, rfl, rfl⟩, put_eq ⟨rfl, rfl, rfl⟩]
        refine ⟨rfl, ?_⟩
        by_cases q : FG (fd D t) ∧ CG D t
        · right; exact bi_t q
        · left; exact bi_f q
      · rw [put_ne (by omega), put_ne (by omega)]; exact p3 t' ht'
    · by_cases e : t' = t
      · rw [e, put_eq ⟨rfl, rfl, rfl⟩] at hs
        have := bi_1.mp hs
        rw [e]
        exact cmpl_of (C := C) ⟨p1, p2, p3, p4, p5, p6, p7, p8, p9, p10⟩ ht this.1 this.2
      · rw [put_ne (by omega)] at hs
        exact p10 t' ht' hs
  by_cases g : FG (fd D t) ∧ CG D t
  · rw [bi_t g] at c2 d1 rel
    exact JO_ok (w := 1) rel (qL_seal_2 c2 (by decide)) d1 rfl
  · rw [bi_f g] at c2 d1 rel
    exact JO_ok (w := 0) rel (qL_seal_1 c2 rfl) d1 rfl
