/-! ===== the small methods' answers ===== -/
theorem lc_gt {x y : Int64} : 0 < lg_cmp x y ↔ y < x := by
  unfold lg_cmp
  by_cases h : x > y
  · rw [if_pos h]; exact ⟨fun _ => h, fun _ => by decide⟩
  · rw [if_neg h]
    by_cases e : x = y
    · rw [if_pos e]; exact ⟨fun q => absurd q (by decide), fun q => absurd q h⟩
    · rw [if_neg e]; exact ⟨fun q => absurd q (by decide), fun q => absurd q h⟩
theorem lc_eq {x y : Int64} : lg_cmp x y = 0 ↔ x = y := by
  unfold lg_cmp
  by_cases h : x > y
  · rw [if_pos h]
    refine ⟨fun q => absurd q (by decide), fun q => ?_⟩
    rw [q] at h
    exact absurd (Int64.lt_iff_toInt_lt.mp h) (Int.lt_irrefl _)
  · rw [if_neg h]
    by_cases e : x = y
    · rw [if_pos e]; exact ⟨fun _ => e, fun _ => rfl⟩
    · rw [if_neg e]; exact ⟨fun q => absurd q (by decide), fun q => absurd q e⟩
theorem lc_lt {x y : Int64} : lg_cmp x y < 0 ↔ x < y := by
  unfold lg_cmp
  by_cases h : x > y
  · rw [if_pos h]
    refine ⟨fun q => absurd q (by decide), fun q => ?_⟩
    have h1 := Int64.lt_iff_toInt_lt.mp h
    have h2 := Int64.lt_iff_toInt_lt.mp q
    omega
  · rw [if_neg h]
    by_cases e : x = y
    · rw [if_pos e]
      refine ⟨fun q => absurd q (by decide), fun q => ?_⟩
      rw [e] at q
      exact absurd (Int64.lt_iff_toInt_lt.mp q) (Int.lt_irrefl _)
    · rw [if_neg e]
      refine ⟨fun _ => ?_, fun _ => by decide⟩
      rw [Int64.lt_iff_toInt_lt]
      have h1 : ¬ y.toInt < x.toInt := fun q => h (Int64.lt_iff_toInt_lt.mpr q)
      have h2 : ¬ x.toInt = y.toInt := fun q => e (Int64.toInt_inj.mp q)
      omega
theorem lc_le {x y : Int64} : lg_cmp x y ≤ 0 ↔ ¬ y < x := by
  rw [← lc_gt]; exact ⟨fun h q => i3_nle.mpr q h, fun h => i3_nlt.mp h⟩
theorem lc_ge {x y : Int64} : 0 ≤ lg_cmp x y ↔ ¬ x < y := by
  rw [← lc_lt]; exact ⟨fun h q => i3_nle.mpr q h, fun h => i3_nlt.mp h⟩
theorem sX0_accepts (x : Int32) (M : am_M) : fX0_accepts [.inl (.int x)] M = am_rI (bi (-1000000 ≤ x ∧ x ≤ 1000000)) M := by
  rw [eX0_accepts]; refine eX0_accepts_0 (ri (sX9_isWithin _ _ _ _) ?_)
  exact eX0_accepts_8 (am_finb (bi_b _))
theorem sX10_isTest (x : Int32) (M : am_M) : fX10_isTest [.inl (.int x)] M = am_rI (bi (0 ≤ x ∧ x ≤ 3)) M := by
  rw [eX10_isTest]; refine eX10_isTest_0 (ri (sX10_within _ _ _ _) ?_)
  exact eX10_isTest_6 (am_finb (bi_b _))
theorem sX4_isOpen (o : Nat) (M : am_M) : fX4_isOpen [.inr (4, o)] M = am_rI (bi (M 4 o 3 = 0 ∨ M 4 o 3 = 1)) M := by
  rw [eX4_isOpen]; refine eX4_isOpen_0 (ir (fun h => ?_) (fun h => ir (fun h2 => ?_) (fun h2 => ?_)))
  · rw [bi_t (Or.inl h)]
  · rw [bi_t (Or.inr h2)]
  · rw [bi_f (fun q => q.elim h h2)]
theorem sX8_isEmpty (s : Nat) (M : am_M) : fX8_isEmpty [.inr (8, s)] M = am_rI (bi (M 8 s 0 = -1)) M := by
  rw [eX8_isEmpty]; refine eX8_isEmpty_0 (ir (fun h => ?_) (fun h => ?_))
  · rw [bi_t h]
  · rw [bi_f h]
theorem sX5_isEmpty (s : Nat) (M : am_M) : fX5_isEmpty [.inr (5, s)] M = am_rI (bi (M 5 s 0 = -1)) M := by
  rw [eX5_isEmpty]; refine eX5_isEmpty_0 (ir (fun h => ?_) (fun h => ?_))
  · rw [bi_t h]
  · rw [bi_f h]
theorem sX1_isClean (c : Nat) (M : am_M) : fX1_isClean [.inr (1, c)] M = am_rI (bi (M 1 c 5 = -1 ∧ M 1 c 8 = 0)) M := by
  rw [eX1_isClean]; refine eX1_isClean_0 (ir (fun h => ir (fun h2 => ?_) (fun h2 => ?_)) (fun h => ?_))
  · rw [bi_t ⟨h, h2⟩]
  · rw [bi_f (fun q => h2 q.2)]
  · rw [bi_f (fun q => h q.1)]
theorem sX5_canGive (p : Nat) (k w m : Int32) (M : am_M) : fX5_canGive [.inr (5, p), .inl (.int k), .inl (.int w), .inl (.int m)] M = am_rI (bi (M 5 p 0 = k ∧ m < M 5 p 3 ∧ w ≤ M 5 p 1 - M 5 p 2)) M := by
  rw [eX5_canGive]; refine eX5_canGive_0 (ir (fun h => ir (fun h2 => ?_) (fun h2 => ir (fun h3 => ?_) (fun h3 => ?_))) (fun h => ?_))
  · rw [bi_f (fun q => i3_nlt.mpr h2 q.2.1)]
  · rw [bi_f (fun q => i3_nle.mpr h3 q.2.2)]
  · rw [bi_t ⟨h, i3_nle.mp h2, i3_nlt.mp h3⟩]
  · rw [bi_f (fun q => h q.1)]
theorem sX6_lacks0 (t : Nat) (x : Int32) (M : am_M) : fX6_lacks [.inr (6, t), .inl (.int 0), .inl (.int x)] M = am_rI (bi (¬ M 18 t 1 = -1 ∧ x = -1)) M := by
  rw [eX6_lacks]; refine eX6_lacks_0 (ri (v := M 18 t 1) (M := M) ?_ ?_)
  · rw [eX6_kindOf]; exact eX6_kindOf_0 rfl
  · refine eX6_lacks_5 (ir (fun h => ?_) (fun h => ir (fun h2 => ?_) (fun h2 => ?_)))
    · rw [bi_f (fun q => q.1 h)]
    · rw [bi_t ⟨h, h2⟩]
    · rw [bi_f (fun q => h2 q.2)]
theorem sX6_lacks1 (t : Nat) (x : Int32) (M : am_M) : fX6_lacks [.inr (6, t), .inl (.int 1), .inl (.int x)] M = am_rI (bi (¬ M 18 t 4 = -1 ∧ x = -1)) M := by
  rw [eX6_lacks]; refine eX6_lacks_0 (ri (v := M 18 t 4) (M := M) ?_ ?_)
  · rw [eX6_kindOf]; exact eX6_kindOf_0 rfl
  · refine eX6_lacks_5 (ir (fun h => ?_) (fun h => ir (fun h2 => ?_) (fun h2 => ?_)))
    · rw [bi_f (fun q => q.1 h)]
    · rw [bi_t ⟨h, h2⟩]
    · rw [bi_f (fun q => h2 q.2)]
theorem sX6_sampleVolume (t : Nat) (x : Int32) (M : am_M) (hd : 0 < M 18 t 13) : fX6_sampleVolume [.inr (6, t), .inl (.int x)] M = am_rI (if x = 0 then M 18 t 0 else M 18 t 0 / M 18 t 13) M := by
  rw [eX6_sampleVolume]; refine eX6_sampleVolume_0 (ir (fun h => ?_) (fun h => iq (fun q => i3_nle.mpr hd q) (iq (fun q => ?_) ?_)))
  · rw [if_pos h]
  · rw [q] at hd; exact absurd hd (by decide)
  · rw [if_neg h]
theorem sX6_isReadAt (t : Nat) (x : Int32) (M : am_M) : fX6_isReadAt [.inr (6, t), .inl (.int x)] M = am_rI (bi (M 18 t 7 ≤ x ∧ x ≤ M 18 t 8)) M := by
  rw [eX6_isReadAt]; refine eX6_isReadAt_0 (ri (sX9_isWithin _ _ _ _) ?_)
  exact eX6_isReadAt_18 (am_finb (bi_b _))
theorem sX6_isOverAt (t : Nat) (x : Int32) (M : am_M) : fX6_isOverAt [.inr (6, t), .inl (.int x)] M = am_rI (bi (M 18 t 8 < x)) M := by
  rw [eX6_isOverAt]; refine eX6_isOverAt_0 (ir (fun h => ?_) (fun h => ?_))
  · rw [bi_f (i3_nlt.mpr h)]
  · rw [bi_t (i3_nle.mp h)]
theorem sX6_dilutes (t : Nat) (M : am_M) : fX6_dilutes [.inr (6, t)] M = am_rI (bi (M 18 t 12 = 2)) M := by
  rw [eX6_dilutes]; refine eX6_dilutes_0 (ir (fun h => ?_) (fun h => ?_))
  · rw [bi_t h]
  · rw [bi_f h]
theorem sX6_limitFlags (t : Nat) (x : Int32) (M : am_M) : fX6_limitFlags [.inr (6, t), .inl (.int x)] M = am_rI ((if M 18 t 10 ≤ x then 0 else 1) + (if x ≤ M 18 t 11 then 0 else 2)) M := by
  rw [eX6_limitFlags]; refine eX6_limitFlags_0 (ir (fun h => ir (fun h2 => ?_) (fun h2 => ?_)) (fun h => ir (fun h2 => ?_) (fun h2 => ?_)))
  · rw [if_pos h, if_pos h2]; rfl
  · rw [if_pos h, if_neg h2]; rfl
  · rw [if_neg h, if_pos h2]; rfl
  · rw [if_neg h, if_neg h2]; rfl
theorem sX4_runFlags (o : Nat) (M : am_M) : fX4_runFlags [.inr (4, o)] M = am_rI ((if M 4 o 5 ≤ 1 then 0 else 8) + (if am_b (M 4 o 6) = 0 then 0 else 16)) M := by
  rw [eX4_runFlags]; refine eX4_runFlags_0 (ir (fun h => ir (fun h2 => ?_) (fun h2 => ?_)) (fun h => ir (fun h2 => ?_) (fun h2 => ?_)))
  · rw [if_pos h, if_pos h2]; rfl
  · rw [if_pos h, if_neg h2]; rfl
  · rw [if_neg h, if_pos h2]; rfl
  · rw [if_neg h, if_neg h2]; rfl
theorem sX6_asksAgain (t : Nat) (x : Int32) (M : am_M) : fX6_asksAgain [.inr (6, t), .inl (.int x)] M = am_rI (bi (M 18 t 12 = 2 ∧ ¬ (x &&& 2) = 0 ∨ M 18 t 12 = 1 ∧ ¬ (x &&& 3) = 0)) M := by
  rw [eX6_asksAgain]
  refine eX6_asksAgain_0 (ir (fun h => ir (fun h2 => ir (fun h3 => ?_) (fun h3 => ?_)) (fun h2 => ?_)) (fun h => ir (fun h2 => ir (fun h3 => ?_) (fun h3 => ?_)) (fun h2 => ?_)))
  · rw [h] at h3; exact absurd h3 (by decide)
  · rw [bi_f (fun q => q.elim (fun q => q.2 h2) (fun q => h3 q.1))]
  · rw [bi_t (Or.inl ⟨h, h2⟩)]
  · rw [bi_f (fun q => q.elim (fun q => h q.1) (fun q => q.2 h3))]
  · rw [bi_t (Or.inr ⟨h2, h3⟩)]
  · rw [bi_f (fun q => q.elim (fun q => h q.1) (fun q => h2 q.1))]
def lmt (x : Int64) : Int32 := if 1000000000 < x then 1000000000 else if x < -1000000000 then -1000000000 else x.toInt32
theorem sX9_limited (x : Int64) (M : am_M) : fX9_limited [.inl (.long x)] M = am_rI (lmt x) M := by
  rw [eX9_limited]
  refine eX9_limited_0 (rj (v := if x < 1000000000 then x else 1000000000) (M := M) ?_ ?_)
  · rw [eJ9_min_f86c9]
    refine eJ9_min_f86c9_0 (ir (fun h => ?_) (fun h => ?_))
    · rw [if_pos (lc_gt.mp h)]
    · rw [if_neg (fun q => h (lc_gt.mpr q))]
  refine eX9_limited_10 (rj (v := if -1000000000 < (if x < 1000000000 then x else 1000000000 : Int64) then (if x < 1000000000 then x else 1000000000) else -1000000000) (M := M) ?_ ?_)
  · rw [eJ9_max_f86c9]
    refine eJ9_max_f86c9_0 (ir (fun h => ?_) (fun h => ?_))
    · rw [if_pos (lc_lt.mp h)]
    · rw [if_neg (fun q => h (lc_lt.mpr q))]
  refine eX9_limited_13 ?_
  have key : (if -1000000000 < (if x < 1000000000 then x else 1000000000 : Int64) then (if x < 1000000000 then x else 1000000000) else -1000000000 : Int64).toInt32 = lmt x := by
    unfold lmt
    have e1 : (1000000000 : Int64).toInt = 1000000000 := by decide
    have e2 : (-1000000000 : Int64).toInt = -1000000000 := by decide
    by_cases h1 : x < 1000000000
    · have h1' := Int64.lt_iff_toInt_lt.mp h1
      rw [if_pos h1]
      have h3 : ¬ (1000000000 : Int64) < x := fun q => by
        have := Int64.lt_iff_toInt_lt.mp q
        omega
      rw [if_neg h3]
      by_cases h2 : -1000000000 < x
      · have h2' := Int64.lt_iff_toInt_lt.mp h2
        have h4 : ¬ x < -1000000000 := fun q => by
          have := Int64.lt_iff_toInt_lt.mp q
          omega
        rw [if_pos h2, if_neg h4]
      · rw [if_neg h2]
        by_cases h4 : x < -1000000000
        · rw [if_pos h4]; decide
        · rw [if_neg h4]
          have : x = -1000000000 := Int64.toInt_inj.mp (by
            have a : ¬ (-1000000000 : Int64).toInt < x.toInt := fun q => h2 (Int64.lt_iff_toInt_lt.mpr q)
            have b : ¬ x.toInt < (-1000000000 : Int64).toInt := fun q => h4 (Int64.lt_iff_toInt_lt.mpr q)
            omega)
          rw [this]
    · rw [if_neg h1]
      have a : ¬ x.toInt < (1000000000 : Int64).toInt := fun q => h1 (Int64.lt_iff_toInt_lt.mpr q)
      have h4 : ¬ x < -1000000000 := fun q => by
        have := Int64.lt_iff_toInt_lt.mp q
        omega
      rw [if_neg h4]
      by_cases h3 : (1000000000 : Int64) < x
      · rw [if_pos h3]; decide
      · rw [if_neg h3]
        have : x = 1000000000 := Int64.toInt_inj.mp (by
            have b : ¬ (1000000000 : Int64).toInt < x.toInt := fun q => h3 (Int64.lt_iff_toInt_lt.mpr q)
            omega)
        rw [this]; decide
  rw [key]
theorem sX6_accepts (x y : Int32) (M : am_M) : fX6_accepts [.inl (.int x), .inl (.int y)] M = am_rI (bi ((0 ≤ x ∧ x ≤ 15) ∧ am_st 27 x.toNatClampNeg ≤ y ∧ y ≤ am_st 28 x.toNatClampNeg)) M := by
  rw [eX6_accepts]; refine eX6_accepts_0 (ri (sX9_isWithin _ _ _ _) ?_)
  by_cases h : 0 ≤ x ∧ x ≤ 15
  · obtain ⟨j, hj, e⟩ := i3_ex (m := 15) (by decide) h.1 h.2
    have hi : am_in x 16 := ixi e (Nat.lt_succ_of_le hj) (by decide)
    refine eX6_accepts_7 (iq (fun q => bi_0.mp q h) (ip hi (ip hi (ri (sX9_isWithin _ _ _ _) ?_))))
    refine eX6_accepts_24 (ir (fun h2 => ?_) (fun h2 => ?_))
    · rw [bi_f (fun q => bi_0.mp h2 q.2)]
    · rw [bi_t ⟨h, Classical.byContradiction fun q => h2 (bi_f q)⟩]
  · refine eX6_accepts_7 (ip (bi_f h) ?_)
    rw [bi_f (fun q => h q.1)]
theorem sX10_of {X Y : Int32} {t f : Nat} (M : am_M) (hx : X = i3 t) (ht : t < 4) (hy : Y = i3 f) (hf : f < 16) : fX10_of [.inr (10, 0), .inl (.int X), .inl (.int Y)] M = am_rI (fd M t f) M := by
  have e : 16 * X + Y = i3 (16 * t + f) := by rw [hx, hy]; exact (congrArg (· + i3 f) (i3_mul 16 t)).trans (i3_add _ _)
  rw [eX10_of]; refine eX10_of_0 (ip (ixi e (by omega) (by decide)) ?_)
  rw [ixn (n := 64) e (by omega) (by decide)]
theorem sX9_cuvetteOf0 (o : Nat) (M : am_M) (h : M 4 o 7 = -1) : fX9_cuvetteOf [.inr (9, 0), .inr (4, o)] M = some (.inl (some (.inl .null)), M) := by
  rw [eX9_cuvetteOf]; refine eX9_cuvetteOf_0 (ri (sX9_isWithin _ _ _ _) ?_)
  refine eX9_cuvetteOf_10 (ip (bi_f (fun q => ?_)) rfl)
  rw [h] at q
  exact absurd q.1 (by decide)
theorem sX9_cuvetteOf1 (o : Nat) {c : Nat} (M : am_M) (h : M 4 o 7 = i3 c) (hc : c < 10) : fX9_cuvetteOf [.inr (9, 0), .inr (4, o)] M = some (.inl (some (.inr (1, c))), M) := by
  rw [eX9_cuvetteOf]; refine eX9_cuvetteOf_0 (ri (sX9_isWithin _ _ _ _) ?_)
  refine eX9_cuvetteOf_10 (iq (fun q => bi_0.mp q ?_) (ip (ixi h hc (by decide)) ?_))
  · rw [h]; exact ⟨i3_ge (by omega), (i3_le (b := 9) (by omega) (by decide)).mpr (by omega)⟩
  · rw [ixn (n := 10) h hc (by decide)]
