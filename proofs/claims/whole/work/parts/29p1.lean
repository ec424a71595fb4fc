/-! ===== the ways through the methods ===== -/
theorem qX9_define_0 {x1 : Int32} {x2 : Int32} {x3 : Int32} {M : am_M} (h1 : ¬ (0 ≤ x1 ∧ x1 ≤ 3)) : fX9_define [.inr (9, 0), .inl (.int x1), .inl (.int x2), .inl (.int x3)] M = am_rE "java/lang/IllegalArgumentException" M := by
  rw [eX9_define]
  refine eX9_define_0 ?_
  refine ri (sX9_isWithin _ _ _ _) ?_
  refine eX9_define_6 ?_
  refine ip (bi_f h1) ?_
  exact re rfl
theorem qX9_define_1 {x1 : Int32} {x2 : Int32} {x3 : Int32} {M : am_M} (h1 : 0 ≤ x1 ∧ x1 ≤ 3) (h2 : ¬ ((0 ≤ x2 ∧ x2 ≤ 15) ∧ am_st 27 (Int32.toNatClampNeg x2) ≤ x3 ∧ x3 ≤ am_st 28 (Int32.toNatClampNeg x2))) : fX9_define [.inr (9, 0), .inl (.int x1), .inl (.int x2), .inl (.int x3)] M = am_rE "java/lang/IllegalArgumentException" M := by
  rw [eX9_define]
  refine eX9_define_0 ?_
  refine ri (sX9_isWithin _ _ _ _) ?_
  refine eX9_define_6 ?_
  refine iq (fun e => bi_0.mp e h1) ?_
  refine ri (sX6_accepts _ _ _) ?_
  refine eX9_define_14 ?_
  refine ip (bi_f h2) ?_
  exact re rfl
theorem qX9_define_2 {x1 : Int32} {x2 : Int32} {x3 : Int32} {M : am_M} {v1 : Int32} {j1 : Nat} {j2 : Nat} (h1 : 0 ≤ x1 ∧ x1 ≤ 3) (h2 : (0 ≤ x2 ∧ x2 ≤ 15) ∧ am_st 27 (Int32.toNatClampNeg x2) ≤ x3 ∧ x3 ≤ am_st 28 (Int32.toNatClampNeg x2)) (h3 : fX9_isOrdered [.inr (9, 0), .inl (.int x1)] M = am_rI v1 M) (h4 : v1 = 0) (h5 : j1 < 4) (h6 : x1 = i3 j1) (h7 : j2 < 16) (h8 : x2 = i3 j2) : fX9_define [.inr (9, 0), .inl (.int x1), .inl (.int x2), .inl (.int x3)] M = am_rV (am_put (am_put M 18 j1 j2 x3) 6 j1 3 0) := by
  rw [eX9_define]
  refine eX9_define_0 ?_
  refine ri (sX9_isWithin _ _ _ _) ?_
  refine eX9_define_6 ?_
  refine iq (fun e => bi_0.mp e h1) ?_
  refine ri (sX6_accepts _ _ _) ?_
  refine eX9_define_14 ?_
  refine iq (fun e => bi_0.mp e h2) ?_
  refine rv rfl ?_
  refine eX9_define_25 ?_
  refine ri h3 ?_
  refine eX9_define_30 ?_
  refine ip h4 ?_
  refine rv rfl ?_
  refine eX9_define_41 ?_
  refine ip (ixi h6 h5 (by decide)) ?_
  try rw [ixn h6 h5 (by decide)]
  refine ip (ixi h8 h7 (by decide)) ?_
  try rw [ixn h8 h7 (by decide)]
  all_goals rfl
theorem qX9_define_3 {x1 : Int32} {x2 : Int32} {x3 : Int32} {M : am_M} {v1 : Int32} (h1 : 0 ≤ x1 ∧ x1 ≤ 3) (h2 : (0 ≤ x2 ∧ x2 ≤ 15) ∧ am_st 27 (Int32.toNatClampNeg x2) ≤ x3 ∧ x3 ≤ am_st 28 (Int32.toNatClampNeg x2)) (h3 : fX9_isOrdered [.inr (9, 0), .inl (.int x1)] M = am_rI v1 M) (h4 : ¬ (v1 = 0)) : fX9_define [.inr (9, 0), .inl (.int x1), .inl (.int x2), .inl (.int x3)] M = am_rE "java/lang/IllegalStateException" M := by
  rw [eX9_define]
  refine eX9_define_0 ?_
  refine ri (sX9_isWithin _ _ _ _) ?_
  refine eX9_define_6 ?_
  refine iq (fun e => bi_0.mp e h1) ?_
  refine ri (sX6_accepts _ _ _) ?_
  refine eX9_define_14 ?_
  refine iq (fun e => bi_0.mp e h2) ?_
  refine rv rfl ?_
  refine eX9_define_25 ?_
  refine ri h3 ?_
  refine eX9_define_30 ?_
  refine iq h4 ?_
  exact re rfl
theorem qX10_define_0 {x1 : Int32} {x2 : Int32} {x3 : Int32} {M : am_M} (h1 : ¬ (0 ≤ x1 ∧ x1 ≤ 3)) : fX10_define [.inr (10, 0), .inl (.int x1), .inl (.int x2), .inl (.int x3)] M = am_rV (am_put M 10 0 45 1) := by
  rw [eX10_define]
  refine eX10_define_0 ?_
  refine ri (sX10_isTest _ _) ?_
  refine eX10_define_5 ?_
  refine ip (bi_f h1) ?_
  all_goals rfl
theorem qX10_define_1 {x1 : Int32} {x2 : Int32} {x3 : Int32} {M : am_M} (h1 : 0 ≤ x1 ∧ x1 ≤ 3) (h2 : ¬ (0 ≤ x2 ∧ x2 ≤ 15)) : fX10_define [.inr (10, 0), .inl (.int x1), .inl (.int x2), .inl (.int x3)] M = am_rV (am_put M 10 0 45 1) := by
  rw [eX10_define]
  refine eX10_define_0 ?_
  refine ri (sX10_isTest _ _) ?_
  refine eX10_define_5 ?_
  refine iq (fun e => bi_0.mp e h1) ?_
  refine ri (sX10_within _ _ _ _) ?_
  refine eX10_define_15 ?_
  refine ip (bi_f h2) ?_
  all_goals rfl
theorem qX10_define_2 {x1 : Int32} {x2 : Int32} {x3 : Int32} {M : am_M} {v1 : Int32} (h1 : 0 ≤ x1 ∧ x1 ≤ 3) (h2 : 0 ≤ x2 ∧ x2 ≤ 15) (h3 : fX10_fits [.inl (.int x2), .inl (.int x3)] M = am_rI v1 M) (h4 : v1 = 0) : fX10_define [.inr (10, 0), .inl (.int x1), .inl (.int x2), .inl (.int x3)] M = am_rV (am_put M 10 0 45 1) := by
  rw [eX10_define]
  refine eX10_define_0 ?_
  refine ri (sX10_isTest _ _) ?_
  refine eX10_define_5 ?_
  refine iq (fun e => bi_0.mp e h1) ?_
  refine ri (sX10_within _ _ _ _) ?_
  refine eX10_define_15 ?_
  refine iq (fun e => bi_0.mp e h2) ?_
  refine ri h3 ?_
  refine eX10_define_23 ?_
  refine ip h4 ?_
  all_goals rfl
theorem qX10_define_3 {x1 : Int32} {x2 : Int32} {x3 : Int32} {M : am_M} {v1 : Int32} {v2 : Int32} {j1 : Nat} {j2 : Nat} (h1 : 0 ≤ x1 ∧ x1 ≤ 3) (h2 : 0 ≤ x2 ∧ x2 ≤ 15) (h3 : fX10_fits [.inl (.int x2), .inl (.int x3)] M = am_rI v1 M) (h4 : ¬ (v1 = 0)) (h5 : fX10_pending [.inr (10, 0), .inl (.int x1)] M = am_rI v2 M) (h6 : v2 = 0) (h7 : j1 < 64) (h8 : ((16 * x1) + x2) = i3 j1) (h9 : j2 < 4) (h10 : x1 = i3 j2) : fX10_define [.inr (10, 0), .inl (.int x1), .inl (.int x2), .inl (.int x3)] M = am_rV (am_put (am_put (am_put M 10 0 45 0) 30 0 j1 x3) 31 0 j2 0) := by
  rw [eX10_define]
  refine eX10_define_0 ?_
  refine ri (sX10_isTest _ _) ?_
  refine eX10_define_5 ?_
  refine iq (fun e => bi_0.mp e h1) ?_
  refine ri (sX10_within _ _ _ _) ?_
  refine eX10_define_15 ?_
  refine iq (fun e => bi_0.mp e h2) ?_
  refine ri h3 ?_
  refine eX10_define_23 ?_
  refine iq h4 ?_
  refine ri h5 ?_
  refine eX10_define_35 ?_
  refine ip h6 ?_
  refine ip (ixi h8 h7 (by decide)) ?_
  try rw [ixn h8 h7 (by decide)]
  refine ip ⟨(ixi h10 h9 (by decide)), rfl⟩ ?_
  try rw [ixn h10 h9 (by decide)]
  all_goals rfl
theorem qX10_define_4 {x1 : Int32} {x2 : Int32} {x3 : Int32} {M : am_M} {v1 : Int32} {v2 : Int32} (h1 : 0 ≤ x1 ∧ x1 ≤ 3) (h2 : 0 ≤ x2 ∧ x2 ≤ 15) (h3 : fX10_fits [.inl (.int x2), .inl (.int x3)] M = am_rI v1 M) (h4 : ¬ (v1 = 0)) (h5 : fX10_pending [.inr (10, 0), .inl (.int x1)] M = am_rI v2 M) (h6 : ¬ (v2 = 0)) : fX10_define [.inr (10, 0), .inl (.int x1), .inl (.int x2), .inl (.int x3)] M = am_rV (am_put M 10 0 45 2) := by
  rw [eX10_define]
  refine eX10_define_0 ?_
  refine ri (sX10_isTest _ _) ?_
  refine eX10_define_5 ?_
  refine iq (fun e => bi_0.mp e h1) ?_
  refine ri (sX10_within _ _ _ _) ?_
  refine eX10_define_15 ?_
  refine iq (fun e => bi_0.mp e h2) ?_
  refine ri h3 ?_
  refine eX10_define_23 ?_
  refine iq h4 ?_
  refine ri h5 ?_
  refine eX10_define_35 ?_
  refine iq h6 ?_
  all_goals rfl
theorem qX10_fits_0 {x0 : Int32} {x1 : Int32} {M : am_M} (h1 : x0 = 0) : fX10_fits [.inl (.int x0), .inl (.int x1)] M = am_rI (bi (0 ≤ x1 ∧ x1 ≤ 500)) M := by
  rw [eX10_fits]
  refine eX10_fits_0 ?_
  refine ip h1 ?_
  refine ri (sX10_within _ _ _ _) ?_
  refine eX10_fits_88 ?_
  exact am_finb (bi_b _)
theorem qX10_fits_1 {x0 : Int32} {x1 : Int32} {M : am_M} (h1 : ¬ (x0 = 0)) (h2 : x0 = 1) : fX10_fits [.inl (.int x0), .inl (.int x1)] M = am_rI (bi ((-1) ≤ x1 ∧ x1 ≤ 5)) M := by
  rw [eX10_fits]
  refine eX10_fits_0 ?_
  refine iq h1 ?_
  refine ip h2 ?_
  refine ri (sX10_within _ _ _ _) ?_
  refine eX10_fits_95 ?_
  exact am_finb (bi_b _)
theorem qX10_fits_2 {x0 : Int32} {x1 : Int32} {M : am_M} (h1 : ¬ (x0 = 0)) (h2 : ¬ (x0 = 1)) (h3 : x0 = 2) : fX10_fits [.inl (.int x0), .inl (.int x1)] M = am_rI (bi (0 ≤ x1 ∧ x1 ≤ 2000)) M := by
  rw [eX10_fits]
  refine eX10_fits_0 ?_
  refine iq h1 ?_
  refine iq h2 ?_
  refine ip h3 ?_
  refine ri (sX10_within _ _ _ _) ?_
  refine eX10_fits_104 ?_
  exact am_finb (bi_b _)
theorem qX10_fits_3 {x0 : Int32} {x1 : Int32} {M : am_M} (h1 : ¬ (x0 = 0)) (h2 : ¬ (x0 = 1)) (h3 : ¬ (x0 = 2)) (h4 : x0 = 3) : fX10_fits [.inl (.int x0), .inl (.int x1)] M = am_rI (bi (0 ≤ x1 ∧ x1 ≤ 12)) M := by
  rw [eX10_fits]
  refine eX10_fits_0 ?_
  refine iq h1 ?_
  refine iq h2 ?_
  refine iq h3 ?_
  refine ip h4 ?_
  refine ri (sX10_within _ _ _ _) ?_
  refine eX10_fits_112 ?_
  exact am_finb (bi_b _)
theorem qX10_fits_4 {x0 : Int32} {x1 : Int32} {M : am_M} (h1 : ¬ (x0 = 0)) (h2 : ¬ (x0 = 1)) (h3 : ¬ (x0 = 2)) (h4 : ¬ (x0 = 3)) (h5 : x0 = 4) : fX10_fits [.inl (.int x0), .inl (.int x1)] M = am_rI (bi ((-1) ≤ x1 ∧ x1 ≤ 5)) M := by
  rw [eX10_fits]
  refine eX10_fits_0 ?_
  refine iq h1 ?_
  refine iq h2 ?_
  refine iq h3 ?_
  refine iq h4 ?_
  refine ip h5 ?_
  refine ri (sX10_within _ _ _ _) ?_
  refine eX10_fits_95 ?_
  exact am_finb (bi_b _)
theorem qX10_fits_5 {x0 : Int32} {x1 : Int32} {M : am_M} (h1 : ¬ (x0 = 0)) (h2 : ¬ (x0 = 1)) (h3 : ¬ (x0 = 2)) (h4 : ¬ (x0 = 3)) (h5 : ¬ (x0 = 4)) (h6 : x0 = 5) : fX10_fits [.inl (.int x0), .inl (.int x1)] M = am_rI (bi (0 ≤ x1 ∧ x1 ≤ 2000)) M := by
  rw [eX10_fits]
  refine eX10_fits_0 ?_
  refine iq h1 ?_
  refine iq h2 ?_
  refine iq h3 ?_
  refine iq h4 ?_
  refine iq h5 ?_
  refine ip h6 ?_
  refine ri (sX10_within _ _ _ _) ?_
  refine eX10_fits_104 ?_
  exact am_finb (bi_b _)
theorem qX10_fits_6 {x0 : Int32} {x1 : Int32} {M : am_M} (h1 : ¬ (x0 = 0)) (h2 : ¬ (x0 = 1)) (h3 : ¬ (x0 = 2)) (h4 : ¬ (x0 = 3)) (h5 : ¬ (x0 = 4)) (h6 : ¬ (x0 = 5)) (h7 : x0 = 6) : fX10_fits [.inl (.int x0), .inl (.int x1)] M = am_rI (bi (0 ≤ x1 ∧ x1 ≤ 12)) M := by
  rw [eX10_fits]
  refine eX10_fits_0 ?_
  refine iq h1 ?_
  refine iq h2 ?_
  refine iq h3 ?_
  refine iq h4 ?_
  refine iq h5 ?_
  refine iq h6 ?_
  refine ip h7 ?_
  refine ri (sX10_within _ _ _ _) ?_
  refine eX10_fits_112 ?_
  exact am_finb (bi_b _)
theorem qX10_fits_7 {x0 : Int32} {x1 : Int32} {M : am_M} (h1 : ¬ (x0 = 0)) (h2 : ¬ (x0 = 1)) (h3 : ¬ (x0 = 2)) (h4 : ¬ (x0 = 3)) (h5 : ¬ (x0 = 4)) (h6 : ¬ (x0 = 5)) (h7 : ¬ (x0 = 6)) (h8 : x0 = 7) : fX10_fits [.inl (.int x0), .inl (.int x1)] M = am_rI (bi (0 ≤ x1 ∧ x1 ≤ 12)) M := by
  rw [eX10_fits]
  refine eX10_fits_0 ?_
  refine iq h1 ?_
  refine iq h2 ?_
  refine iq h3 ?_
  refine iq h4 ?_
  refine iq h5 ?_
  refine iq h6 ?_
  refine iq h7 ?_
  refine ip h8 ?_
  refine ri (sX10_within _ _ _ _) ?_
  refine eX10_fits_112 ?_
  exact am_finb (bi_b _)
theorem qX10_fits_8 {x0 : Int32} {x1 : Int32} {M : am_M} (h1 : ¬ (x0 = 0)) (h2 : ¬ (x0 = 1)) (h3 : ¬ (x0 = 2)) (h4 : ¬ (x0 = 3)) (h5 : ¬ (x0 = 4)) (h6 : ¬ (x0 = 5)) (h7 : ¬ (x0 = 6)) (h8 : ¬ (x0 = 7)) (h9 : x0 = 8) : fX10_fits [.inl (.int x0), .inl (.int x1)] M = am_rI (bi (0 ≤ x1 ∧ x1 ≤ 12)) M := by
  rw [eX10_fits]
  refine eX10_fits_0 ?_
  refine iq h1 ?_
  refine iq h2 ?_
  refine iq h3 ?_
  refine iq h4 ?_
  refine iq h5 ?_
  refine iq h6 ?_
  refine iq h7 ?_
  refine iq h8 ?_
  refine ip h9 ?_
  refine ri (sX10_within _ _ _ _) ?_
  refine eX10_fits_112 ?_
  exact am_finb (bi_b _)
theorem qX10_fits_9 {x0 : Int32} {x1 : Int32} {M : am_M} (h1 : ¬ (x0 = 0)) (h2 : ¬ (x0 = 1)) (h3 : ¬ (x0 = 2)) (h4 : ¬ (x0 = 3)) (h5 : ¬ (x0 = 4)) (h6 : ¬ (x0 = 5)) (h7 : ¬ (x0 = 6)) (h8 : ¬ (x0 = 7)) (h9 : ¬ (x0 = 8)) (h10 : x0 = 9) : fX10_fits [.inl (.int x0), .inl (.int x1)] M = am_rI (bi (0 ≤ x1 ∧ x1 ≤ 2)) M := by
  rw [eX10_fits]
  refine eX10_fits_0 ?_
  refine iq h1 ?_
  refine iq h2 ?_
  refine iq h3 ?_
  refine iq h4 ?_
  refine iq h5 ?_
  refine iq h6 ?_
  refine iq h7 ?_
  refine iq h8 ?_
  refine iq h9 ?_
  refine ip h10 ?_
  refine ri (sX10_within _ _ _ _) ?_
  refine eX10_fits_119 ?_
  exact am_finb (bi_b _)
theorem qX10_fits_10 {x0 : Int32} {x1 : Int32} {M : am_M} (h1 : ¬ (x0 = 0)) (h2 : ¬ (x0 = 1)) (h3 : ¬ (x0 = 2)) (h4 : ¬ (x0 = 3)) (h5 : ¬ (x0 = 4)) (h6 : ¬ (x0 = 5)) (h7 : ¬ (x0 = 6)) (h8 : ¬ (x0 = 7)) (h9 : ¬ (x0 = 8)) (h10 : ¬ (x0 = 9)) (h11 : x0 = 10) : fX10_fits [.inl (.int x0), .inl (.int x1)] M = am_rI 1 M := by
  rw [eX10_fits]
  refine eX10_fits_0 ?_
  refine iq h1 ?_
  refine iq h2 ?_
  refine iq h3 ?_
  refine iq h4 ?_
  refine iq h5 ?_
  refine iq h6 ?_
  refine iq h7 ?_
  refine iq h8 ?_
  refine iq h9 ?_
  refine iq h10 ?_
  refine ip h11 ?_
  all_goals rfl
theorem qX10_fits_11 {x0 : Int32} {x1 : Int32} {M : am_M} (h1 : ¬ (x0 = 0)) (h2 : ¬ (x0 = 1)) (h3 : ¬ (x0 = 2)) (h4 : ¬ (x0 = 3)) (h5 : ¬ (x0 = 4)) (h6 : ¬ (x0 = 5)) (h7 : ¬ (x0 = 6)) (h8 : ¬ (x0 = 7)) (h9 : ¬ (x0 = 8)) (h10 : ¬ (x0 = 9)) (h11 : ¬ (x0 = 10)) (h12 : x0 = 11) : fX10_fits [.inl (.int x0), .inl (.int x1)] M = am_rI 1 M := by
  rw [eX10_fits]
  refine eX10_fits_0 ?_
  refine iq h1 ?_
  refine iq h2 ?_
  refine iq h3 ?_
  refine iq h4 ?_
  refine iq h5 ?_
  refine iq h6 ?_
  refine iq h7 ?_
  refine iq h8 ?_
  refine iq h9 ?_
  refine iq h10 ?_
  refine iq h11 ?_
  refine ip h12 ?_
  all_goals rfl
theorem qX10_fits_12 {x0 : Int32} {x1 : Int32} {M : am_M} (h1 : ¬ (x0 = 0)) (h2 : ¬ (x0 = 1)) (h3 : ¬ (x0 = 2)) (h4 : ¬ (x0 = 3)) (h5 : ¬ (x0 = 4)) (h6 : ¬ (x0 = 5)) (h7 : ¬ (x0 = 6)) (h8 : ¬ (x0 = 7)) (h9 : ¬ (x0 = 8)) (h10 : ¬ (x0 = 9)) (h11 : ¬ (x0 = 10)) (h12 : ¬ (x0 = 11)) (h13 : x0 = 12) : fX10_fits [.inl (.int x0), .inl (.int x1)] M = am_rI (bi (0 ≤ x1 ∧ x1 ≤ 2)) M := by
  rw [eX10_fits]
  refine eX10_fits_0 ?_
  refine iq h1 ?_
  refine iq h2 ?_
  refine iq h3 ?_
  refine iq h4 ?_
  refine iq h5 ?_
  refine iq h6 ?_
  refine iq h7 ?_
  refine iq h8 ?_
  refine iq h9 ?_
  refine iq h10 ?_
  refine iq h11 ?_
  refine iq h12 ?_
  refine ip h13 ?_
  refine ri (sX10_within _ _ _ _) ?_
  refine eX10_fits_119 ?_
  exact am_finb (bi_b _)
theorem qX10_fits_13 {x0 : Int32} {x1 : Int32} {M : am_M} (h1 : ¬ (x0 = 0)) (h2 : ¬ (x0 = 1)) (h3 : ¬ (x0 = 2)) (h4 : ¬ (x0 = 3)) (h5 : ¬ (x0 = 4)) (h6 : ¬ (x0 = 5)) (h7 : ¬ (x0 = 6)) (h8 : ¬ (x0 = 7)) (h9 : ¬ (x0 = 8)) (h10 : ¬ (x0 = 9)) (h11 : ¬ (x0 = 10)) (h12 : ¬ (x0 = 11)) (h13 : ¬ (x0 = 12)) (h14 : x0 = 13) : fX10_fits [.inl (.int x0), .inl (.int x1)] M = am_rI (bi (2 ≤ x1 ∧ x1 ≤ 10)) M := by
  rw [eX10_fits]
  refine eX10_fits_0 ?_
  refine iq h1 ?_
  refine iq h2 ?_
  refine iq h3 ?_
  refine iq h4 ?_
  refine iq h5 ?_
  refine iq h6 ?_
  refine iq h7 ?_
  refine iq h8 ?_
  refine iq h9 ?_
  refine iq h10 ?_
  refine iq h11 ?_
  refine iq h12 ?_
  refine iq h13 ?_
  refine ip h14 ?_
  refine ri (sX10_within _ _ _ _) ?_
  refine eX10_fits_127 ?_
  exact am_finb (bi_b _)
theorem qX10_fits_14 {x0 : Int32} {x1 : Int32} {M : am_M} (h1 : ¬ (x0 = 0)) (h2 : ¬ (x0 = 1)) (h3 : ¬ (x0 = 2)) (h4 : ¬ (x0 = 3)) (h5 : ¬ (x0 = 4)) (h6 : ¬ (x0 = 5)) (h7 : ¬ (x0 = 6)) (h8 : ¬ (x0 = 7)) (h9 : ¬ (x0 = 8)) (h10 : ¬ (x0 = 9)) (h11 : ¬ (x0 = 10)) (h12 : ¬ (x0 = 11)) (h13 : ¬ (x0 = 12)) (h14 : ¬ (x0 = 13)) (h15 : x0 = 14) : fX10_fits [.inl (.int x0), .inl (.int x1)] M = am_rI 1 M := by
  rw [eX10_fits]
  refine eX10_fits_0 ?_
  refine iq h1 ?_
  refine iq h2 ?_
  refine iq h3 ?_
  refine iq h4 ?_
  refine iq h5 ?_
  refine iq h6 ?_
  refine iq h7 ?_
  refine iq h8 ?_
  refine iq h9 ?_
  refine iq h10 ?_
  refine iq h11 ?_
  refine iq h12 ?_
  refine iq h13 ?_
  refine iq h14 ?_
  refine ip h15 ?_
  all_goals rfl
theorem qX10_fits_15 {x0 : Int32} {x1 : Int32} {M : am_M} (h1 : ¬ (x0 = 0)) (h2 : ¬ (x0 = 1)) (h3 : ¬ (x0 = 2)) (h4 : ¬ (x0 = 3)) (h5 : ¬ (x0 = 4)) (h6 : ¬ (x0 = 5)) (h7 : ¬ (x0 = 6)) (h8 : ¬ (x0 = 7)) (h9 : ¬ (x0 = 8)) (h10 : ¬ (x0 = 9)) (h11 : ¬ (x0 = 10)) (h12 : ¬ (x0 = 11)) (h13 : ¬ (x0 = 12)) (h14 : ¬ (x0 = 13)) (h15 : ¬ (x0 = 14)) (h16 : x0 = 15) : fX10_fits [.inl (.int x0), .inl (.int x1)] M = am_rI (bi (1 ≤ x1 ∧ x1 ≤ 1000000)) M := by
  rw [eX10_fits]
  refine eX10_fits_0 ?_
  refine iq h1 ?_
  refine iq h2 ?_
  refine iq h3 ?_
  refine iq h4 ?_
  refine iq h5 ?_
  refine iq h6 ?_
  refine iq h7 ?_
  refine iq h8 ?_
  refine iq h9 ?_
  refine iq h10 ?_
  refine iq h11 ?_
  refine iq h12 ?_
  refine iq h13 ?_
  refine iq h14 ?_
  refine iq h15 ?_
  refine ip h16 ?_
  refine ri (sX10_within _ _ _ _) ?_
  refine eX10_fits_135 ?_
  exact am_finb (bi_b _)
theorem qX10_fits_16 {x0 : Int32} {x1 : Int32} {M : am_M} (h1 : ¬ (x0 = 0)) (h2 : ¬ (x0 = 1)) (h3 : ¬ (x0 = 2)) (h4 : ¬ (x0 = 3)) (h5 : ¬ (x0 = 4)) (h6 : ¬ (x0 = 5)) (h7 : ¬ (x0 = 6)) (h8 : ¬ (x0 = 7)) (h9 : ¬ (x0 = 8)) (h10 : ¬ (x0 = 9)) (h11 : ¬ (x0 = 10)) (h12 : ¬ (x0 = 11)) (h13 : ¬ (x0 = 12)) (h14 : ¬ (x0 = 13)) (h15 : ¬ (x0 = 14)) (h16 : ¬ (x0 = 15)) : fX10_fits [.inl (.int x0), .inl (.int x1)] M = am_rI 1 M := by
  rw [eX10_fits]
  refine eX10_fits_0 ?_
  refine iq h1 ?_
  refine iq h2 ?_
  refine iq h3 ?_
  refine iq h4 ?_
  refine iq h5 ?_
  refine iq h6 ?_
  refine iq h7 ?_
  refine iq h8 ?_
  refine iq h9 ?_
  refine iq h10 ?_
  refine iq h11 ?_
  refine iq h12 ?_
  refine iq h13 ?_
  refine iq h14 ?_
  refine iq h15 ?_
  refine iq h16 ?_
  all_goals rfl
theorem qL_define_0 {x1 : Int32} {x2 : Int32} {x3 : Int32} {M : am_M} {M1 : am_M} (h1 : fX9_define [.inr (9, 0), .inl (.int x1), .inl (.int x2), .inl (.int x3)] M = am_rE "java/lang/IllegalArgumentException" M1) : fL_define [.inr (9, 0), .inl (.int x1), .inl (.int x2), .inl (.int x3)] M = am_rI 1 M1 := by
  rw [eL_define]
  refine eL_define_0 ?_
  exact rh h1 rfl
theorem qL_define_1 {x1 : Int32} {x2 : Int32} {x3 : Int32} {M : am_M} {M1 : am_M} (h1 : fX9_define [.inr (9, 0), .inl (.int x1), .inl (.int x2), .inl (.int x3)] M = am_rE "java/lang/IllegalStateException" M1) : fL_define [.inr (9, 0), .inl (.int x1), .inl (.int x2), .inl (.int x3)] M = am_rI 2 M1 := by
  rw [eL_define]
  refine eL_define_0 ?_
  exact rh h1 rfl
theorem qL_define_2 {x1 : Int32} {x2 : Int32} {x3 : Int32} {M : am_M} {M1 : am_M} (h1 : fX9_define [.inr (9, 0), .inl (.int x1), .inl (.int x2), .inl (.int x3)] M = am_rV M1) : fL_define [.inr (9, 0), .inl (.int x1), .inl (.int x2), .inl (.int x3)] M = am_rI 0 M1 := by
  rw [eL_define]
  refine eL_define_0 ?_
  refine rv h1 ?_
  refine eL_define_7 ?_
  all_goals rfl
theorem qX0_takes_0 {x0 : Nat} {x1 : Int32} {M : am_M} (h1 : 5 ≤ (M 0 x0 2)) : fX0_takes [.inr (0, x0), .inl (.int x1)] M = am_rI 0 M := by
  rw [eX0_takes]
  refine eX0_takes_0 ?_
  refine ip h1 ?_
  all_goals rfl
theorem qX0_takes_1 {x0 : Nat} {x1 : Int32} {M : am_M} (h1 : ¬ (5 ≤ (M 0 x0 2))) (h2 : (M 0 x0 2) < 1) : fX0_takes [.inr (0, x0), .inl (.int x1)] M = am_rI 1 M := by
  rw [eX0_takes]
  refine eX0_takes_0 ?_
  refine iq h1 ?_
  refine ip h2 ?_
  all_goals rfl
theorem qX0_takes_2 {x0 : Nat} {x1 : Int32} {M : am_M} {j1 : Nat} (h1 : ¬ (5 ≤ (M 0 x0 2))) (h2 : ¬ ((M 0 x0 2) < 1)) (h3 : j1 < 5) (h4 : ((M 0 x0 2) - 1) = i3 j1) (h5 : x1 = (M 11 x0 j1)) : fX0_takes [.inr (0, x0), .inl (.int x1)] M = am_rI 0 M := by
  rw [eX0_takes]
  refine eX0_takes_0 ?_
  refine iq h1 ?_
  refine iq h2 ?_
  refine ip (ixi h4 h3 (by decide)) ?_
  try rw [ixn h4 h3 (by decide)]
  refine ip h5 ?_
  all_goals rfl
theorem qX0_takes_3 {x0 : Nat} {x1 : Int32} {M : am_M} {j1 : Nat} (h1 : ¬ (5 ≤ (M 0 x0 2))) (h2 : ¬ ((M 0 x0 2) < 1)) (h3 : j1 < 5) (h4 : ((M 0 x0 2) - 1) = i3 j1) (h5 : ¬ (x1 = (M 11 x0 j1))) : fX0_takes [.inr (0, x0), .inl (.int x1)] M = am_rI 1 M := by
  rw [eX0_takes]
  refine eX0_takes_0 ?_
  refine iq h1 ?_
  refine iq h2 ?_
  refine ip (ixi h4 h3 (by decide)) ?_
  try rw [ixn h4 h3 (by decide)]
  refine iq h5 ?_
  all_goals rfl
theorem qX0_add_0 {x0 : Nat} {x1 : Int32} {x2 : Int32} {M : am_M} (h1 : (M 0 x0 2) < 1) (h2 : 5 ≤ (M 0 x0 2)) : fX0_add [.inr (0, x0), .inl (.int x1), .inl (.int x2)] M = am_rV M := by
  rw [eX0_add]
  refine eX0_add_0 ?_
  refine ip h1 ?_
  refine ip h2 ?_
  all_goals rfl
theorem qX0_add_1 {x0 : Nat} {x1 : Int32} {x2 : Int32} {M : am_M} {j1 : Nat} (h1 : (M 0 x0 2) < 1) (h2 : ¬ (5 ≤ (M 0 x0 2))) (h3 : j1 < 5) (h4 : (M 0 x0 2) = i3 j1) : fX0_add [.inr (0, x0), .inl (.int x1), .inl (.int x2)] M = am_rV (am_put (am_put (am_put M 11 x0 j1 x1) 12 x0 j1 x2) 0 x0 2 ((M 0 x0 2) + 1)) := by
  rw [eX0_add]
  refine eX0_add_0 ?_
  refine ip h1 ?_
  refine iq h2 ?_
  refine ip (ixi h4 h3 (by decide)) ?_
  try rw [ixn h4 h3 (by decide)]
  refine ip (ixi h4 h3 (by decide)) ?_
  try rw [ixn h4 h3 (by decide)]
  all_goals rfl
theorem qX0_add_2 {x0 : Nat} {x1 : Int32} {x2 : Int32} {M : am_M} {j2 : Nat} (h1 : ¬ ((M 0 x0 2) < 1)) (h2 : j2 < 5) (h3 : ((M 0 x0 2) - 1) = i3 j2) (h4 : (M 11 x0 j2) ≤ x1) (h5 : 5 ≤ (M 0 x0 2)) : fX0_add [.inr (0, x0), .inl (.int x1), .inl (.int x2)] M = am_rV M := by
  rw [eX0_add]
  refine eX0_add_0 ?_
  refine iq h1 ?_
  refine ip (ixi h3 h2 (by decide)) ?_
  try rw [ixn h3 h2 (by decide)]
  refine ip h4 ?_
  refine ip h5 ?_
  all_goals rfl
theorem qX0_add_3 {x0 : Nat} {x1 : Int32} {x2 : Int32} {M : am_M} {j2 : Nat} {j1 : Nat} (h1 : ¬ ((M 0 x0 2) < 1)) (h2 : j2 < 5) (h3 : ((M 0 x0 2) - 1) = i3 j2) (h4 : (M 11 x0 j2) ≤ x1) (h5 : ¬ (5 ≤ (M 0 x0 2))) (h6 : j1 < 5) (h7 : (M 0 x0 2) = i3 j1) : fX0_add [.inr (0, x0), .inl (.int x1), .inl (.int x2)] M = am_rV (am_put (am_put (am_put M 11 x0 j1 x1) 12 x0 j1 x2) 0 x0 2 ((M 0 x0 2) + 1)) := by
  rw [eX0_add]
  refine eX0_add_0 ?_
  refine iq h1 ?_
  refine ip (ixi h3 h2 (by decide)) ?_
  try rw [ixn h3 h2 (by decide)]
  refine ip h4 ?_
  refine iq h5 ?_
  refine ip (ixi h7 h6 (by decide)) ?_
  try rw [ixn h7 h6 (by decide)]
  refine ip (ixi h7 h6 (by decide)) ?_
  try rw [ixn h7 h6 (by decide)]
  all_goals rfl
theorem qX0_add_4 {x0 : Nat} {x1 : Int32} {x2 : Int32} {M : am_M} {j2 : Nat} (h1 : ¬ ((M 0 x0 2) < 1)) (h2 : j2 < 5) (h3 : ((M 0 x0 2) - 1) = i3 j2) (h4 : ¬ ((M 11 x0 j2) ≤ x1)) (h5 : 5 ≤ ((am_put M 0 x0 2 0) 0 x0 2)) : fX0_add [.inr (0, x0), .inl (.int x1), .inl (.int x2)] M = am_rV (am_put M 0 x0 2 0) := by
  rw [eX0_add]
  refine eX0_add_0 ?_
  refine iq h1 ?_
  refine ip (ixi h3 h2 (by decide)) ?_
  try rw [ixn h3 h2 (by decide)]
  refine iq h4 ?_
  refine ip h5 ?_
  all_goals rfl
theorem qX0_add_5 {x0 : Nat} {x1 : Int32} {x2 : Int32} {M : am_M} {j2 : Nat} {j3 : Nat} (h1 : ¬ ((M 0 x0 2) < 1)) (h2 : j2 < 5) (h3 : ((M 0 x0 2) - 1) = i3 j2) (h4 : ¬ ((M 11 x0 j2) ≤ x1)) (h5 : ¬ (5 ≤ ((am_put M 0 x0 2 0) 0 x0 2))) (h6 : j3 < 5) (h7 : ((am_put M 0 x0 2 0) 0 x0 2) = i3 j3) : fX0_add [.inr (0, x0), .inl (.int x1), .inl (.int x2)] M = am_rV (am_put (am_put (am_put (am_put M 0 x0 2 0) 11 x0 j3 x1) 12 x0 j3 x2) 0 x0 2 (((am_put M 0 x0 2 0) 0 x0 2) + 1)) := by
  rw [eX0_add]
  refine eX0_add_0 ?_
  refine iq h1 ?_
  refine ip (ixi h3 h2 (by decide)) ?_
  try rw [ixn h3 h2 (by decide)]
  refine iq h4 ?_
  refine iq h5 ?_
  refine ip (ixi h7 h6 (by decide)) ?_
  try rw [ixn h7 h6 (by decide)]
  refine ip (ixi h7 h6 (by decide)) ?_
  try rw [ixn h7 h6 (by decide)]
  all_goals rfl
theorem qX9_curve_0 {x1 : Int32} {x2 : Int32} {x3 : Int32} {M : am_M} (h1 : ¬ (0 ≤ x1 ∧ x1 ≤ 3)) : fX9_curve [.inr (9, 0), .inl (.int x1), .inl (.int x2), .inl (.int x3)] M = am_rE "java/lang/IllegalArgumentException" M := by
  rw [eX9_curve]
  refine eX9_curve_0 ?_
  refine ri (sX9_isWithin _ _ _ _) ?_
  refine eX9_curve_6 ?_
  refine ip (bi_f h1) ?_
  exact re rfl
theorem qX9_curve_1 {x1 : Int32} {x2 : Int32} {x3 : Int32} {M : am_M} (h1 : 0 ≤ x1 ∧ x1 ≤ 3) (h2 : ¬ ((-1000000) ≤ x2 ∧ x2 ≤ 1000000)) : fX9_curve [.inr (9, 0), .inl (.int x1), .inl (.int x2), .inl (.int x3)] M = am_rE "java/lang/IllegalArgumentException" M := by
  rw [eX9_curve]
  refine eX9_curve_0 ?_
  refine ri (sX9_isWithin _ _ _ _) ?_
  refine eX9_curve_6 ?_
  refine iq (fun e => bi_0.mp e h1) ?_
  refine ri (sX0_accepts _ _) ?_
  refine eX9_curve_13 ?_
  refine ip (bi_f h2) ?_
  exact re rfl
theorem qX9_curve_2 {x1 : Int32} {x2 : Int32} {x3 : Int32} {M : am_M} (h1 : 0 ≤ x1 ∧ x1 ≤ 3) (h2 : (-1000000) ≤ x2 ∧ x2 ≤ 1000000) (h3 : ¬ ((-1000000) ≤ x3 ∧ x3 ≤ 1000000)) : fX9_curve [.inr (9, 0), .inl (.int x1), .inl (.int x2), .inl (.int x3)] M = am_rE "java/lang/IllegalArgumentException" M := by
  rw [eX9_curve]
  refine eX9_curve_0 ?_
  refine ri (sX9_isWithin _ _ _ _) ?_
  refine eX9_curve_6 ?_
  refine iq (fun e => bi_0.mp e h1) ?_
  refine ri (sX0_accepts _ _) ?_
  refine eX9_curve_13 ?_
  refine iq (fun e => bi_0.mp e h2) ?_
  refine ri (sX0_accepts _ _) ?_
  refine eX9_curve_20 ?_
  refine ip (bi_f h3) ?_
  exact re rfl
theorem qX9_curve_3 {x1 : Int32} {x2 : Int32} {x3 : Int32} {M : am_M} {j1 : Nat} {v2 : Int32} {v3 : Int32} (h1 : 0 ≤ x1 ∧ x1 ≤ 3) (h2 : (-1000000) ≤ x2 ∧ x2 ≤ 1000000) (h3 : (-1000000) ≤ x3 ∧ x3 ≤ 1000000) (h4 : j1 < 4) (h5 : x1 = i3 j1) (h6 : fX9_isOrdered [.inr (9, 0), .inl (.int x1)] M = am_rI v2 M) (h7 : v2 = 0) (h8 : fX0_takes [.inr (0, j1), .inl (.int x2)] M = am_rI v3 M) (h9 : v3 = 0) : fX9_curve [.inr (9, 0), .inl (.int x1), .inl (.int x2), .inl (.int x3)] M = am_rE "java/lang/IllegalStateException" M := by
  rw [eX9_curve]
  refine eX9_curve_0 ?_
  refine ri (sX9_isWithin _ _ _ _) ?_
  refine eX9_curve_6 ?_
  refine iq (fun e => bi_0.mp e h1) ?_
  refine ri (sX0_accepts _ _) ?_
  refine eX9_curve_13 ?_
  refine iq (fun e => bi_0.mp e h2) ?_
  refine ri (sX0_accepts _ _) ?_
  refine eX9_curve_20 ?_
  refine iq (fun e => bi_0.mp e h3) ?_
  refine rv rfl ?_
  refine eX9_curve_31 ?_
  refine ip (ixi h5 h4 (by decide)) ?_
  try rw [ixn h5 h4 (by decide)]
  refine ri h6 ?_
  refine eX9_curve_44 ?_
  refine ip h7 ?_
  refine ri h8 ?_
  refine eX9_curve_56 ?_
  refine ip h9 ?_
  exact re rfl
theorem qX9_curve_4 {x1 : Int32} {x2 : Int32} {x3 : Int32} {M : am_M} {j1 : Nat} {v2 : Int32} {v3 : Int32} {M4 : am_M} (h1 : 0 ≤ x1 ∧ x1 ≤ 3) (h2 : (-1000000) ≤ x2 ∧ x2 ≤ 1000000) (h3 : (-1000000) ≤ x3 ∧ x3 ≤ 1000000) (h4 : j1 < 4) (h5 : x1 = i3 j1) (h6 : fX9_isOrdered [.inr (9, 0), .inl (.int x1)] M = am_rI v2 M) (h7 : v2 = 0) (h8 : fX0_takes [.inr (0, j1), .inl (.int x2)] M = am_rI v3 M) (h9 : ¬ (v3 = 0)) (h10 : fX0_add [.inr (0, j1), .inl (.int x2), .inl (.int x3)] M = am_rV M4) : fX9_curve [.inr (9, 0), .inl (.int x1), .inl (.int x2), .inl (.int x3)] M = am_rI (M4 0 j1 2) (am_put M4 6 j1 3 0) := by
  rw [eX9_curve]
  refine eX9_curve_0 ?_
  refine ri (sX9_isWithin _ _ _ _) ?_
  refine eX9_curve_6 ?_
  refine iq (fun e => bi_0.mp e h1) ?_
  refine ri (sX0_accepts _ _) ?_
  refine eX9_curve_13 ?_
  refine iq (fun e => bi_0.mp e h2) ?_
  refine ri (sX0_accepts _ _) ?_
  refine eX9_curve_20 ?_
  refine iq (fun e => bi_0.mp e h3) ?_
  refine rv rfl ?_
  refine eX9_curve_31 ?_
  refine ip (ixi h5 h4 (by decide)) ?_
  try rw [ixn h5 h4 (by decide)]
  refine ri h6 ?_
  refine eX9_curve_44 ?_
  refine ip h7 ?_
  refine ri h8 ?_
  refine eX9_curve_56 ?_
  refine iq h9 ?_
  refine rv rfl ?_
  refine eX9_curve_67 ?_
  refine rv h10 ?_
  refine eX9_curve_77 ?_
  all_goals rfl
theorem qX9_curve_5 {x1 : Int32} {x2 : Int32} {x3 : Int32} {M : am_M} {j1 : Nat} {v2 : Int32} (h1 : 0 ≤ x1 ∧ x1 ≤ 3) (h2 : (-1000000) ≤ x2 ∧ x2 ≤ 1000000) (h3 : (-1000000) ≤ x3 ∧ x3 ≤ 1000000) (h4 : j1 < 4) (h5 : x1 = i3 j1) (h6 : fX9_isOrdered [.inr (9, 0), .inl (.int x1)] M = am_rI v2 M) (h7 : ¬ (v2 = 0)) : fX9_curve [.inr (9, 0), .inl (.int x1), .inl (.int x2), .inl (.int x3)] M = am_rE "java/lang/IllegalStateException" M := by
  rw [eX9_curve]
  refine eX9_curve_0 ?_
  refine ri (sX9_isWithin _ _ _ _) ?_
  refine eX9_curve_6 ?_
  refine iq (fun e => bi_0.mp e h1) ?_
  refine ri (sX0_accepts _ _) ?_
  refine eX9_curve_13 ?_
  refine iq (fun e => bi_0.mp e h2) ?_
  refine ri (sX0_accepts _ _) ?_
  refine eX9_curve_20 ?_
  refine iq (fun e => bi_0.mp e h3) ?_
  refine rv rfl ?_
  refine eX9_curve_31 ?_
  refine ip (ixi h5 h4 (by decide)) ?_
  try rw [ixn h5 h4 (by decide)]
  refine ri h6 ?_
  refine eX9_curve_44 ?_
  refine iq h7 ?_
  exact re rfl
theorem qX10_curve_0 {x1 : Int32} {x2 : Int32} {x3 : Int32} {M : am_M} (h1 : ¬ (0 ≤ x1 ∧ x1 ≤ 3)) : fX10_curve [.inr (10, 0), .inl (.int x1), .inl (.int x2), .inl (.int x3)] M = am_rI 0 (am_put M 10 0 45 1) := by
  rw [eX10_curve]
  refine eX10_curve_0 ?_
  refine ri (sX10_isTest _ _) ?_
  refine eX10_curve_4 ?_
  refine ip (bi_f h1) ?_
  refine eX10_curve_99 ?_
  refine iq (by decide) ?_
  all_goals rfl
theorem qX10_curve_1 {x1 : Int32} {x2 : Int32} {x3 : Int32} {M : am_M} (h1 : 0 ≤ x1 ∧ x1 ≤ 3) (h2 : ¬ ((-1000000) ≤ x2 ∧ x2 ≤ 1000000)) : fX10_curve [.inr (10, 0), .inl (.int x1), .inl (.int x2), .inl (.int x3)] M = am_rI 0 (am_put M 10 0 45 1) := by
  rw [eX10_curve]
  refine eX10_curve_0 ?_
  refine ri (sX10_isTest _ _) ?_
  refine eX10_curve_4 ?_
  refine iq (fun e => bi_0.mp e h1) ?_
  refine ri (sX10_within _ _ _ _) ?_
  refine eX10_curve_15 ?_
  refine ip (bi_f h2) ?_
  refine eX10_curve_99 ?_
  refine iq (by decide) ?_
  all_goals rfl
theorem qX10_curve_2 {x1 : Int32} {x2 : Int32} {x3 : Int32} {M : am_M} (h1 : 0 ≤ x1 ∧ x1 ≤ 3) (h2 : (-1000000) ≤ x2 ∧ x2 ≤ 1000000) (h3 : ¬ ((-1000000) ≤ x3 ∧ x3 ≤ 1000000)) : fX10_curve [.inr (10, 0), .inl (.int x1), .inl (.int x2), .inl (.int x3)] M = am_rI 0 (am_put M 10 0 45 1) := by
  rw [eX10_curve]
  refine eX10_curve_0 ?_
  refine ri (sX10_isTest _ _) ?_
  refine eX10_curve_4 ?_
  refine iq (fun e => bi_0.mp e h1) ?_
  refine ri (sX10_within _ _ _ _) ?_
  refine eX10_curve_15 ?_
  refine iq (fun e => bi_0.mp e h2) ?_
  refine ri (sX10_within _ _ _ _) ?_
  refine eX10_curve_26 ?_
  refine ip (bi_f h3) ?_
  refine eX10_curve_99 ?_
  refine iq (by decide) ?_
  all_goals rfl
theorem qX10_curve_3 {x1 : Int32} {x2 : Int32} {x3 : Int32} {M : am_M} {v1 : Int32} {j1 : Nat} (h1 : 0 ≤ x1 ∧ x1 ≤ 3) (h2 : (-1000000) ≤ x2 ∧ x2 ≤ 1000000) (h3 : (-1000000) ≤ x3 ∧ x3 ≤ 1000000) (h4 : fX10_pending [.inr (10, 0), .inl (.int x1)] M = am_rI v1 M) (h5 : v1 = 0) (h6 : j1 < 4) (h7 : x1 = i3 j1) (h8 : (M 34 0 j1) = 5) : fX10_curve [.inr (10, 0), .inl (.int x1), .inl (.int x2), .inl (.int x3)] M = am_rI 0 (am_put M 10 0 45 2) := by
  rw [eX10_curve]
  refine eX10_curve_0 ?_
  refine ri (sX10_isTest _ _) ?_
  refine eX10_curve_4 ?_
  refine iq (fun e => bi_0.mp e h1) ?_
  refine ri (sX10_within _ _ _ _) ?_
  refine eX10_curve_15 ?_
  refine iq (fun e => bi_0.mp e h2) ?_
  refine ri (sX10_within _ _ _ _) ?_
  refine eX10_curve_26 ?_
  refine iq (fun e => bi_0.mp e h3) ?_
  refine ri h4 ?_
  refine eX10_curve_51 ?_
  refine ip h5 ?_
  refine ip (ixi h7 h6 (by decide)) ?_
  try rw [ixn h7 h6 (by decide)]
  refine ip h8 ?_
  refine eX10_curve_99 ?_
  refine iq (by decide) ?_
  all_goals rfl
theorem qX10_curve_4 {x1 : Int32} {x2 : Int32} {x3 : Int32} {M : am_M} {v1 : Int32} {j1 : Nat} {j3 : Nat} (h1 : 0 ≤ x1 ∧ x1 ≤ 3) (h2 : (-1000000) ≤ x2 ∧ x2 ≤ 1000000) (h3 : (-1000000) ≤ x3 ∧ x3 ≤ 1000000) (h4 : fX10_pending [.inr (10, 0), .inl (.int x1)] M = am_rI v1 M) (h5 : v1 = 0) (h6 : j1 < 4) (h7 : x1 = i3 j1) (h8 : ¬ ((M 34 0 j1) = 5)) (h9 : (M 34 0 j1) ≤ 0) (h10 : j3 < 20) (h11 : ((5 * x1) + (M 34 0 j1)) = i3 j3) : fX10_curve [.inr (10, 0), .inl (.int x1), .inl (.int x2), .inl (.int x3)] M = am_rI ((am_put (am_put (am_put (am_put M 10 0 45 0) 32 0 j3 x2) 33 0 j3 x3) 34 0 j1 ((M 34 0 j1) + 1)) 34 0 j1) (am_put (am_put (am_put (am_put (am_put M 10 0 45 0) 32 0 j3 x2) 33 0 j3 x3) 34 0 j1 ((M 34 0 j1) + 1)) 31 0 j1 0) := by
  rw [eX10_curve]
  refine eX10_curve_0 ?_
  refine ri (sX10_isTest _ _) ?_
  refine eX10_curve_4 ?_
  refine iq (fun e => bi_0.mp e h1) ?_
  refine ri (sX10_within _ _ _ _) ?_
  refine eX10_curve_15 ?_
  refine iq (fun e => bi_0.mp e h2) ?_
  refine ri (sX10_within _ _ _ _) ?_
  refine eX10_curve_26 ?_
  refine iq (fun e => bi_0.mp e h3) ?_
  refine ri h4 ?_
  refine eX10_curve_51 ?_
  refine ip h5 ?_
  refine ip (ixi h7 h6 (by decide)) ?_
  try rw [ixn h7 h6 (by decide)]
  refine iq h8 ?_
  refine ip (ixi h7 h6 (by decide)) ?_
  try rw [ixn h7 h6 (by decide)]
  refine ip h9 ?_
  refine eX10_curve_99 ?_
  refine ip (by decide) ?_
  refine ip (ixi h7 h6 (by decide)) ?_
  try rw [ixn h7 h6 (by decide)]
  refine ip h9 ?_
  refine eX10_curve_148 ?_
  try simp only [am_put_nk, am_put_nf, not_false_eq_true, Nat.reduceEqDiff]
  refine ip (ixi h7 h6 (by decide)) ?_
  try rw [ixn h7 h6 (by decide)]
  refine ip (ixi h11 h10 (by decide)) ?_
  try rw [ixn h11 h10 (by decide)]
  refine ip (ixi h7 h6 (by decide)) ?_
  try rw [ixn h7 h6 (by decide)]
  refine ip (ixi h11 h10 (by decide)) ?_
  try rw [ixn h11 h10 (by decide)]
  refine ip (ixi h7 h6 (by decide)) ?_
  try rw [ixn h7 h6 (by decide)]
  refine ip (ixi h7 h6 (by decide)) ?_
  try rw [ixn h7 h6 (by decide)]
  refine ip ⟨(ixi h7 h6 (by decide)), rfl⟩ ?_
  try rw [ixn h7 h6 (by decide)]
  refine ip (ixi h7 h6 (by decide)) ?_
  try rw [ixn h7 h6 (by decide)]
  all_goals rfl
theorem qX10_curve_5 {x1 : Int32} {x2 : Int32} {x3 : Int32} {M : am_M} {v1 : Int32} {j1 : Nat} {j2 : Nat} {j3 : Nat} (h1 : 0 ≤ x1 ∧ x1 ≤ 3) (h2 : (-1000000) ≤ x2 ∧ x2 ≤ 1000000) (h3 : (-1000000) ≤ x3 ∧ x3 ≤ 1000000) (h4 : fX10_pending [.inr (10, 0), .inl (.int x1)] M = am_rI v1 M) (h5 : v1 = 0) (h6 : j1 < 4) (h7 : x1 = i3 j1) (h8 : ¬ ((M 34 0 j1) = 5)) (h9 : ¬ ((M 34 0 j1) ≤ 0)) (h10 : j2 < 20) (h11 : (((5 * x1) + (M 34 0 j1)) - 1) = i3 j2) (h12 : (if (M 32 0 j2) = x2 then 2 else 0 : Int32) = 0) (h13 : (M 32 0 j2) ≤ x2) (h14 : j3 < 20) (h15 : ((5 * x1) + (M 34 0 j1)) = i3 j3) : fX10_curve [.inr (10, 0), .inl (.int x1), .inl (.int x2), .inl (.int x3)] M = am_rI ((am_put (am_put (am_put (am_put M 10 0 45 (if (M 32 0 j2) = x2 then 2 else 0 : Int32)) 32 0 j3 x2) 33 0 j3 x3) 34 0 j1 ((M 34 0 j1) + 1)) 34 0 j1) (am_put (am_put (am_put (am_put (am_put M 10 0 45 (if (M 32 0 j2) = x2 then 2 else 0 : Int32)) 32 0 j3 x2) 33 0 j3 x3) 34 0 j1 ((M 34 0 j1) + 1)) 31 0 j1 0) := by
  rw [eX10_curve]
  refine eX10_curve_0 ?_
  refine ri (sX10_isTest _ _) ?_
  refine eX10_curve_4 ?_
  refine iq (fun e => bi_0.mp e h1) ?_
  refine ri (sX10_within _ _ _ _) ?_
  refine eX10_curve_15 ?_
  refine iq (fun e => bi_0.mp e h2) ?_
  refine ri (sX10_within _ _ _ _) ?_
  refine eX10_curve_26 ?_
  refine iq (fun e => bi_0.mp e h3) ?_
  refine ri h4 ?_
  refine eX10_curve_51 ?_
  refine ip h5 ?_
  refine ip (ixi h7 h6 (by decide)) ?_
  try rw [ixn h7 h6 (by decide)]
  refine iq h8 ?_
  refine ip (ixi h7 h6 (by decide)) ?_
  try rw [ixn h7 h6 (by decide)]
  refine iq h9 ?_
  refine ip (ixi h7 h6 (by decide)) ?_
  try rw [ixn h7 h6 (by decide)]
  refine ip (ixi h11 h10 (by decide)) ?_
  try rw [ixn h11 h10 (by decide)]
  refine dm (K := fun v => rX10_curve _ 99 [.inr (10, 0), .inl (.int x1), .inl (.int x2), .inl (.int x3), .inl (.int 1)] (v :: [.inr (10, 0)]) M) ?_
  refine eX10_curve_99 ?_
  refine ip h12 ?_
  refine ip (ixi h7 h6 (by decide)) ?_
  try rw [ixn h7 h6 (by decide)]
  refine iq h9 ?_
  refine ip (ixi h7 h6 (by decide)) ?_
  try rw [ixn h7 h6 (by decide)]
  refine ip (ixi h11 h10 (by decide)) ?_
  try rw [ixn h11 h10 (by decide)]
  refine ip h13 ?_
  refine eX10_curve_148 ?_
  try simp only [am_put_nk, am_put_nf, not_false_eq_true, Nat.reduceEqDiff]
  refine ip (ixi h7 h6 (by decide)) ?_
  try rw [ixn h7 h6 (by decide)]
  refine ip (ixi h15 h14 (by decide)) ?_
  try rw [ixn h15 h14 (by decide)]
  refine ip (ixi h7 h6 (by decide)) ?_
  try rw [ixn h7 h6 (by decide)]
  refine ip (ixi h15 h14 (by decide)) ?_
  try rw [ixn h15 h14 (by decide)]
  refine ip (ixi h7 h6 (by decide)) ?_
  try rw [ixn h7 h6 (by decide)]
  refine ip (ixi h7 h6 (by decide)) ?_
  try rw [ixn h7 h6 (by decide)]
  refine ip ⟨(ixi h7 h6 (by decide)), rfl⟩ ?_
  try rw [ixn h7 h6 (by decide)]
  refine ip (ixi h7 h6 (by decide)) ?_
  try rw [ixn h7 h6 (by decide)]
  all_goals rfl
theorem qX10_curve_6 {x1 : Int32} {x2 : Int32} {x3 : Int32} {M : am_M} {v1 : Int32} {j1 : Nat} {j2 : Nat} {j4 : Nat} (h1 : 0 ≤ x1 ∧ x1 ≤ 3) (h2 : (-1000000) ≤ x2 ∧ x2 ≤ 1000000) (h3 : (-1000000) ≤ x3 ∧ x3 ≤ 1000000) (h4 : fX10_pending [.inr (10, 0), .inl (.int x1)] M = am_rI v1 M) (h5 : v1 = 0) (h6 : j1 < 4) (h7 : x1 = i3 j1) (h8 : ¬ ((M 34 0 j1) = 5)) (h9 : ¬ ((M 34 0 j1) ≤ 0)) (h10 : j2 < 20) (h11 : (((5 * x1) + (M 34 0 j1)) - 1) = i3 j2) (h12 : (if (M 32 0 j2) = x2 then 2 else 0 : Int32) = 0) (h13 : ¬ ((M 32 0 j2) ≤ x2)) (h14 : j4 < 20) (h15 : ((5 * x1) + ((am_put (am_put M 10 0 45 (if (M 32 0 j2) = x2 then 2 else 0 : Int32)) 34 0 j1 0) 34 0 j1)) = i3 j4) : fX10_curve [.inr (10, 0), .inl (.int x1), .inl (.int x2), .inl (.int x3)] M = am_rI ((am_put (am_put (am_put (am_put (am_put M 10 0 45 (if (M 32 0 j2) = x2 then 2 else 0 : Int32)) 34 0 j1 0) 32 0 j4 x2) 33 0 j4 x3) 34 0 j1 (((am_put (am_put M 10 0 45 (if (M 32 0 j2) = x2 then 2 else 0 : Int32)) 34 0 j1 0) 34 0 j1) + 1)) 34 0 j1) (am_put (am_put (am_put (am_put (am_put (am_put M 10 0 45 (if (M 32 0 j2) = x2 then 2 else 0 : Int32)) 34 0 j1 0) 32 0 j4 x2) 33 0 j4 x3) 34 0 j1 (((am_put (am_put M 10 0 45 (if (M 32 0 j2) = x2 then 2 else 0 : Int32)) 34 0 j1 0) 34 0 j1) + 1)) 31 0 j1 0) := by
  rw [eX10_curve]
  refine eX10_curve_0 ?_
  refine ri (sX10_isTest _ _) ?_
  refine eX10_curve_4 ?_
  refine iq (fun e => bi_0.mp e h1) ?_
  refine ri (sX10_within _ _ _ _) ?_
  refine eX10_curve_15 ?_
  refine iq (fun e => bi_0.mp e h2) ?_
  refine ri (sX10_within _ _ _ _) ?_
  refine eX10_curve_26 ?_
  refine iq (fun e => bi_0.mp e h3) ?_
  refine ri h4 ?_
  refine eX10_curve_51 ?_
  refine ip h5 ?_
  refine ip (ixi h7 h6 (by decide)) ?_
  try rw [ixn h7 h6 (by decide)]
  refine iq h8 ?_
  refine ip (ixi h7 h6 (by decide)) ?_
  try rw [ixn h7 h6 (by decide)]
  refine iq h9 ?_
  refine ip (ixi h7 h6 (by decide)) ?_
  try rw [ixn h7 h6 (by decide)]
  refine ip (ixi h11 h10 (by decide)) ?_
  try rw [ixn h11 h10 (by decide)]
  refine dm (K := fun v => rX10_curve _ 99 [.inr (10, 0), .inl (.int x1), .inl (.int x2), .inl (.int x3), .inl (.int 1)] (v :: [.inr (10, 0)]) M) ?_
  refine eX10_curve_99 ?_
  refine ip h12 ?_
  refine ip (ixi h7 h6 (by decide)) ?_
  try rw [ixn h7 h6 (by decide)]
  refine iq h9 ?_
  refine ip (ixi h7 h6 (by decide)) ?_
  try rw [ixn h7 h6 (by decide)]
  refine ip (ixi h11 h10 (by decide)) ?_
  try rw [ixn h11 h10 (by decide)]
  refine iq h13 ?_
  refine ip (ixi h7 h6 (by decide)) ?_
  try rw [ixn h7 h6 (by decide)]
  refine eX10_curve_148 ?_
  try simp only [am_put_nk, am_put_nf, not_false_eq_true, Nat.reduceEqDiff]
  refine ip (ixi h7 h6 (by decide)) ?_
  try rw [ixn h7 h6 (by decide)]
  refine ip (ixi h15 h14 (by decide)) ?_
  try rw [ixn h15 h14 (by decide)]
  refine ip (ixi h7 h6 (by decide)) ?_
  try rw [ixn h7 h6 (by decide)]
  refine ip (ixi h15 h14 (by decide)) ?_
  try rw [ixn h15 h14 (by decide)]
  refine ip (ixi h7 h6 (by decide)) ?_
  try rw [ixn h7 h6 (by decide)]
  refine ip (ixi h7 h6 (by decide)) ?_
  try rw [ixn h7 h6 (by decide)]
  refine ip ⟨(ixi h7 h6 (by decide)), rfl⟩ ?_
  try rw [ixn h7 h6 (by decide)]
  refine ip (ixi h7 h6 (by decide)) ?_
  try rw [ixn h7 h6 (by decide)]
  all_goals rfl
theorem qX10_curve_7 {x1 : Int32} {x2 : Int32} {x3 : Int32} {M : am_M} {v1 : Int32} {j1 : Nat} {j2 : Nat} (h1 : 0 ≤ x1 ∧ x1 ≤ 3) (h2 : (-1000000) ≤ x2 ∧ x2 ≤ 1000000) (h3 : (-1000000) ≤ x3 ∧ x3 ≤ 1000000) (h4 : fX10_pending [.inr (10, 0), .inl (.int x1)] M = am_rI v1 M) (h5 : v1 = 0) (h6 : j1 < 4) (h7 : x1 = i3 j1) (h8 : ¬ ((M 34 0 j1) = 5)) (h9 : ¬ ((M 34 0 j1) ≤ 0)) (h10 : j2 < 20) (h11 : (((5 * x1) + (M 34 0 j1)) - 1) = i3 j2) (h12 : ¬ ((if (M 32 0 j2) = x2 then 2 else 0 : Int32) = 0)) : fX10_curve [.inr (10, 0), .inl (.int x1), .inl (.int x2), .inl (.int x3)] M = am_rI 0 (am_put M 10 0 45 (if (M 32 0 j2) = x2 then 2 else 0 : Int32)) := by
  rw [eX10_curve]
  refine eX10_curve_0 ?_
  refine ri (sX10_isTest _ _) ?_
  refine eX10_curve_4 ?_
  refine iq (fun e => bi_0.mp e h1) ?_
  refine ri (sX10_within _ _ _ _) ?_
  refine eX10_curve_15 ?_
  refine iq (fun e => bi_0.mp e h2) ?_
  refine ri (sX10_within _ _ _ _) ?_
  refine eX10_curve_26 ?_
  refine iq (fun e => bi_0.mp e h3) ?_
  refine ri h4 ?_
  refine eX10_curve_51 ?_
  refine ip h5 ?_
  refine ip (ixi h7 h6 (by decide)) ?_
  try rw [ixn h7 h6 (by decide)]
  refine iq h8 ?_
  refine ip (ixi h7 h6 (by decide)) ?_
  try rw [ixn h7 h6 (by decide)]
  refine iq h9 ?_
  refine ip (ixi h7 h6 (by decide)) ?_
  try rw [ixn h7 h6 (by decide)]
  refine ip (ixi h11 h10 (by decide)) ?_
  try rw [ixn h11 h10 (by decide)]
  refine dm (K := fun v => rX10_curve _ 99 [.inr (10, 0), .inl (.int x1), .inl (.int x2), .inl (.int x3), .inl (.int 1)] (v :: [.inr (10, 0)]) M) ?_
  refine eX10_curve_99 ?_
  refine iq h12 ?_
  all_goals rfl
theorem qX10_curve_8 {x1 : Int32} {x2 : Int32} {x3 : Int32} {M : am_M} {v1 : Int32} (h1 : 0 ≤ x1 ∧ x1 ≤ 3) (h2 : (-1000000) ≤ x2 ∧ x2 ≤ 1000000) (h3 : (-1000000) ≤ x3 ∧ x3 ≤ 1000000) (h4 : fX10_pending [.inr (10, 0), .inl (.int x1)] M = am_rI v1 M) (h5 : ¬ (v1 = 0)) : fX10_curve [.inr (10, 0), .inl (.int x1), .inl (.int x2), .inl (.int x3)] M = am_rI 0 (am_put M 10 0 45 2) := by
  rw [eX10_curve]
  refine eX10_curve_0 ?_
  refine ri (sX10_isTest _ _) ?_
  refine eX10_curve_4 ?_
  refine iq (fun e => bi_0.mp e h1) ?_
  refine ri (sX10_within _ _ _ _) ?_
  refine eX10_curve_15 ?_
  refine iq (fun e => bi_0.mp e h2) ?_
  refine ri (sX10_within _ _ _ _) ?_
  refine eX10_curve_26 ?_
  refine iq (fun e => bi_0.mp e h3) ?_
  refine ri h4 ?_
  refine eX10_curve_51 ?_
  refine iq h5 ?_
  refine eX10_curve_99 ?_
  refine iq (by decide) ?_
  all_goals rfl
theorem qL_curve_0 {x1 : Int32} {x2 : Int32} {x3 : Int32} {M : am_M} {M1 : am_M} (h1 : fX9_curve [.inr (9, 0), .inl (.int x1), .inl (.int x2), .inl (.int x3)] M = am_rE "java/lang/IllegalArgumentException" M1) : fL_curve [.inr (9, 0), .inl (.int x1), .inl (.int x2), .inl (.int x3), .inr (80, 0)] M = am_rI 1 M1 := by
  rw [eL_curve]
  refine eL_curve_0 ?_
  exact rh h1 rfl
theorem qL_curve_1 {x1 : Int32} {x2 : Int32} {x3 : Int32} {M : am_M} {M1 : am_M} (h1 : fX9_curve [.inr (9, 0), .inl (.int x1), .inl (.int x2), .inl (.int x3)] M = am_rE "java/lang/IllegalStateException" M1) : fL_curve [.inr (9, 0), .inl (.int x1), .inl (.int x2), .inl (.int x3), .inr (80, 0)] M = am_rI 2 M1 := by
  rw [eL_curve]
  refine eL_curve_0 ?_
  exact rh h1 rfl
theorem qL_curve_2 {x1 : Int32} {x2 : Int32} {x3 : Int32} {M : am_M} {v1 : Int32} {M2 : am_M} (h1 : fX9_curve [.inr (9, 0), .inl (.int x1), .inl (.int x2), .inl (.int x3)] M = am_rI v1 M2) : fL_curve [.inr (9, 0), .inl (.int x1), .inl (.int x2), .inl (.int x3), .inr (80, 0)] M = am_rI 0 (am_put (am_put M2 80 0 (2 * 0) (am_hi (Int32.toInt64 v1))) 80 0 (2 * 0 + 1) (am_lo (Int32.toInt64 v1))) := by
  rw [eL_curve]
  refine eL_curve_0 ?_
  refine ri h1 ?_
  refine eL_curve_10 ?_
  refine ip (by decide) ?_
  try rw [show Int32.toNatClampNeg (0 : Int32) = 0 from by decide]
  all_goals rfl
theorem qL_seal_0 {x1 : Int32} {M : am_M} {M1 : am_M} (h1 : fX9_seal [.inr (9, 0), .inl (.int x1)] M = am_rE "java/lang/IllegalArgumentException" M1) : fL_seal [.inr (9, 0), .inl (.int x1), .inr (80, 0)] M = am_rI 1 M1 := by
  rw [eL_seal]
  refine eL_seal_0 ?_
  exact rh h1 rfl
theorem qL_seal_1 {x1 : Int32} {M : am_M} {v1 : Int32} {M2 : am_M} (h1 : fX9_seal [.inr (9, 0), .inl (.int x1)] M = am_rI v1 M2) (h2 : v1 = 0) : fL_seal [.inr (9, 0), .inl (.int x1), .inr (80, 0)] M = am_rI 0 (am_put (am_put M2 80 0 (2 * 0) (am_hi 0)) 80 0 (2 * 0 + 1) (am_lo 0)) := by
  rw [eL_seal]
  refine eL_seal_0 ?_
  refine ri h1 ?_
  refine eL_seal_7 ?_
  refine ip h2 ?_
  refine ip (by decide) ?_
  try rw [show Int32.toNatClampNeg (0 : Int32) = 0 from by decide]
  all_goals rfl
theorem qL_seal_2 {x1 : Int32} {M : am_M} {v1 : Int32} {M2 : am_M} (h1 : fX9_seal [.inr (9, 0), .inl (.int x1)] M = am_rI v1 M2) (h2 : ¬ (v1 = 0)) : fL_seal [.inr (9, 0), .inl (.int x1), .inr (80, 0)] M = am_rI 0 (am_put (am_put M2 80 0 (2 * 0) (am_hi 1)) 80 0 (2 * 0 + 1) (am_lo 1)) := by
  rw [eL_seal]
  refine eL_seal_0 ?_
  refine ri h1 ?_
  refine eL_seal_7 ?_
  refine iq h2 ?_
  refine ip (by decide) ?_
  try rw [show Int32.toNatClampNeg (0 : Int32) = 0 from by decide]
  all_goals rfl
theorem qX9_seal_0 {x1 : Int32} {M : am_M} (h1 : ¬ (0 ≤ x1 ∧ x1 ≤ 3)) : fX9_seal [.inr (9, 0), .inl (.int x1)] M = am_rE "java/lang/IllegalArgumentException" M := by
  rw [eX9_seal]
  refine eX9_seal_0 ?_
  refine ri (sX9_isWithin _ _ _ _) ?_
  refine eX9_seal_6 ?_
  exact re (if_pos (bi_f h1))
theorem qX9_seal_1 {x1 : Int32} {M : am_M} {j1 : Nat} {v2 : Int32} (h1 : 0 ≤ x1 ∧ x1 ≤ 3) (h2 : j1 < 4) (h3 : x1 = i3 j1) (h4 : fX6_isComplete [.inr (6, j1)] M = am_rI v2 M) (h5 : am_b v2 = v2) : fX9_seal [.inr (9, 0), .inl (.int x1)] M = am_rI (am_b ((am_put M 6 j1 3 v2) 6 j1 3)) (am_put M 6 j1 3 v2) := by
  rw [eX9_seal]
  refine eX9_seal_0 ?_
  refine ri (sX9_isWithin _ _ _ _) ?_
  refine eX9_seal_6 ?_
  refine rv (if_neg (fun e => bi_0.mp e h1)) ?_
  refine eX9_seal_9 ?_
  refine ip (ixi h3 h2 (by decide)) ?_
  try rw [ixn h3 h2 (by decide)]
  refine ri h4 ?_
  refine eX9_seal_21 ?_
  refine ip h5 ?_
  exact am_finb (am_b_b _)
theorem qX9_state_0 {x1 : Int32} {x2 : Int32} {M : am_M} (h1 : ¬ (0 ≤ x1 ∧ x1 ≤ ((M 9 0 7) - 1))) : fX9_state [.inr (9, 0), .inl (.int x1), .inl (.int x2)] M = am_rE "java/lang/IllegalArgumentException" M := by
  rw [eX9_state]
  refine eX9_state_0 ?_
  refine ri (sX9_isWithin _ _ _ _) ?_
  refine eX9_state_11 ?_
  refine ip (bi_f h1) ?_
  exact re rfl
theorem qX9_state_1 {x1 : Int32} {x2 : Int32} {M : am_M} (h1 : 0 ≤ x1 ∧ x1 ≤ ((M 9 0 7) - 1)) (h2 : ¬ (0 ≤ x2 ∧ x2 ≤ 6)) : fX9_state [.inr (9, 0), .inl (.int x1), .inl (.int x2)] M = am_rE "java/lang/IllegalArgumentException" M := by
  rw [eX9_state]
  refine eX9_state_0 ?_
  refine ri (sX9_isWithin _ _ _ _) ?_
  refine eX9_state_11 ?_
  refine iq (fun e => bi_0.mp e h1) ?_
  refine ri (sX9_isWithin _ _ _ _) ?_
  refine eX9_state_21 ?_
  refine ip (bi_f h2) ?_
  exact re rfl
theorem qX9_state_2 {x1 : Int32} {x2 : Int32} {M : am_M} {j1 : Nat} {v2 : Nat} (h1 : 0 ≤ x1 ∧ x1 ≤ ((M 9 0 7) - 1)) (h2 : 0 ≤ x2 ∧ x2 ≤ 6) (h3 : j1 < 40) (h4 : x1 = i3 j1) (h5 : fX9_cuvetteOf [.inr (9, 0), .inr (4, j1)] M = some (.inl (some (.inr (1, v2))), M)) (h5b : v2 < 10) (h7 : x2 = 0) : fX9_state [.inr (9, 0), .inl (.int x1), .inl (.int x2)] M = am_rI (M 4 j1 3) M := by
  rw [eX9_state]
  refine eX9_state_0 ?_
  refine ri (sX9_isWithin _ _ _ _) ?_
  refine eX9_state_11 ?_
  refine iq (fun e => bi_0.mp e h1) ?_
  refine ri (sX9_isWithin _ _ _ _) ?_
  refine eX9_state_21 ?_
  refine iq (fun e => bi_0.mp e h2) ?_
  refine rv rfl ?_
  refine eX9_state_32 ?_
  refine ip (ixi h4 h3 (by decide)) ?_
  try rw [ixn h4 h3 (by decide)]
  refine rq h5 h5b ?_
  refine eX9_state_44 ?_
  refine ip h7 ?_
  all_goals rfl
theorem qX9_state_3 {x1 : Int32} {x2 : Int32} {M : am_M} {j1 : Nat} {v2 : Nat} (h1 : 0 ≤ x1 ∧ x1 ≤ ((M 9 0 7) - 1)) (h2 : 0 ≤ x2 ∧ x2 ≤ 6) (h3 : j1 < 40) (h4 : x1 = i3 j1) (h5 : fX9_cuvetteOf [.inr (9, 0), .inr (4, j1)] M = some (.inl (some (.inr (1, v2))), M)) (h5b : v2 < 10) (h7 : ¬ (x2 = 0)) (h8 : x2 = 1) : fX9_state [.inr (9, 0), .inl (.int x1), .inl (.int x2)] M = am_rI (M 4 j1 4) M := by
  rw [eX9_state]
  refine eX9_state_0 ?_
  refine ri (sX9_isWithin _ _ _ _) ?_
  refine eX9_state_11 ?_
  refine iq (fun e => bi_0.mp e h1) ?_
  refine ri (sX9_isWithin _ _ _ _) ?_
  refine eX9_state_21 ?_
  refine iq (fun e => bi_0.mp e h2) ?_
  refine rv rfl ?_
  refine eX9_state_32 ?_
  refine ip (ixi h4 h3 (by decide)) ?_
  try rw [ixn h4 h3 (by decide)]
  refine rq h5 h5b ?_
  refine eX9_state_44 ?_
  refine iq h7 ?_
  refine ip h8 ?_
  all_goals rfl
theorem qX9_state_4 {x1 : Int32} {x2 : Int32} {M : am_M} {j1 : Nat} {v2 : Nat} (h1 : 0 ≤ x1 ∧ x1 ≤ ((M 9 0 7) - 1)) (h2 : 0 ≤ x2 ∧ x2 ≤ 6) (h3 : j1 < 40) (h4 : x1 = i3 j1) (h5 : fX9_cuvetteOf [.inr (9, 0), .inr (4, j1)] M = some (.inl (some (.inr (1, v2))), M)) (h5b : v2 < 10) (h7 : ¬ (x2 = 0)) (h8 : ¬ (x2 = 1)) (h9 : x2 = 2) : fX9_state [.inr (9, 0), .inl (.int x1), .inl (.int x2)] M = am_rI (M 4 j1 5) M := by
  rw [eX9_state]
  refine eX9_state_0 ?_
  refine ri (sX9_isWithin _ _ _ _) ?_
  refine eX9_state_11 ?_
  refine iq (fun e => bi_0.mp e h1) ?_
  refine ri (sX9_isWithin _ _ _ _) ?_
  refine eX9_state_21 ?_
  refine iq (fun e => bi_0.mp e h2) ?_
  refine rv rfl ?_
  refine eX9_state_32 ?_
  refine ip (ixi h4 h3 (by decide)) ?_
  try rw [ixn h4 h3 (by decide)]
  refine rq h5 h5b ?_
  refine eX9_state_44 ?_
  refine iq h7 ?_
  refine iq h8 ?_
  refine ip h9 ?_
  all_goals rfl
theorem qX9_state_5 {x1 : Int32} {x2 : Int32} {M : am_M} {j1 : Nat} {v2 : Nat} (h1 : 0 ≤ x1 ∧ x1 ≤ ((M 9 0 7) - 1)) (h2 : 0 ≤ x2 ∧ x2 ≤ 6) (h3 : j1 < 40) (h4 : x1 = i3 j1) (h5 : fX9_cuvetteOf [.inr (9, 0), .inr (4, j1)] M = some (.inl (some (.inr (1, v2))), M)) (h5b : v2 < 10) (h7 : ¬ (x2 = 0)) (h8 : ¬ (x2 = 1)) (h9 : ¬ (x2 = 2)) (h10 : x2 = 3) : fX9_state [.inr (9, 0), .inl (.int x1), .inl (.int x2)] M = am_rI (M 4 j1 7) M := by
  rw [eX9_state]
  refine eX9_state_0 ?_
  refine ri (sX9_isWithin _ _ _ _) ?_
  refine eX9_state_11 ?_
  refine iq (fun e => bi_0.mp e h1) ?_
  refine ri (sX9_isWithin _ _ _ _) ?_
  refine eX9_state_21 ?_
  refine iq (fun e => bi_0.mp e h2) ?_
  refine rv rfl ?_
  refine eX9_state_32 ?_
  refine ip (ixi h4 h3 (by decide)) ?_
  try rw [ixn h4 h3 (by decide)]
  refine rq h5 h5b ?_
  refine eX9_state_44 ?_
  refine iq h7 ?_
  refine iq h8 ?_
  refine iq h9 ?_
  refine ip h10 ?_
  all_goals rfl
theorem qX9_state_6 {x1 : Int32} {x2 : Int32} {M : am_M} {j1 : Nat} {v2 : Nat} (h1 : 0 ≤ x1 ∧ x1 ≤ ((M 9 0 7) - 1)) (h2 : 0 ≤ x2 ∧ x2 ≤ 6) (h3 : j1 < 40) (h4 : x1 = i3 j1) (h5 : fX9_cuvetteOf [.inr (9, 0), .inr (4, j1)] M = some (.inl (some (.inr (1, v2))), M)) (h5b : v2 < 10) (h7 : ¬ (x2 = 0)) (h8 : ¬ (x2 = 1)) (h9 : ¬ (x2 = 2)) (h10 : ¬ (x2 = 3)) (h11 : x2 = 4) : fX9_state [.inr (9, 0), .inl (.int x1), .inl (.int x2)] M = am_rI (M 1 v2 7) M := by
  rw [eX9_state]
  refine eX9_state_0 ?_
  refine ri (sX9_isWithin _ _ _ _) ?_
  refine eX9_state_11 ?_
  refine iq (fun e => bi_0.mp e h1) ?_
  refine ri (sX9_isWithin _ _ _ _) ?_
  refine eX9_state_21 ?_
  refine iq (fun e => bi_0.mp e h2) ?_
  refine rv rfl ?_
  refine eX9_state_32 ?_
  refine ip (ixi h4 h3 (by decide)) ?_
  try rw [ixn h4 h3 (by decide)]
  refine rq h5 h5b ?_
  refine eX9_state_44 ?_
  refine iq h7 ?_
  refine iq h8 ?_
  refine iq h9 ?_
  refine iq h10 ?_
  refine ip h11 ?_
  all_goals rfl
theorem qX9_state_7 {x1 : Int32} {x2 : Int32} {M : am_M} {j1 : Nat} {v2 : Nat} (h1 : 0 ≤ x1 ∧ x1 ≤ ((M 9 0 7) - 1)) (h2 : 0 ≤ x2 ∧ x2 ≤ 6) (h3 : j1 < 40) (h4 : x1 = i3 j1) (h5 : fX9_cuvetteOf [.inr (9, 0), .inr (4, j1)] M = some (.inl (some (.inr (1, v2))), M)) (h5b : v2 < 10) (h7 : ¬ (x2 = 0)) (h8 : ¬ (x2 = 1)) (h9 : ¬ (x2 = 2)) (h10 : ¬ (x2 = 3)) (h11 : ¬ (x2 = 4)) (h12 : x2 = 5) : fX9_state [.inr (9, 0), .inl (.int x1), .inl (.int x2)] M = am_rI (M 4 j1 8) M := by
  rw [eX9_state]
  refine eX9_state_0 ?_
  refine ri (sX9_isWithin _ _ _ _) ?_
  refine eX9_state_11 ?_
  refine iq (fun e => bi_0.mp e h1) ?_
  refine ri (sX9_isWithin _ _ _ _) ?_
  refine eX9_state_21 ?_
  refine iq (fun e => bi_0.mp e h2) ?_
  refine rv rfl ?_
  refine eX9_state_32 ?_
  refine ip (ixi h4 h3 (by decide)) ?_
  try rw [ixn h4 h3 (by decide)]
  refine rq h5 h5b ?_
  refine eX9_state_44 ?_
  refine iq h7 ?_
  refine iq h8 ?_
  refine iq h9 ?_
  refine iq h10 ?_
  refine iq h11 ?_
  refine ip h12 ?_
  all_goals rfl
theorem qX9_state_8 {x1 : Int32} {x2 : Int32} {M : am_M} {j1 : Nat} {v2 : Nat} (h1 : 0 ≤ x1 ∧ x1 ≤ ((M 9 0 7) - 1)) (h2 : 0 ≤ x2 ∧ x2 ≤ 6) (h3 : j1 < 40) (h4 : x1 = i3 j1) (h5 : fX9_cuvetteOf [.inr (9, 0), .inr (4, j1)] M = some (.inl (some (.inr (1, v2))), M)) (h5b : v2 < 10) (h7 : ¬ (x2 = 0)) (h8 : ¬ (x2 = 1)) (h9 : ¬ (x2 = 2)) (h10 : ¬ (x2 = 3)) (h11 : ¬ (x2 = 4)) (h12 : ¬ (x2 = 5)) : fX9_state [.inr (9, 0), .inl (.int x1), .inl (.int x2)] M = am_rI (M 4 j1 9) M := by
  rw [eX9_state]
  refine eX9_state_0 ?_
  refine ri (sX9_isWithin _ _ _ _) ?_
  refine eX9_state_11 ?_
  refine iq (fun e => bi_0.mp e h1) ?_
  refine ri (sX9_isWithin _ _ _ _) ?_
  refine eX9_state_21 ?_
  refine iq (fun e => bi_0.mp e h2) ?_
  refine rv rfl ?_
  refine eX9_state_32 ?_
  refine ip (ixi h4 h3 (by decide)) ?_
  try rw [ixn h4 h3 (by decide)]
  refine rq h5 h5b ?_
  refine eX9_state_44 ?_
  refine iq h7 ?_
  refine iq h8 ?_
  refine iq h9 ?_
  refine iq h10 ?_
  refine iq h11 ?_
  refine iq h12 ?_
  all_goals rfl
theorem qX9_state_9 {x1 : Int32} {x2 : Int32} {M : am_M} {j1 : Nat} (h1 : 0 ≤ x1 ∧ x1 ≤ ((M 9 0 7) - 1)) (h2 : 0 ≤ x2 ∧ x2 ≤ 6) (h3 : j1 < 40) (h4 : x1 = i3 j1) (h5 : fX9_cuvetteOf [.inr (9, 0), .inr (4, j1)] M = some (.inl (some (.inl .null)), M)) (h6 : x2 = 0) : fX9_state [.inr (9, 0), .inl (.int x1), .inl (.int x2)] M = am_rI (M 4 j1 3) M := by
  rw [eX9_state]
  refine eX9_state_0 ?_
  refine ri (sX9_isWithin _ _ _ _) ?_
  refine eX9_state_11 ?_
  refine iq (fun e => bi_0.mp e h1) ?_
  refine ri (sX9_isWithin _ _ _ _) ?_
  refine eX9_state_21 ?_
  refine iq (fun e => bi_0.mp e h2) ?_
  refine rv rfl ?_
  refine eX9_state_32 ?_
  refine ip (ixi h4 h3 (by decide)) ?_
  try rw [ixn h4 h3 (by decide)]
  refine rn h5 ?_
  refine eX9_state_44a ?_
  refine ip h6 ?_
  all_goals rfl
theorem qX9_state_10 {x1 : Int32} {x2 : Int32} {M : am_M} {j1 : Nat} (h1 : 0 ≤ x1 ∧ x1 ≤ ((M 9 0 7) - 1)) (h2 : 0 ≤ x2 ∧ x2 ≤ 6) (h3 : j1 < 40) (h4 : x1 = i3 j1) (h5 : fX9_cuvetteOf [.inr (9, 0), .inr (4, j1)] M = some (.inl (some (.inl .null)), M)) (h6 : ¬ (x2 = 0)) (h7 : x2 = 1) : fX9_state [.inr (9, 0), .inl (.int x1), .inl (.int x2)] M = am_rI (M 4 j1 4) M := by
  rw [eX9_state]
  refine eX9_state_0 ?_
  refine ri (sX9_isWithin _ _ _ _) ?_
  refine eX9_state_11 ?_
  refine iq (fun e => bi_0.mp e h1) ?_
  refine ri (sX9_isWithin _ _ _ _) ?_
  refine eX9_state_21 ?_
  refine iq (fun e => bi_0.mp e h2) ?_
  refine rv rfl ?_
  refine eX9_state_32 ?_
  refine ip (ixi h4 h3 (by decide)) ?_
  try rw [ixn h4 h3 (by decide)]
  refine rn h5 ?_
  refine eX9_state_44a ?_
  refine iq h6 ?_
  refine ip h7 ?_
  all_goals rfl
theorem qX9_state_11 {x1 : Int32} {x2 : Int32} {M : am_M} {j1 : Nat} (h1 : 0 ≤ x1 ∧ x1 ≤ ((M 9 0 7) - 1)) (h2 : 0 ≤ x2 ∧ x2 ≤ 6) (h3 : j1 < 40) (h4 : x1 = i3 j1) (h5 : fX9_cuvetteOf [.inr (9, 0), .inr (4, j1)] M = some (.inl (some (.inl .null)), M)) (h6 : ¬ (x2 = 0)) (h7 : ¬ (x2 = 1)) (h8 : x2 = 2) : fX9_state [.inr (9, 0), .inl (.int x1), .inl (.int x2)] M = am_rI (M 4 j1 5) M := by
  rw [eX9_state]
  refine eX9_state_0 ?_
  refine ri (sX9_isWithin _ _ _ _) ?_
  refine eX9_state_11 ?_
  refine iq (fun e => bi_0.mp e h1) ?_
  refine ri (sX9_isWithin _ _ _ _) ?_
  refine eX9_state_21 ?_
  refine iq (fun e => bi_0.mp e h2) ?_
  refine rv rfl ?_
  refine eX9_state_32 ?_
  refine ip (ixi h4 h3 (by decide)) ?_
  try rw [ixn h4 h3 (by decide)]
  refine rn h5 ?_
  refine eX9_state_44a ?_
  refine iq h6 ?_
  refine iq h7 ?_
  refine ip h8 ?_
  all_goals rfl
theorem qX9_state_12 {x1 : Int32} {x2 : Int32} {M : am_M} {j1 : Nat} (h1 : 0 ≤ x1 ∧ x1 ≤ ((M 9 0 7) - 1)) (h2 : 0 ≤ x2 ∧ x2 ≤ 6) (h3 : j1 < 40) (h4 : x1 = i3 j1) (h5 : fX9_cuvetteOf [.inr (9, 0), .inr (4, j1)] M = some (.inl (some (.inl .null)), M)) (h6 : ¬ (x2 = 0)) (h7 : ¬ (x2 = 1)) (h8 : ¬ (x2 = 2)) (h9 : x2 = 3) : fX9_state [.inr (9, 0), .inl (.int x1), .inl (.int x2)] M = am_rI (M 4 j1 7) M := by
  rw [eX9_state]
  refine eX9_state_0 ?_
  refine ri (sX9_isWithin _ _ _ _) ?_
  refine eX9_state_11 ?_
  refine iq (fun e => bi_0.mp e h1) ?_
  refine ri (sX9_isWithin _ _ _ _) ?_
  refine eX9_state_21 ?_
  refine iq (fun e => bi_0.mp e h2) ?_
  refine rv rfl ?_
  refine eX9_state_32 ?_
  refine ip (ixi h4 h3 (by decide)) ?_
  try rw [ixn h4 h3 (by decide)]
  refine rn h5 ?_
  refine eX9_state_44a ?_
  refine iq h6 ?_
  refine iq h7 ?_
  refine iq h8 ?_
  refine ip h9 ?_
  all_goals rfl
theorem qX9_state_13 {x1 : Int32} {x2 : Int32} {M : am_M} {j1 : Nat} (h1 : 0 ≤ x1 ∧ x1 ≤ ((M 9 0 7) - 1)) (h2 : 0 ≤ x2 ∧ x2 ≤ 6) (h3 : j1 < 40) (h4 : x1 = i3 j1) (h5 : fX9_cuvetteOf [.inr (9, 0), .inr (4, j1)] M = some (.inl (some (.inl .null)), M)) (h6 : ¬ (x2 = 0)) (h7 : ¬ (x2 = 1)) (h8 : ¬ (x2 = 2)) (h9 : ¬ (x2 = 3)) (h10 : x2 = 4) : fX9_state [.inr (9, 0), .inl (.int x1), .inl (.int x2)] M = am_rI (-1) M := by
  rw [eX9_state]
  refine eX9_state_0 ?_
  refine ri (sX9_isWithin _ _ _ _) ?_
  refine eX9_state_11 ?_
  refine iq (fun e => bi_0.mp e h1) ?_
  refine ri (sX9_isWithin _ _ _ _) ?_
  refine eX9_state_21 ?_
  refine iq (fun e => bi_0.mp e h2) ?_
  refine rv rfl ?_
  refine eX9_state_32 ?_
  refine ip (ixi h4 h3 (by decide)) ?_
  try rw [ixn h4 h3 (by decide)]
  refine rn h5 ?_
  refine eX9_state_44a ?_
  refine iq h6 ?_
  refine iq h7 ?_
  refine iq h8 ?_
  refine iq h9 ?_
  refine ip h10 ?_
  all_goals rfl
theorem qX9_state_14 {x1 : Int32} {x2 : Int32} {M : am_M} {j1 : Nat} (h1 : 0 ≤ x1 ∧ x1 ≤ ((M 9 0 7) - 1)) (h2 : 0 ≤ x2 ∧ x2 ≤ 6) (h3 : j1 < 40) (h4 : x1 = i3 j1) (h5 : fX9_cuvetteOf [.inr (9, 0), .inr (4, j1)] M = some (.inl (some (.inl .null)), M)) (h6 : ¬ (x2 = 0)) (h7 : ¬ (x2 = 1)) (h8 : ¬ (x2 = 2)) (h9 : ¬ (x2 = 3)) (h10 : ¬ (x2 = 4)) (h11 : x2 = 5) : fX9_state [.inr (9, 0), .inl (.int x1), .inl (.int x2)] M = am_rI (M 4 j1 8) M := by
  rw [eX9_state]
  refine eX9_state_0 ?_
  refine ri (sX9_isWithin _ _ _ _) ?_
  refine eX9_state_11 ?_
  refine iq (fun e => bi_0.mp e h1) ?_
  refine ri (sX9_isWithin _ _ _ _) ?_
  refine eX9_state_21 ?_
  refine iq (fun e => bi_0.mp e h2) ?_
  refine rv rfl ?_
  refine eX9_state_32 ?_
  refine ip (ixi h4 h3 (by decide)) ?_
  try rw [ixn h4 h3 (by decide)]
  refine rn h5 ?_
  refine eX9_state_44a ?_
  refine iq h6 ?_
  refine iq h7 ?_
  refine iq h8 ?_
  refine iq h9 ?_
  refine iq h10 ?_
  refine ip h11 ?_
  all_goals rfl
theorem qX9_state_15 {x1 : Int32} {x2 : Int32} {M : am_M} {j1 : Nat} (h1 : 0 ≤ x1 ∧ x1 ≤ ((M 9 0 7) - 1)) (h2 : 0 ≤ x2 ∧ x2 ≤ 6) (h3 : j1 < 40) (h4 : x1 = i3 j1) (h5 : fX9_cuvetteOf [.inr (9, 0), .inr (4, j1)] M = some (.inl (some (.inl .null)), M)) (h6 : ¬ (x2 = 0)) (h7 : ¬ (x2 = 1)) (h8 : ¬ (x2 = 2)) (h9 : ¬ (x2 = 3)) (h10 : ¬ (x2 = 4)) (h11 : ¬ (x2 = 5)) : fX9_state [.inr (9, 0), .inl (.int x1), .inl (.int x2)] M = am_rI (M 4 j1 9) M := by
  rw [eX9_state]
  refine eX9_state_0 ?_
  refine ri (sX9_isWithin _ _ _ _) ?_
  refine eX9_state_11 ?_
  refine iq (fun e => bi_0.mp e h1) ?_
  refine ri (sX9_isWithin _ _ _ _) ?_
  refine eX9_state_21 ?_
  refine iq (fun e => bi_0.mp e h2) ?_
  refine rv rfl ?_
  refine eX9_state_32 ?_
  refine ip (ixi h4 h3 (by decide)) ?_
  try rw [ixn h4 h3 (by decide)]
  refine rn h5 ?_
  refine eX9_state_44a ?_
  refine iq h6 ?_
  refine iq h7 ?_
  refine iq h8 ?_
  refine iq h9 ?_
  refine iq h10 ?_
  refine iq h11 ?_
  all_goals rfl
theorem qX10_state_0 {x1 : Int32} {x2 : Int32} {M : am_M} (h1 : x1 < 0) : fX10_state [.inr (10, 0), .inl (.int x1), .inl (.int x2)] M = am_rI 0 (am_put M 10 0 45 1) := by
  rw [eX10_state]
  refine eX10_state_0 ?_
  refine ip h1 ?_
  all_goals rfl
theorem qX10_state_1 {x1 : Int32} {x2 : Int32} {M : am_M} (h1 : ¬ (x1 < 0)) (h2 : (M 10 0 14) ≤ x1) : fX10_state [.inr (10, 0), .inl (.int x1), .inl (.int x2)] M = am_rI 0 (am_put M 10 0 45 1) := by
  rw [eX10_state]
  refine eX10_state_0 ?_
  refine iq h1 ?_
  refine ip h2 ?_
  all_goals rfl
theorem qX10_state_2 {x1 : Int32} {x2 : Int32} {M : am_M} (h1 : ¬ (x1 < 0)) (h2 : ¬ ((M 10 0 14) ≤ x1)) (h3 : ¬ (0 ≤ x2 ∧ x2 ≤ 6)) : fX10_state [.inr (10, 0), .inl (.int x1), .inl (.int x2)] M = am_rI 0 (am_put M 10 0 45 1) := by
  rw [eX10_state]
  refine eX10_state_0 ?_
  refine iq h1 ?_
  refine iq h2 ?_
  refine ri (sX10_within _ _ _ _) ?_
  refine eX10_state_20 ?_
  refine ip (bi_f h3) ?_
  all_goals rfl
theorem qX10_state_3 {x1 : Int32} {x2 : Int32} {M : am_M} {j1 : Nat} (h1 : ¬ (x1 < 0)) (h2 : ¬ ((M 10 0 14) ≤ x1)) (h3 : 0 ≤ x2 ∧ x2 ≤ 6) (h4 : x2 = 0) (h5 : j1 < 40) (h6 : x1 = i3 j1) : fX10_state [.inr (10, 0), .inl (.int x1), .inl (.int x2)] M = am_rI (M 48 0 j1) (am_put M 10 0 45 0) := by
  rw [eX10_state]
  refine eX10_state_0 ?_
  refine iq h1 ?_
  refine iq h2 ?_
  refine ri (sX10_within _ _ _ _) ?_
  refine eX10_state_20 ?_
  refine iq (fun e => bi_0.mp e h3) ?_
  refine ip h4 ?_
  refine ip (ixi h6 h5 (by decide)) ?_
  try rw [ixn h6 h5 (by decide)]
  all_goals rfl
theorem qX10_state_4 {x1 : Int32} {x2 : Int32} {M : am_M} {j1 : Nat} (h1 : ¬ (x1 < 0)) (h2 : ¬ ((M 10 0 14) ≤ x1)) (h3 : 0 ≤ x2 ∧ x2 ≤ 6) (h4 : ¬ (x2 = 0)) (h5 : x2 = 1) (h6 : j1 < 40) (h7 : x1 = i3 j1) : fX10_state [.inr (10, 0), .inl (.int x1), .inl (.int x2)] M = am_rI (M 49 0 j1) (am_put M 10 0 45 0) := by
  rw [eX10_state]
  refine eX10_state_0 ?_
  refine iq h1 ?_
  refine iq h2 ?_
  refine ri (sX10_within _ _ _ _) ?_
  refine eX10_state_20 ?_
  refine iq (fun e => bi_0.mp e h3) ?_
  refine iq h4 ?_
  refine ip h5 ?_
  refine ip (ixi h7 h6 (by decide)) ?_
  try rw [ixn h7 h6 (by decide)]
  all_goals rfl
theorem qX10_state_5 {x1 : Int32} {x2 : Int32} {M : am_M} {j1 : Nat} (h1 : ¬ (x1 < 0)) (h2 : ¬ ((M 10 0 14) ≤ x1)) (h3 : 0 ≤ x2 ∧ x2 ≤ 6) (h4 : ¬ (x2 = 0)) (h5 : ¬ (x2 = 1)) (h6 : x2 = 2) (h7 : j1 < 40) (h8 : x1 = i3 j1) : fX10_state [.inr (10, 0), .inl (.int x1), .inl (.int x2)] M = am_rI (M 50 0 j1) (am_put M 10 0 45 0) := by
  rw [eX10_state]
  refine eX10_state_0 ?_
  refine iq h1 ?_
  refine iq h2 ?_
  refine ri (sX10_within _ _ _ _) ?_
  refine eX10_state_20 ?_
  refine iq (fun e => bi_0.mp e h3) ?_
  refine iq h4 ?_
  refine iq h5 ?_
  refine ip h6 ?_
  refine ip (ixi h8 h7 (by decide)) ?_
  try rw [ixn h8 h7 (by decide)]
  all_goals rfl
theorem qX10_state_6 {x1 : Int32} {x2 : Int32} {M : am_M} {j1 : Nat} (h1 : ¬ (x1 < 0)) (h2 : ¬ ((M 10 0 14) ≤ x1)) (h3 : 0 ≤ x2 ∧ x2 ≤ 6) (h4 : ¬ (x2 = 0)) (h5 : ¬ (x2 = 1)) (h6 : ¬ (x2 = 2)) (h7 : x2 = 3) (h8 : j1 < 40) (h9 : x1 = i3 j1) : fX10_state [.inr (10, 0), .inl (.int x1), .inl (.int x2)] M = am_rI (M 51 0 j1) (am_put M 10 0 45 0) := by
  rw [eX10_state]
  refine eX10_state_0 ?_
  refine iq h1 ?_
  refine iq h2 ?_
  refine ri (sX10_within _ _ _ _) ?_
  refine eX10_state_20 ?_
  refine iq (fun e => bi_0.mp e h3) ?_
  refine iq h4 ?_
  refine iq h5 ?_
  refine iq h6 ?_
  refine ip h7 ?_
  refine ip (ixi h9 h8 (by decide)) ?_
  try rw [ixn h9 h8 (by decide)]
  all_goals rfl
theorem qX10_state_7 {x1 : Int32} {x2 : Int32} {M : am_M} {j1 : Nat} (h1 : ¬ (x1 < 0)) (h2 : ¬ ((M 10 0 14) ≤ x1)) (h3 : 0 ≤ x2 ∧ x2 ≤ 6) (h4 : ¬ (x2 = 0)) (h5 : ¬ (x2 = 1)) (h6 : ¬ (x2 = 2)) (h7 : ¬ (x2 = 3)) (h8 : x2 = 4) (h9 : j1 < 40) (h10 : x1 = i3 j1) (h11 : (M 48 0 j1) = 1) : fX10_state [.inr (10, 0), .inl (.int x1), .inl (.int x2)] M = am_rI (M 52 0 j1) (am_put M 10 0 45 0) := by
  rw [eX10_state]
  refine eX10_state_0 ?_
  refine iq h1 ?_
  refine iq h2 ?_
  refine ri (sX10_within _ _ _ _) ?_
  refine eX10_state_20 ?_
  refine iq (fun e => bi_0.mp e h3) ?_
  refine iq h4 ?_
  refine iq h5 ?_
  refine iq h6 ?_
  refine iq h7 ?_
  refine ip h8 ?_
  refine ip (ixi h10 h9 (by decide)) ?_
  try rw [ixn h10 h9 (by decide)]
  refine ip h11 ?_
  refine ip (ixi h10 h9 (by decide)) ?_
  try rw [ixn h10 h9 (by decide)]
  all_goals rfl
theorem qX10_state_8 {x1 : Int32} {x2 : Int32} {M : am_M} {j1 : Nat} (h1 : ¬ (x1 < 0)) (h2 : ¬ ((M 10 0 14) ≤ x1)) (h3 : 0 ≤ x2 ∧ x2 ≤ 6) (h4 : ¬ (x2 = 0)) (h5 : ¬ (x2 = 1)) (h6 : ¬ (x2 = 2)) (h7 : ¬ (x2 = 3)) (h8 : x2 = 4) (h9 : j1 < 40) (h10 : x1 = i3 j1) (h11 : ¬ ((M 48 0 j1) = 1)) : fX10_state [.inr (10, 0), .inl (.int x1), .inl (.int x2)] M = am_rI (-1) (am_put M 10 0 45 0) := by
  rw [eX10_state]
  refine eX10_state_0 ?_
  refine iq h1 ?_
  refine iq h2 ?_
  refine ri (sX10_within _ _ _ _) ?_
  refine eX10_state_20 ?_
  refine iq (fun e => bi_0.mp e h3) ?_
  refine iq h4 ?_
  refine iq h5 ?_
  refine iq h6 ?_
  refine iq h7 ?_
  refine ip h8 ?_
  refine ip (ixi h10 h9 (by decide)) ?_
  try rw [ixn h10 h9 (by decide)]
  refine iq h11 ?_
  all_goals rfl
theorem qX10_state_9 {x1 : Int32} {x2 : Int32} {M : am_M} {j1 : Nat} (h1 : ¬ (x1 < 0)) (h2 : ¬ ((M 10 0 14) ≤ x1)) (h3 : 0 ≤ x2 ∧ x2 ≤ 6) (h4 : ¬ (x2 = 0)) (h5 : ¬ (x2 = 1)) (h6 : ¬ (x2 = 2)) (h7 : ¬ (x2 = 3)) (h8 : ¬ (x2 = 4)) (h9 : x2 = 5) (h10 : j1 < 40) (h11 : x1 = i3 j1) : fX10_state [.inr (10, 0), .inl (.int x1), .inl (.int x2)] M = am_rI (M 57 0 j1) (am_put M 10 0 45 0) := by
  rw [eX10_state]
  refine eX10_state_0 ?_
  refine iq h1 ?_
  refine iq h2 ?_
  refine ri (sX10_within _ _ _ _) ?_
  refine eX10_state_20 ?_
  refine iq (fun e => bi_0.mp e h3) ?_
  refine iq h4 ?_
  refine iq h5 ?_
  refine iq h6 ?_
  refine iq h7 ?_
  refine iq h8 ?_
  refine ip h9 ?_
  refine ip (ixi h11 h10 (by decide)) ?_
  try rw [ixn h11 h10 (by decide)]
  all_goals rfl
theorem qX10_state_10 {x1 : Int32} {x2 : Int32} {M : am_M} {j1 : Nat} (h1 : ¬ (x1 < 0)) (h2 : ¬ ((M 10 0 14) ≤ x1)) (h3 : 0 ≤ x2 ∧ x2 ≤ 6) (h4 : ¬ (x2 = 0)) (h5 : ¬ (x2 = 1)) (h6 : ¬ (x2 = 2)) (h7 : ¬ (x2 = 3)) (h8 : ¬ (x2 = 4)) (h9 : ¬ (x2 = 5)) (h10 : j1 < 40) (h11 : x1 = i3 j1) : fX10_state [.inr (10, 0), .inl (.int x1), .inl (.int x2)] M = am_rI (M 58 0 j1) (am_put M 10 0 45 0) := by
  rw [eX10_state]
  refine eX10_state_0 ?_
  refine iq h1 ?_
  refine iq h2 ?_
  refine ri (sX10_within _ _ _ _) ?_
  refine eX10_state_20 ?_
  refine iq (fun e => bi_0.mp e h3) ?_
  refine iq h4 ?_
  refine iq h5 ?_
  refine iq h6 ?_
  refine iq h7 ?_
  refine iq h8 ?_
  refine iq h9 ?_
  refine ip (ixi h11 h10 (by decide)) ?_
  try rw [ixn h11 h10 (by decide)]
  all_goals rfl
theorem qL_state_0 {x1 : Int32} {x2 : Int32} {M : am_M} {M1 : am_M} (h1 : fX9_state [.inr (9, 0), .inl (.int x1), .inl (.int x2)] M = am_rE "java/lang/IllegalArgumentException" M1) : fL_state [.inr (9, 0), .inl (.int x1), .inl (.int x2), .inr (80, 0)] M = am_rI 1 M1 := by
  rw [eL_state]
  refine eL_state_0 ?_
  exact rh h1 rfl
theorem qL_state_1 {x1 : Int32} {x2 : Int32} {M : am_M} {v1 : Int32} (h1 : fX9_state [.inr (9, 0), .inl (.int x1), .inl (.int x2)] M = am_rI v1 M) : fL_state [.inr (9, 0), .inl (.int x1), .inl (.int x2), .inr (80, 0)] M = am_rI 0 (am_put (am_put M 80 0 (2 * 0) (am_hi (Int32.toInt64 v1))) 80 0 (2 * 0 + 1) (am_lo (Int32.toInt64 v1))) := by
  rw [eL_state]
  refine eL_state_0 ?_
  refine ri h1 ?_
  refine eL_state_8 ?_
  refine ip (by decide) ?_
  try rw [show Int32.toNatClampNeg (0 : Int32) = 0 from by decide]
  all_goals rfl
theorem qX9_cuvette_0 {x1 : Int32} {x2 : Int32} {M : am_M} (h1 : ¬ (0 ≤ x1 ∧ x1 ≤ 9)) : fX9_cuvette [.inr (9, 0), .inl (.int x1), .inl (.int x2)] M = am_rE "java/lang/IllegalArgumentException" M := by
  rw [eX9_cuvette]
  refine eX9_cuvette_0 ?_
  refine ri (sX9_isWithin _ _ _ _) ?_
  refine eX9_cuvette_7 ?_
  refine ip (bi_f h1) ?_
  exact re rfl
theorem qX9_cuvette_1 {x1 : Int32} {x2 : Int32} {M : am_M} (h1 : 0 ≤ x1 ∧ x1 ≤ 9) (h2 : ¬ (0 ≤ x2 ∧ x2 ≤ 2)) : fX9_cuvette [.inr (9, 0), .inl (.int x1), .inl (.int x2)] M = am_rE "java/lang/IllegalArgumentException" M := by
  rw [eX9_cuvette]
  refine eX9_cuvette_0 ?_
  refine ri (sX9_isWithin _ _ _ _) ?_
  refine eX9_cuvette_7 ?_
  refine iq (fun e => bi_0.mp e h1) ?_
  refine ri (sX9_isWithin _ _ _ _) ?_
  refine eX9_cuvette_16 ?_
  refine ip (bi_f h2) ?_
  exact re rfl
theorem qX9_cuvette_2 {x1 : Int32} {x2 : Int32} {M : am_M} {j1 : Nat} (h1 : 0 ≤ x1 ∧ x1 ≤ 9) (h2 : 0 ≤ x2 ∧ x2 ≤ 2) (h3 : j1 < 10) (h4 : x1 = i3 j1) (h5 : x2 = 0) : fX9_cuvette [.inr (9, 0), .inl (.int x1), .inl (.int x2)] M = am_rI (M 1 j1 5) M := by
  rw [eX9_cuvette]
  refine eX9_cuvette_0 ?_
  refine ri (sX9_isWithin _ _ _ _) ?_
  refine eX9_cuvette_7 ?_
  refine iq (fun e => bi_0.mp e h1) ?_
  refine ri (sX9_isWithin _ _ _ _) ?_
  refine eX9_cuvette_16 ?_
  refine iq (fun e => bi_0.mp e h2) ?_
  refine rv rfl ?_
  refine eX9_cuvette_27 ?_
  refine ip (ixi h4 h3 (by decide)) ?_
  try rw [ixn h4 h3 (by decide)]
  refine ip h5 ?_
  all_goals rfl
theorem qX9_cuvette_3 {x1 : Int32} {x2 : Int32} {M : am_M} {j1 : Nat} (h1 : 0 ≤ x1 ∧ x1 ≤ 9) (h2 : 0 ≤ x2 ∧ x2 ≤ 2) (h3 : j1 < 10) (h4 : x1 = i3 j1) (h5 : ¬ (x2 = 0)) (h6 : x2 = 1) : fX9_cuvette [.inr (9, 0), .inl (.int x1), .inl (.int x2)] M = am_rI (M 1 j1 8) M := by
  rw [eX9_cuvette]
  refine eX9_cuvette_0 ?_
  refine ri (sX9_isWithin _ _ _ _) ?_
  refine eX9_cuvette_7 ?_
  refine iq (fun e => bi_0.mp e h1) ?_
  refine ri (sX9_isWithin _ _ _ _) ?_
  refine eX9_cuvette_16 ?_
  refine iq (fun e => bi_0.mp e h2) ?_
  refine rv rfl ?_
  refine eX9_cuvette_27 ?_
  refine ip (ixi h4 h3 (by decide)) ?_
  try rw [ixn h4 h3 (by decide)]
  refine iq h5 ?_
  refine ip h6 ?_
  all_goals rfl
theorem qX9_cuvette_4 {x1 : Int32} {x2 : Int32} {M : am_M} {j1 : Nat} (h1 : 0 ≤ x1 ∧ x1 ≤ 9) (h2 : 0 ≤ x2 ∧ x2 ≤ 2) (h3 : j1 < 10) (h4 : x1 = i3 j1) (h5 : ¬ (x2 = 0)) (h6 : ¬ (x2 = 1)) : fX9_cuvette [.inr (9, 0), .inl (.int x1), .inl (.int x2)] M = am_rI (M 1 j1 9) M := by
  rw [eX9_cuvette]
  refine eX9_cuvette_0 ?_
  refine ri (sX9_isWithin _ _ _ _) ?_
  refine eX9_cuvette_7 ?_
  refine iq (fun e => bi_0.mp e h1) ?_
  refine ri (sX9_isWithin _ _ _ _) ?_
  refine eX9_cuvette_16 ?_
  refine iq (fun e => bi_0.mp e h2) ?_
  refine rv rfl ?_
  refine eX9_cuvette_27 ?_
  refine ip (ixi h4 h3 (by decide)) ?_
  try rw [ixn h4 h3 (by decide)]
  refine iq h5 ?_
  refine iq h6 ?_
  all_goals rfl
theorem qX10_cuvette_0 {x1 : Int32} {x2 : Int32} {M : am_M} (h1 : ¬ (0 ≤ x1 ∧ x1 ≤ 9)) : fX10_cuvette [.inr (10, 0), .inl (.int x1), .inl (.int x2)] M = am_rI 0 (am_put M 10 0 45 1) := by
  rw [eX10_cuvette]
  refine eX10_cuvette_0 ?_
  refine ri (sX10_within _ _ _ _) ?_
  refine eX10_cuvette_8 ?_
  refine ip (bi_f h1) ?_
  all_goals rfl
theorem qX10_cuvette_1 {x1 : Int32} {x2 : Int32} {M : am_M} (h1 : 0 ≤ x1 ∧ x1 ≤ 9) (h2 : ¬ (0 ≤ x2 ∧ x2 ≤ 2)) : fX10_cuvette [.inr (10, 0), .inl (.int x1), .inl (.int x2)] M = am_rI 0 (am_put M 10 0 45 1) := by
  rw [eX10_cuvette]
  refine eX10_cuvette_0 ?_
  refine ri (sX10_within _ _ _ _) ?_
  refine eX10_cuvette_8 ?_
  refine iq (fun e => bi_0.mp e h1) ?_
  refine ri (sX10_within _ _ _ _) ?_
  refine eX10_cuvette_17 ?_
  refine ip (bi_f h2) ?_
  all_goals rfl
theorem qX10_cuvette_2 {x1 : Int32} {x2 : Int32} {M : am_M} {j1 : Nat} (h1 : 0 ≤ x1 ∧ x1 ≤ 9) (h2 : 0 ≤ x2 ∧ x2 ≤ 2) (h3 : x2 = 1) (h4 : j1 < 10) (h5 : x1 = i3 j1) : fX10_cuvette [.inr (10, 0), .inl (.int x1), .inl (.int x2)] M = am_rI (M 59 0 j1) (am_put M 10 0 45 0) := by
  rw [eX10_cuvette]
  refine eX10_cuvette_0 ?_
  refine ri (sX10_within _ _ _ _) ?_
  refine eX10_cuvette_8 ?_
  refine iq (fun e => bi_0.mp e h1) ?_
  refine ri (sX10_within _ _ _ _) ?_
  refine eX10_cuvette_17 ?_
  refine iq (fun e => bi_0.mp e h2) ?_
  refine ip h3 ?_
  refine ip (ixi h5 h4 (by decide)) ?_
  try rw [ixn h5 h4 (by decide)]
  all_goals rfl
theorem qX10_cuvette_3 {x1 : Int32} {x2 : Int32} {M : am_M} {j1 : Nat} (h1 : 0 ≤ x1 ∧ x1 ≤ 9) (h2 : 0 ≤ x2 ∧ x2 ≤ 2) (h3 : ¬ (x2 = 1)) (h4 : x2 = 2) (h5 : j1 < 10) (h6 : x1 = i3 j1) : fX10_cuvette [.inr (10, 0), .inl (.int x1), .inl (.int x2)] M = am_rI (M 60 0 j1) (am_put M 10 0 45 0) := by
  rw [eX10_cuvette]
  refine eX10_cuvette_0 ?_
  refine ri (sX10_within _ _ _ _) ?_
  refine eX10_cuvette_8 ?_
  refine iq (fun e => bi_0.mp e h1) ?_
  refine ri (sX10_within _ _ _ _) ?_
  refine eX10_cuvette_17 ?_
  refine iq (fun e => bi_0.mp e h2) ?_
  refine iq h3 ?_
  refine ip h4 ?_
  refine ip (ixi h6 h5 (by decide)) ?_
  try rw [ixn h6 h5 (by decide)]
  all_goals rfl
theorem qX10_cuvette_4 {x1 : Int32} {x2 : Int32} {M : am_M} {res : am_O × am_M} (h1 : 0 ≤ x1 ∧ x1 ≤ 9) (h2 : 0 ≤ x2 ∧ x2 ≤ 2) (h3 : ¬ (x2 = 1)) (h4 : ¬ (x2 = 2)) (k : rX10_cuvette 99700 63 [.inr (10, 0), .inl (.int x1), .inl (.int x2), .inl (.int 0)] [] (am_put M 10 0 45 0) = some res) : fX10_cuvette [.inr (10, 0), .inl (.int x1), .inl (.int x2)] M = some res := by
  rw [eX10_cuvette]
  refine eX10_cuvette_0 ?_
  refine ri (sX10_within _ _ _ _) ?_
  refine eX10_cuvette_8 ?_
  refine iq (fun e => bi_0.mp e h1) ?_
  refine ri (sX10_within _ _ _ _) ?_
  refine eX10_cuvette_17 ?_
  refine iq (fun e => bi_0.mp e h2) ?_
  refine iq h3 ?_
  refine iq h4 ?_
  exact k
theorem mX10_cuvette {n m pc : Nat} {ls st : List am_V} {M : am_M} {res : am_O × am_M} (h : rX10_cuvette n pc ls st M = some res) (hm : n ≤ m) : rX10_cuvette m pc ls st M = some res := by
  have h2 := am_run_mono_add h (m - n)
  rw [show n + (m - n) = m by omega] at h2
  exact h2
theorem qX10_cuvette_63_0 {x1 : Int32} {x2 : Int32} {x3 : Nat} {M : am_M} {n : Nat} (h1 : (M 10 0 14) ≤ (i3 x3)) : rX10_cuvette (n + 100) 63 [.inr (10, 0), .inl (.int x1), .inl (.int x2), .inl (.int (i3 x3))] [] M = am_rI (-1) M := by
  refine eX10_cuvette_63 ?_
  refine ip h1 ?_
  all_goals rfl
theorem qX10_cuvette_63_1 {x1 : Int32} {x2 : Int32} {x3 : Nat} {M : am_M} {n : Nat} (h1 : ¬ ((M 10 0 14) ≤ (i3 x3))) (h2 : x3 < 40) (h3 : (M 51 0 x3) = x1) : rX10_cuvette (n + 100) 63 [.inr (10, 0), .inl (.int x1), .inl (.int x2), .inl (.int (i3 x3))] [] M = am_rI (i3 x3) M := by
  refine eX10_cuvette_63 ?_
  refine iq h1 ?_
  refine ip (i3_in' h2 (by decide)) ?_
  try rw [ixm h2 (by decide)]
  refine ip h3 ?_
  all_goals rfl
theorem qX10_cuvette_63_2 {x1 : Int32} {x2 : Int32} {x3 : Nat} {M : am_M} {n : Nat} {res : am_O × am_M} (h1 : ¬ ((M 10 0 14) ≤ (i3 x3))) (h2 : x3 < 40) (h3 : ¬ ((M 51 0 x3) = x1)) (k : rX10_cuvette n 63 [.inr (10, 0), .inl (.int x1), .inl (.int x2), .inl (.int (i3 (x3 + 1)))] [] M = some res) : rX10_cuvette (n + 100) 63 [.inr (10, 0), .inl (.int x1), .inl (.int x2), .inl (.int (i3 x3))] [] M = some res := by
  refine eX10_cuvette_63 ?_
  refine iq h1 ?_
  refine ip (i3_in' h2 (by decide)) ?_
  try rw [ixm h2 (by decide)]
  refine iq h3 ?_
  rw [i3_one]
  exact k
theorem qL_cuvette_0 {x1 : Int32} {x2 : Int32} {M : am_M} {M1 : am_M} (h1 : fX9_cuvette [.inr (9, 0), .inl (.int x1), .inl (.int x2)] M = am_rE "java/lang/IllegalArgumentException" M1) : fL_cuvette [.inr (9, 0), .inl (.int x1), .inl (.int x2), .inr (80, 0)] M = am_rI 1 M1 := by
  rw [eL_cuvette]
  refine eL_cuvette_0 ?_
  exact rh h1 rfl
theorem qL_cuvette_1 {x1 : Int32} {x2 : Int32} {M : am_M} {v1 : Int32} (h1 : fX9_cuvette [.inr (9, 0), .inl (.int x1), .inl (.int x2)] M = am_rI v1 M) : fL_cuvette [.inr (9, 0), .inl (.int x1), .inl (.int x2), .inr (80, 0)] M = am_rI 0 (am_put (am_put M 80 0 (2 * 0) (am_hi (Int32.toInt64 v1))) 80 0 (2 * 0 + 1) (am_lo (Int32.toInt64 v1))) := by
  rw [eL_cuvette]
  refine eL_cuvette_0 ?_
  refine ri h1 ?_
  refine eL_cuvette_8 ?_
  refine ip (by decide) ?_
  try rw [show Int32.toNatClampNeg (0 : Int32) = 0 from by decide]
  all_goals rfl
theorem qX9_volume_0 {x1 : Int32} {x2 : Int32} {M : am_M} (h1 : ¬ (0 ≤ x1 ∧ x1 ≤ 2)) : fX9_volume [.inr (9, 0), .inl (.int x1), .inl (.int x2)] M = am_rE "java/lang/IllegalArgumentException" M := by
  rw [eX9_volume]
  refine eX9_volume_0 ?_
  refine ri (sX9_isWithin _ _ _ _) ?_
  refine eX9_volume_6 ?_
  refine ip (bi_f h1) ?_
  exact re rfl
theorem qX9_volume_1 {x1 : Int32} {x2 : Int32} {M : am_M} (h1 : 0 ≤ x1 ∧ x1 ≤ 2) (h2 : x1 = 0) (h3 : ¬ (0 ≤ x2 ∧ x2 ≤ 5)) : fX9_volume [.inr (9, 0), .inl (.int x1), .inl (.int x2)] M = am_rE "java/lang/IllegalArgumentException" M := by
  rw [eX9_volume]
  refine eX9_volume_0 ?_
  refine ri (sX9_isWithin _ _ _ _) ?_
  refine eX9_volume_6 ?_
  refine iq (fun e => bi_0.mp e h1) ?_
  refine ip h2 ?_
  refine ri (sX9_isWithin _ _ _ _) ?_
  refine eX9_volume_27 ?_
  refine ip (bi_f h3) ?_
  exact re rfl
theorem qX9_volume_2 {x1 : Int32} {x2 : Int32} {M : am_M} {j1 : Nat} (h1 : 0 ≤ x1 ∧ x1 ≤ 2) (h2 : x1 = 0) (h3 : 0 ≤ x2 ∧ x2 ≤ 5) (h4 : j1 < 6) (h5 : x2 = i3 j1) (h6 : ¬ ((M 8 j1 0) = -1)) : fX9_volume [.inr (9, 0), .inl (.int x1), .inl (.int x2)] M = am_rI (M 8 j1 2) M := by
  rw [eX9_volume]
  refine eX9_volume_0 ?_
  refine ri (sX9_isWithin _ _ _ _) ?_
  refine eX9_volume_6 ?_
  refine iq (fun e => bi_0.mp e h1) ?_
  refine ip h2 ?_
  refine ri (sX9_isWithin _ _ _ _) ?_
  refine eX9_volume_27 ?_
  refine iq (fun e => bi_0.mp e h3) ?_
  refine rv rfl ?_
  refine eX9_volume_38 ?_
  refine ip h2 ?_
  refine ip (ixi h5 h4 (by decide)) ?_
  try rw [ixn h5 h4 (by decide)]
  refine ri (sX8_isEmpty _ _) ?_
  refine eX9_volume_51 ?_
  refine ip (bi_f h6) ?_
  refine rv rfl ?_
  refine eX9_volume_62 ?_
  refine ip (ixi h5 h4 (by decide)) ?_
  try rw [ixn h5 h4 (by decide)]
  all_goals rfl
theorem qX9_volume_3 {x1 : Int32} {x2 : Int32} {M : am_M} {j1 : Nat} (h1 : 0 ≤ x1 ∧ x1 ≤ 2) (h2 : x1 = 0) (h3 : 0 ≤ x2 ∧ x2 ≤ 5) (h4 : j1 < 6) (h5 : x2 = i3 j1) (h6 : (M 8 j1 0) = -1) : fX9_volume [.inr (9, 0), .inl (.int x1), .inl (.int x2)] M = am_rE "java/util/NoSuchElementException" M := by
  rw [eX9_volume]
  refine eX9_volume_0 ?_
  refine ri (sX9_isWithin _ _ _ _) ?_
  refine eX9_volume_6 ?_
  refine iq (fun e => bi_0.mp e h1) ?_
  refine ip h2 ?_
  refine ri (sX9_isWithin _ _ _ _) ?_
  refine eX9_volume_27 ?_
  refine iq (fun e => bi_0.mp e h3) ?_
  refine rv rfl ?_
  refine eX9_volume_38 ?_
  refine ip h2 ?_
  refine ip (ixi h5 h4 (by decide)) ?_
  try rw [ixn h5 h4 (by decide)]
  refine ri (sX8_isEmpty _ _) ?_
  refine eX9_volume_51 ?_
  refine iq (fun e => bi_0.mp e h6) ?_
  exact re rfl
theorem qX9_volume_4 {x1 : Int32} {x2 : Int32} {M : am_M} (h1 : 0 ≤ x1 ∧ x1 ≤ 2) (h2 : ¬ (x1 = 0)) (h3 : ¬ (0 ≤ x2 ∧ x2 ≤ 7)) : fX9_volume [.inr (9, 0), .inl (.int x1), .inl (.int x2)] M = am_rE "java/lang/IllegalArgumentException" M := by
  rw [eX9_volume]
  refine eX9_volume_0 ?_
  refine ri (sX9_isWithin _ _ _ _) ?_
  refine eX9_volume_6 ?_
  refine iq (fun e => bi_0.mp e h1) ?_
  refine iq h2 ?_
  refine ri (sX9_isWithin _ _ _ _) ?_
  refine eX9_volume_27 ?_
  refine ip (bi_f h3) ?_
  exact re rfl
theorem qX9_volume_5 {x1 : Int32} {x2 : Int32} {M : am_M} {j1 : Nat} (h1 : 0 ≤ x1 ∧ x1 ≤ 2) (h2 : ¬ (x1 = 0)) (h3 : 0 ≤ x2 ∧ x2 ≤ 7) (h4 : j1 < 8) (h5 : x2 = i3 j1) (h6 : ¬ ((M 5 j1 0) = -1)) (h7 : x1 = 1) : fX9_volume [.inr (9, 0), .inl (.int x1), .inl (.int x2)] M = am_rI (M 5 j1 1) M := by
  rw [eX9_volume]
  refine eX9_volume_0 ?_
  refine ri (sX9_isWithin _ _ _ _) ?_
  refine eX9_volume_6 ?_
  refine iq (fun e => bi_0.mp e h1) ?_
  refine iq h2 ?_
  refine ri (sX9_isWithin _ _ _ _) ?_
  refine eX9_volume_27 ?_
  refine iq (fun e => bi_0.mp e h3) ?_
  refine rv rfl ?_
  refine eX9_volume_38 ?_
  refine iq h2 ?_
  refine ip (ixi h5 h4 (by decide)) ?_
  try rw [ixn h5 h4 (by decide)]
  refine ri (sX5_isEmpty _ _) ?_
  refine eX9_volume_81 ?_
  refine ip (bi_f h6) ?_
  refine rv rfl ?_
  refine eX9_volume_92 ?_
  refine ip h7 ?_
  refine ip (ixi h5 h4 (by decide)) ?_
  try rw [ixn h5 h4 (by decide)]
  all_goals rfl
theorem qX9_volume_6 {x1 : Int32} {x2 : Int32} {M : am_M} {j1 : Nat} (h1 : 0 ≤ x1 ∧ x1 ≤ 2) (h2 : ¬ (x1 = 0)) (h3 : 0 ≤ x2 ∧ x2 ≤ 7) (h4 : j1 < 8) (h5 : x2 = i3 j1) (h6 : ¬ ((M 5 j1 0) = -1)) (h7 : ¬ (x1 = 1)) : fX9_volume [.inr (9, 0), .inl (.int x1), .inl (.int x2)] M = am_rI (M 5 j1 2) M := by
  rw [eX9_volume]
  refine eX9_volume_0 ?_
  refine ri (sX9_isWithin _ _ _ _) ?_
  refine eX9_volume_6 ?_
  refine iq (fun e => bi_0.mp e h1) ?_
  refine iq h2 ?_
  refine ri (sX9_isWithin _ _ _ _) ?_
  refine eX9_volume_27 ?_
  refine iq (fun e => bi_0.mp e h3) ?_
  refine rv rfl ?_
  refine eX9_volume_38 ?_
  refine iq h2 ?_
  refine ip (ixi h5 h4 (by decide)) ?_
  try rw [ixn h5 h4 (by decide)]
  refine ri (sX5_isEmpty _ _) ?_
  refine eX9_volume_81 ?_
  refine ip (bi_f h6) ?_
  refine rv rfl ?_
  refine eX9_volume_92 ?_
  refine iq h7 ?_
  refine ip (ixi h5 h4 (by decide)) ?_
  try rw [ixn h5 h4 (by decide)]
  all_goals rfl
theorem qX9_volume_7 {x1 : Int32} {x2 : Int32} {M : am_M} {j1 : Nat} (h1 : 0 ≤ x1 ∧ x1 ≤ 2) (h2 : ¬ (x1 = 0)) (h3 : 0 ≤ x2 ∧ x2 ≤ 7) (h4 : j1 < 8) (h5 : x2 = i3 j1) (h6 : (M 5 j1 0) = -1) : fX9_volume [.inr (9, 0), .inl (.int x1), .inl (.int x2)] M = am_rE "java/util/NoSuchElementException" M := by
  rw [eX9_volume]
  refine eX9_volume_0 ?_
  refine ri (sX9_isWithin _ _ _ _) ?_
  refine eX9_volume_6 ?_
  refine iq (fun e => bi_0.mp e h1) ?_
  refine iq h2 ?_
  refine ri (sX9_isWithin _ _ _ _) ?_
  refine eX9_volume_27 ?_
  refine iq (fun e => bi_0.mp e h3) ?_
  refine rv rfl ?_
  refine eX9_volume_38 ?_
  refine iq h2 ?_
  refine ip (ixi h5 h4 (by decide)) ?_
  try rw [ixn h5 h4 (by decide)]
  refine ri (sX5_isEmpty _ _) ?_
  refine eX9_volume_81 ?_
  refine iq (fun e => bi_0.mp e h6) ?_
  exact re rfl
theorem qX10_volume_0 {x1 : Int32} {x2 : Int32} {M : am_M} (h1 : ¬ (0 ≤ x1 ∧ x1 ≤ 2)) : fX10_volume [.inr (10, 0), .inl (.int x1), .inl (.int x2)] M = am_rI 0 (am_put M 10 0 45 1) := by
  rw [eX10_volume]
  refine eX10_volume_0 ?_
  refine ri (sX10_within _ _ _ _) ?_
  refine eX10_volume_6 ?_
  refine ip (bi_f h1) ?_
  all_goals rfl
theorem qX10_volume_1 {x1 : Int32} {x2 : Int32} {M : am_M} (h1 : 0 ≤ x1 ∧ x1 ≤ 2) (h2 : x1 = 0) (h3 : ¬ (0 ≤ x2 ∧ x2 ≤ 5)) : fX10_volume [.inr (10, 0), .inl (.int x1), .inl (.int x2)] M = am_rI 0 (am_put M 10 0 45 1) := by
  rw [eX10_volume]
  refine eX10_volume_0 ?_
  refine ri (sX10_within _ _ _ _) ?_
  refine eX10_volume_6 ?_
  refine iq (fun e => bi_0.mp e h1) ?_
  refine ip h2 ?_
  refine ri (sX10_within _ _ _ _) ?_
  refine eX10_volume_24 ?_
  refine ip (bi_f h3) ?_
  all_goals rfl
theorem qX10_volume_2 {x1 : Int32} {x2 : Int32} {M : am_M} {j1 : Nat} (h1 : 0 ≤ x1 ∧ x1 ≤ 2) (h2 : x1 = 0) (h3 : 0 ≤ x2 ∧ x2 ≤ 5) (h4 : j1 < 6) (h5 : x2 = i3 j1) (h6 : (M 37 0 j1) = 0) : fX10_volume [.inr (10, 0), .inl (.int x1), .inl (.int x2)] M = am_rI 0 (am_put M 10 0 45 2) := by
  rw [eX10_volume]
  refine eX10_volume_0 ?_
  refine ri (sX10_within _ _ _ _) ?_
  refine eX10_volume_6 ?_
  refine iq (fun e => bi_0.mp e h1) ?_
  refine ip h2 ?_
  refine ri (sX10_within _ _ _ _) ?_
  refine eX10_volume_24 ?_
  refine iq (fun e => bi_0.mp e h3) ?_
  refine ip h2 ?_
  refine ip (ixi h5 h4 (by decide)) ?_
  try rw [ixn h5 h4 (by decide)]
  refine ip h6 ?_
  all_goals rfl
theorem qX10_volume_3 {x1 : Int32} {x2 : Int32} {M : am_M} {j1 : Nat} (h1 : 0 ≤ x1 ∧ x1 ≤ 2) (h2 : x1 = 0) (h3 : 0 ≤ x2 ∧ x2 ≤ 5) (h4 : j1 < 6) (h5 : x2 = i3 j1) (h6 : ¬ ((M 37 0 j1) = 0)) : fX10_volume [.inr (10, 0), .inl (.int x1), .inl (.int x2)] M = am_rI (M 39 0 j1) (am_put M 10 0 45 0) := by
  rw [eX10_volume]
  refine eX10_volume_0 ?_
  refine ri (sX10_within _ _ _ _) ?_
  refine eX10_volume_6 ?_
  refine iq (fun e => bi_0.mp e h1) ?_
  refine ip h2 ?_
  refine ri (sX10_within _ _ _ _) ?_
  refine eX10_volume_24 ?_
  refine iq (fun e => bi_0.mp e h3) ?_
  refine ip h2 ?_
  refine ip (ixi h5 h4 (by decide)) ?_
  try rw [ixn h5 h4 (by decide)]
  refine iq h6 ?_
  refine ip h2 ?_
  refine ip (ixi h5 h4 (by decide)) ?_
  try rw [ixn h5 h4 (by decide)]
  refine eX10_volume_116 ?_
  try simp only [am_put_nk, am_put_nf, not_false_eq_true, Nat.reduceEqDiff]
  all_goals rfl
theorem qX10_volume_4 {x1 : Int32} {x2 : Int32} {M : am_M} (h1 : 0 ≤ x1 ∧ x1 ≤ 2) (h2 : ¬ (x1 = 0)) (h3 : ¬ (0 ≤ x2 ∧ x2 ≤ 7)) : fX10_volume [.inr (10, 0), .inl (.int x1), .inl (.int x2)] M = am_rI 0 (am_put M 10 0 45 1) := by
  rw [eX10_volume]
  refine eX10_volume_0 ?_
  refine ri (sX10_within _ _ _ _) ?_
  refine eX10_volume_6 ?_
  refine iq (fun e => bi_0.mp e h1) ?_
  refine iq h2 ?_
  refine ri (sX10_within _ _ _ _) ?_
  refine eX10_volume_24 ?_
  refine ip (bi_f h3) ?_
  all_goals rfl
theorem qX10_volume_5 {x1 : Int32} {x2 : Int32} {M : am_M} {j1 : Nat} (h1 : 0 ≤ x1 ∧ x1 ≤ 2) (h2 : ¬ (x1 = 0)) (h3 : 0 ≤ x2 ∧ x2 ≤ 7) (h4 : j1 < 8) (h5 : x2 = i3 j1) (h6 : 0 ≤ (M 40 0 j1)) (h7 : x1 = 1) : fX10_volume [.inr (10, 0), .inl (.int x1), .inl (.int x2)] M = am_rI (M 41 0 j1) (am_put M 10 0 45 0) := by
  rw [eX10_volume]
  refine eX10_volume_0 ?_
  refine ri (sX10_within _ _ _ _) ?_
  refine eX10_volume_6 ?_
  refine iq (fun e => bi_0.mp e h1) ?_
  refine iq h2 ?_
  refine ri (sX10_within _ _ _ _) ?_
  refine eX10_volume_24 ?_
  refine iq (fun e => bi_0.mp e h3) ?_
  refine iq h2 ?_
  refine ip (ixi h5 h4 (by decide)) ?_
  try rw [ixn h5 h4 (by decide)]
  refine ip h6 ?_
  refine iq h2 ?_
  refine ip h7 ?_
  refine ip (ixi h5 h4 (by decide)) ?_
  try rw [ixn h5 h4 (by decide)]
  refine eX10_volume_116 ?_
  try simp only [am_put_nk, am_put_nf, not_false_eq_true, Nat.reduceEqDiff]
  all_goals rfl
theorem qX10_volume_6 {x1 : Int32} {x2 : Int32} {M : am_M} {j1 : Nat} {v2 : Int32} (h1 : 0 ≤ x1 ∧ x1 ≤ 2) (h2 : ¬ (x1 = 0)) (h3 : 0 ≤ x2 ∧ x2 ≤ 7) (h4 : j1 < 8) (h5 : x2 = i3 j1) (h6 : 0 ≤ (M 40 0 j1)) (h7 : ¬ (x1 = 1)) (h8 : fX10_reserved [.inr (10, 0), .inl (.int x2)] (am_put M 10 0 45 0) = am_rI v2 (am_put M 10 0 45 0)) : fX10_volume [.inr (10, 0), .inl (.int x1), .inl (.int x2)] M = am_rI v2 (am_put M 10 0 45 0) := by
  rw [eX10_volume]
  refine eX10_volume_0 ?_
  refine ri (sX10_within _ _ _ _) ?_
  refine eX10_volume_6 ?_
  refine iq (fun e => bi_0.mp e h1) ?_
  refine iq h2 ?_
  refine ri (sX10_within _ _ _ _) ?_
  refine eX10_volume_24 ?_
  refine iq (fun e => bi_0.mp e h3) ?_
  refine iq h2 ?_
  refine ip (ixi h5 h4 (by decide)) ?_
  try rw [ixn h5 h4 (by decide)]
  refine ip h6 ?_
  refine iq h2 ?_
  refine iq h7 ?_
  refine ri h8 ?_
  refine eX10_volume_116 ?_
  try simp only [am_put_nk, am_put_nf, not_false_eq_true, Nat.reduceEqDiff]
  all_goals rfl
theorem qX10_volume_7 {x1 : Int32} {x2 : Int32} {M : am_M} {j1 : Nat} (h1 : 0 ≤ x1 ∧ x1 ≤ 2) (h2 : ¬ (x1 = 0)) (h3 : 0 ≤ x2 ∧ x2 ≤ 7) (h4 : j1 < 8) (h5 : x2 = i3 j1) (h6 : ¬ (0 ≤ (M 40 0 j1))) : fX10_volume [.inr (10, 0), .inl (.int x1), .inl (.int x2)] M = am_rI 0 (am_put M 10 0 45 2) := by
  rw [eX10_volume]
  refine eX10_volume_0 ?_
  refine ri (sX10_within _ _ _ _) ?_
  refine eX10_volume_6 ?_
  refine iq (fun e => bi_0.mp e h1) ?_
  refine iq h2 ?_
  refine ri (sX10_within _ _ _ _) ?_
  refine eX10_volume_24 ?_
  refine iq (fun e => bi_0.mp e h3) ?_
  refine iq h2 ?_
  refine ip (ixi h5 h4 (by decide)) ?_
  try rw [ixn h5 h4 (by decide)]
  refine iq h6 ?_
  all_goals rfl
theorem qL_volume_0 {x1 : Int32} {x2 : Int32} {M : am_M} {M1 : am_M} (h1 : fX9_volume [.inr (9, 0), .inl (.int x1), .inl (.int x2)] M = am_rE "java/lang/IllegalArgumentException" M1) : fL_volume [.inr (9, 0), .inl (.int x1), .inl (.int x2), .inr (80, 0)] M = am_rI 1 M1 := by
  rw [eL_volume]
  refine eL_volume_0 ?_
  exact rh h1 rfl
theorem qL_volume_1 {x1 : Int32} {x2 : Int32} {M : am_M} {M1 : am_M} (h1 : fX9_volume [.inr (9, 0), .inl (.int x1), .inl (.int x2)] M = am_rE "java/util/NoSuchElementException" M1) : fL_volume [.inr (9, 0), .inl (.int x1), .inl (.int x2), .inr (80, 0)] M = am_rI 2 M1 := by
  rw [eL_volume]
  refine eL_volume_0 ?_
  exact rh h1 rfl
theorem qL_volume_2 {x1 : Int32} {x2 : Int32} {M : am_M} {v1 : Int32} (h1 : fX9_volume [.inr (9, 0), .inl (.int x1), .inl (.int x2)] M = am_rI v1 M) : fL_volume [.inr (9, 0), .inl (.int x1), .inl (.int x2), .inr (80, 0)] M = am_rI 0 (am_put (am_put M 80 0 (2 * 0) (am_hi (Int32.toInt64 v1))) 80 0 (2 * 0 + 1) (am_lo (Int32.toInt64 v1))) := by
  rw [eL_volume]
  refine eL_volume_0 ?_
  refine ri h1 ?_
  refine eL_volume_8 ?_
  refine ip (by decide) ?_
  try rw [show Int32.toNatClampNeg (0 : Int32) = 0 from by decide]
  all_goals rfl
theorem qX9_trend_0 {x1 : Int32} {x2 : Int32} {M : am_M} (h1 : ¬ (0 ≤ x1 ∧ x1 ≤ 3)) : fX9_trend [.inr (9, 0), .inl (.int x1), .inl (.int x2)] M = am_rE "java/lang/IllegalArgumentException" M := by
  rw [eX9_trend]
  refine eX9_trend_0 ?_
  refine ri (sX9_isWithin _ _ _ _) ?_
  refine eX9_trend_6 ?_
  exact re (if_pos (bi_f h1))
theorem qX9_trend_1 {x1 : Int32} {x2 : Int32} {M : am_M} {j1 : Nat} (h1 : 0 ≤ x1 ∧ x1 ≤ 3) (h2 : j1 < 4) (h3 : x1 = i3 j1) (h4 : ¬ (0 ≤ x2 ∧ x2 ≤ ((M 2 j1 1) - 1))) : fX9_trend [.inr (9, 0), .inl (.int x1), .inl (.int x2)] M = am_rE "java/lang/IndexOutOfBoundsException" M := by
  rw [eX9_trend]
  refine eX9_trend_0 ?_
  refine ri (sX9_isWithin _ _ _ _) ?_
  refine eX9_trend_6 ?_
  refine rv (if_neg (fun e => bi_0.mp e h1)) ?_
  refine eX9_trend_9 ?_
  refine ip (ixi h3 h2 (by decide)) ?_
  try rw [ixn h3 h2 (by decide)]
  refine ri (sX9_isWithin _ _ _ _) ?_
  refine eX9_trend_30 ?_
  exact re (if_pos (bi_f h4))
theorem qX9_trend_2 {x1 : Int32} {x2 : Int32} {M : am_M} {j1 : Nat} {v2 : Int32} (h1 : 0 ≤ x1 ∧ x1 ≤ 3) (h2 : j1 < 4) (h3 : x1 = i3 j1) (h4 : 0 ≤ x2 ∧ x2 ≤ ((M 2 j1 1) - 1)) (h5 : fX2_fromLatest [.inr (2, j1), .inl (.int x2)] M = am_rI v2 M) : fX9_trend [.inr (9, 0), .inl (.int x1), .inl (.int x2)] M = am_rI v2 M := by
  rw [eX9_trend]
  refine eX9_trend_0 ?_
  refine ri (sX9_isWithin _ _ _ _) ?_
  refine eX9_trend_6 ?_
  refine rv (if_neg (fun e => bi_0.mp e h1)) ?_
  refine eX9_trend_9 ?_
  refine ip (ixi h3 h2 (by decide)) ?_
  try rw [ixn h3 h2 (by decide)]
  refine ri (sX9_isWithin _ _ _ _) ?_
  refine eX9_trend_30 ?_
  refine rv (if_neg (fun e => bi_0.mp e h4)) ?_
  refine eX9_trend_33 ?_
  refine ri h5 ?_
  refine eX9_trend_38 ?_
  all_goals rfl
theorem qX2_fromLatest_0 {x0 : Nat} {x1 : Int32} {M : am_M} (h1 : ¬ (0 ≤ x1 ∧ x1 ≤ ((M 2 x0 1) - 1))) : fX2_fromLatest [.inr (2, x0), .inl (.int x1)] M = am_rI 0 M := by
  rw [eX2_fromLatest]
  refine eX2_fromLatest_0 ?_
  refine ri (sX9_isWithin _ _ _ _) ?_
  refine eX2_fromLatest_11 ?_
  refine ip (bi_f h1) ?_
  all_goals rfl
theorem qX2_fromLatest_1 {x0 : Nat} {x1 : Int32} {M : am_M} {j1 : Nat} (h1 : 0 ≤ x1 ∧ x1 ≤ ((M 2 x0 1) - 1)) (h2 : j1 < 10) (h3 : (((M 2 x0 1) - 1) - x1) = i3 j1) : fX2_fromLatest [.inr (2, x0), .inl (.int x1)] M = am_rI (M 16 x0 j1) M := by
  rw [eX2_fromLatest]
  refine eX2_fromLatest_0 ?_
  refine ri (sX9_isWithin _ _ _ _) ?_
  refine eX2_fromLatest_11 ?_
  refine iq (fun e => bi_0.mp e h1) ?_
  refine ip (ixi h3 h2 (by decide)) ?_
  try rw [ixn h3 h2 (by decide)]
  all_goals rfl
theorem qX10_trend_0 {x1 : Int32} {x2 : Int32} {M : am_M} (h1 : ¬ (0 ≤ x1 ∧ x1 ≤ 3)) : fX10_trend [.inr (10, 0), .inl (.int x1), .inl (.int x2)] M = am_rI 0 (am_put M 10 0 45 1) := by
  rw [eX10_trend]
  refine eX10_trend_0 ?_
  refine ri (sX10_isTest _ _) ?_
  refine eX10_trend_5 ?_
  refine ip (bi_f h1) ?_
  all_goals rfl
theorem qX10_trend_1 {x1 : Int32} {x2 : Int32} {M : am_M} (h1 : 0 ≤ x1 ∧ x1 ≤ 3) (h2 : x2 < 0) : fX10_trend [.inr (10, 0), .inl (.int x1), .inl (.int x2)] M = am_rI 0 (am_put M 10 0 45 2) := by
  rw [eX10_trend]
  refine eX10_trend_0 ?_
  refine ri (sX10_isTest _ _) ?_
  refine eX10_trend_5 ?_
  refine iq (fun e => bi_0.mp e h1) ?_
  refine ip h2 ?_
  all_goals rfl
theorem qX10_trend_2 {x1 : Int32} {x2 : Int32} {M : am_M} {j1 : Nat} {j2 : Nat} (h1 : 0 ≤ x1 ∧ x1 ≤ 3) (h2 : ¬ (x2 < 0)) (h3 : j1 < 4) (h4 : x1 = i3 j1) (h5 : x2 < (M 36 0 j1)) (h6 : j2 < 40) (h7 : ((((10 * x1) + (M 36 0 j1)) - 1) - x2) = i3 j2) : fX10_trend [.inr (10, 0), .inl (.int x1), .inl (.int x2)] M = am_rI (M 35 0 j2) (am_put M 10 0 45 0) := by
  rw [eX10_trend]
  refine eX10_trend_0 ?_
  refine ri (sX10_isTest _ _) ?_
  refine eX10_trend_5 ?_
  refine iq (fun e => bi_0.mp e h1) ?_
  refine iq h2 ?_
  refine ip (ixi h4 h3 (by decide)) ?_
  try rw [ixn h4 h3 (by decide)]
  refine ip h5 ?_
  refine ip (ixi h4 h3 (by decide)) ?_
  try rw [ixn h4 h3 (by decide)]
  refine ip (ixi h7 h6 (by decide)) ?_
  try rw [ixn h7 h6 (by decide)]
  all_goals rfl
theorem qX10_trend_3 {x1 : Int32} {x2 : Int32} {M : am_M} {j1 : Nat} (h1 : 0 ≤ x1 ∧ x1 ≤ 3) (h2 : ¬ (x2 < 0)) (h3 : j1 < 4) (h4 : x1 = i3 j1) (h5 : ¬ (x2 < (M 36 0 j1))) : fX10_trend [.inr (10, 0), .inl (.int x1), .inl (.int x2)] M = am_rI 0 (am_put M 10 0 45 2) := by
  rw [eX10_trend]
  refine eX10_trend_0 ?_
  refine ri (sX10_isTest _ _) ?_
  refine eX10_trend_5 ?_
  refine iq (fun e => bi_0.mp e h1) ?_
  refine iq h2 ?_
  refine ip (ixi h4 h3 (by decide)) ?_
  try rw [ixn h4 h3 (by decide)]
  refine iq h5 ?_
  all_goals rfl
theorem qL_trend_0 {x1 : Int32} {x2 : Int32} {M : am_M} {M1 : am_M} (h1 : fX9_trend [.inr (9, 0), .inl (.int x1), .inl (.int x2)] M = am_rE "java/lang/IllegalArgumentException" M1) : fL_trend [.inr (9, 0), .inl (.int x1), .inl (.int x2), .inr (80, 0)] M = am_rI 1 M1 := by
  rw [eL_trend]
  refine eL_trend_0 ?_
  exact rh h1 rfl
theorem qL_trend_1 {x1 : Int32} {x2 : Int32} {M : am_M} {M1 : am_M} (h1 : fX9_trend [.inr (9, 0), .inl (.int x1), .inl (.int x2)] M = am_rE "java/lang/IndexOutOfBoundsException" M1) : fL_trend [.inr (9, 0), .inl (.int x1), .inl (.int x2), .inr (80, 0)] M = am_rI 2 M1 := by
  rw [eL_trend]
  refine eL_trend_0 ?_
  exact rh h1 rfl
theorem qL_trend_2 {x1 : Int32} {x2 : Int32} {M : am_M} {v1 : Int32} (h1 : fX9_trend [.inr (9, 0), .inl (.int x1), .inl (.int x2)] M = am_rI v1 M) : fL_trend [.inr (9, 0), .inl (.int x1), .inl (.int x2), .inr (80, 0)] M = am_rI 0 (am_put (am_put M 80 0 (2 * 0) (am_hi (Int32.toInt64 v1))) 80 0 (2 * 0 + 1) (am_lo (Int32.toInt64 v1))) := by
  rw [eL_trend]
  refine eL_trend_0 ?_
  refine ri h1 ?_
  refine eL_trend_8 ?_
  refine ip (by decide) ?_
  try rw [show Int32.toNatClampNeg (0 : Int32) = 0 from by decide]
  all_goals rfl
theorem qX9_host_0 {x1 : Int32} {M : am_M} (h1 : ¬ (0 ≤ x1 ∧ x1 ≤ ((M 3 0 1) - 1))) : fX9_host [.inr (9, 0), .inl (.int x1)] M = am_rE "java/lang/IndexOutOfBoundsException" M := by
  rw [eX9_host]
  refine eX9_host_0 ?_
  refine ri (sX9_isWithin _ _ _ _) ?_
  refine eX9_host_14 ?_
  exact re (if_pos (bi_f h1))
theorem qX9_host_1 {x1 : Int32} {M : am_M} {j1 : Nat} (h1 : 0 ≤ x1 ∧ x1 ≤ ((M 3 0 1) - 1)) (h2 : j1 < 40) (h3 : x1 = i3 j1) : fX9_host [.inr (9, 0), .inl (.int x1)] M = am_rI (M 17 0 j1) M := by
  rw [eX9_host]
  refine eX9_host_0 ?_
  refine ri (sX9_isWithin _ _ _ _) ?_
  refine eX9_host_14 ?_
  refine rv (if_neg (fun e => bi_0.mp e h1)) ?_
  refine eX9_host_17 ?_
  refine ip (ixi h3 h2 (by decide)) ?_
  try rw [ixn h3 h2 (by decide)]
  all_goals rfl
theorem qX10_host_0 {x1 : Int32} {M : am_M} (h1 : x1 < 0) : fX10_host [.inr (10, 0), .inl (.int x1)] M = am_rI 0 (am_put M 10 0 45 1) := by
  rw [eX10_host]
  refine eX10_host_0 ?_
  refine ip h1 ?_
  all_goals rfl
theorem qX10_host_1 {x1 : Int32} {M : am_M} {j1 : Nat} (h1 : ¬ (x1 < 0)) (h2 : x1 < (M 10 0 40)) (h3 : j1 < 40) (h4 : x1 = i3 j1) : fX10_host [.inr (10, 0), .inl (.int x1)] M = am_rI (M 69 0 j1) (am_put M 10 0 45 0) := by
  rw [eX10_host]
  refine eX10_host_0 ?_
  refine iq h1 ?_
  refine ip h2 ?_
  refine ip (ixi h4 h3 (by decide)) ?_
  try rw [ixn h4 h3 (by decide)]
  all_goals rfl
theorem qX10_host_2 {x1 : Int32} {M : am_M} (h1 : ¬ (x1 < 0)) (h2 : ¬ (x1 < (M 10 0 40))) : fX10_host [.inr (10, 0), .inl (.int x1)] M = am_rI 0 (am_put M 10 0 45 1) := by
  rw [eX10_host]
  refine eX10_host_0 ?_
  refine iq h1 ?_
  refine iq h2 ?_
  all_goals rfl
theorem qL_host_0 {x1 : Int32} {M : am_M} {M1 : am_M} (h1 : fX9_host [.inr (9, 0), .inl (.int x1)] M = am_rE "java/lang/IndexOutOfBoundsException" M1) : fL_host [.inr (9, 0), .inl (.int x1), .inr (80, 0)] M = am_rI 1 M1 := by
  rw [eL_host]
  refine eL_host_0 ?_
  exact rh h1 rfl
theorem qL_host_1 {x1 : Int32} {M : am_M} {v1 : Int32} (h1 : fX9_host [.inr (9, 0), .inl (.int x1)] M = am_rI v1 M) : fL_host [.inr (9, 0), .inl (.int x1), .inr (80, 0)] M = am_rI 0 (am_put (am_put M 80 0 (2 * 0) (am_hi (Int32.toInt64 v1))) 80 0 (2 * 0 + 1) (am_lo (Int32.toInt64 v1))) := by
  rw [eL_host]
  refine eL_host_0 ?_
  refine ri h1 ?_
  refine eL_host_7 ?_
  refine ip (by decide) ?_
  try rw [show Int32.toNatClampNeg (0 : Int32) = 0 from by decide]
  all_goals rfl
theorem qX9_took_0 {x1 : Int32} {M : am_M} (h1 : ¬ (0 ≤ x1 ∧ x1 ≤ (M 3 0 1))) : fX9_took [.inr (9, 0), .inl (.int x1)] M = am_rE "java/lang/IllegalArgumentException" M := by
  rw [eX9_took]
  refine eX9_took_0 ?_
  refine ri (sX9_isWithin _ _ _ _) ?_
  refine eX9_took_12 ?_
  exact re (if_pos (bi_f h1))
theorem qX9_took_1 {x1 : Int32} {M : am_M} {M1 : am_M} (h1 : 0 ≤ x1 ∧ x1 ≤ (M 3 0 1)) (h2 : fX3_dropFirst [.inr (3, 0), .inl (.int x1)] M = am_rV M1) : fX9_took [.inr (9, 0), .inl (.int x1)] M = am_rI (M1 3 0 1) M1 := by
  rw [eX9_took]
  refine eX9_took_0 ?_
  refine ri (sX9_isWithin _ _ _ _) ?_
  refine eX9_took_12 ?_
  refine rv (if_neg (fun e => bi_0.mp e h1)) ?_
  refine eX9_took_15 ?_
  refine rv h2 ?_
  refine eX9_took_23 ?_
  all_goals rfl
theorem qX10_took_0 {x1 : Int32} {M : am_M} (h1 : x1 < 0) : fX10_took [.inr (10, 0), .inl (.int x1)] M = am_rI 0 (am_put M 10 0 45 1) := by
  rw [eX10_took]
  refine eX10_took_0 ?_
  refine ip h1 ?_
  all_goals rfl
theorem qX10_took_1 {x1 : Int32} {M : am_M} {res : am_O × am_M} (h1 : ¬ (x1 < 0)) (h2 : x1 ≤ (M 10 0 40)) (k : rX10_took 99900 32 [.inr (10, 0), .inl (.int x1), .inl (.int x1)] [] (am_put M 10 0 45 0) = some res) : fX10_took [.inr (10, 0), .inl (.int x1)] M = some res := by
  rw [eX10_took]
  refine eX10_took_0 ?_
  refine iq h1 ?_
  refine ip h2 ?_
  exact k
theorem qX10_took_2 {x1 : Int32} {M : am_M} (h1 : ¬ (x1 < 0)) (h2 : ¬ (x1 ≤ (M 10 0 40))) : fX10_took [.inr (10, 0), .inl (.int x1)] M = am_rI 0 (am_put M 10 0 45 1) := by
  rw [eX10_took]
  refine eX10_took_0 ?_
  refine iq h1 ?_
  refine iq h2 ?_
  all_goals rfl
theorem mX10_took {n m pc : Nat} {ls st : List am_V} {M : am_M} {res : am_O × am_M} (h : rX10_took n pc ls st M = some res) (hm : n ≤ m) : rX10_took m pc ls st M = some res := by
  have h2 := am_run_mono_add h (m - n)
  rw [show n + (m - n) = m by omega] at h2
  exact h2
theorem qX10_took_32_0 {x1 : Int32} {x2 : Nat} {M : am_M} {n : Nat} (h1 : (M 10 0 40) ≤ (i3 x2)) : rX10_took (n + 100) 32 [.inr (10, 0), .inl (.int x1), .inl (.int (i3 x2))] [] M = am_rI ((M 10 0 40) - x1) (am_put M 10 0 40 ((M 10 0 40) - x1)) := by
  refine eX10_took_32 ?_
  refine ip h1 ?_
  all_goals rfl
theorem qX10_took_32_1 {x1 : Int32} {x2 : Nat} {M : am_M} {n : Nat} {res : am_O × am_M} {j1 : Nat} (h1 : ¬ ((M 10 0 40) ≤ (i3 x2))) (h2 : x2 < 40) (h3 : j1 < 40) (h4 : ((i3 x2) - x1) = i3 j1) (k : rX10_took n 32 [.inr (10, 0), .inl (.int x1), .inl (.int (i3 (x2 + 1)))] [] (am_put M 69 0 j1 (M 69 0 x2)) = some res) : rX10_took (n + 100) 32 [.inr (10, 0), .inl (.int x1), .inl (.int (i3 x2))] [] M = some res := by
  refine eX10_took_32 ?_
  refine iq h1 ?_
  refine ip (i3_in' h2 (by decide)) ?_
  try rw [ixm h2 (by decide)]
  refine ip (ixi h4 h3 (by decide)) ?_
  try rw [ixn h4 h3 (by decide)]
  rw [i3_one]
  exact k
theorem qX3_dropFirst_0 {x1 : Int32} {M : am_M} {res : am_O × am_M} (k : rX3_dropFirst 99900 2 [.inr (3, 0), .inl (.int x1), .inl (.int x1)] [] M = some res) : fX3_dropFirst [.inr (3, 0), .inl (.int x1)] M = some res := by
  rw [eX3_dropFirst]
  refine eX3_dropFirst_0 ?_
  exact k
theorem mX3_dropFirst {n m pc : Nat} {ls st : List am_V} {M : am_M} {res : am_O × am_M} (h : rX3_dropFirst n pc ls st M = some res) (hm : n ≤ m) : rX3_dropFirst m pc ls st M = some res := by
  have h2 := am_run_mono_add h (m - n)
  rw [show n + (m - n) = m by omega] at h2
  exact h2
theorem qX3_dropFirst_2_0 {x1 : Int32} {x2 : Nat} {M : am_M} {n : Nat} (h1 : (M 3 0 1) ≤ (i3 x2)) : rX3_dropFirst (n + 100) 2 [.inr (3, 0), .inl (.int x1), .inl (.int (i3 x2))] [] M = am_rV (am_put M 3 0 1 ((M 3 0 1) - x1)) := by
  refine eX3_dropFirst_2 ?_
  refine ip h1 ?_
  all_goals rfl
theorem qX3_dropFirst_2_1 {x1 : Int32} {x2 : Nat} {M : am_M} {n : Nat} {res : am_O × am_M} {j1 : Nat} (h1 : ¬ ((M 3 0 1) ≤ (i3 x2))) (h2 : x2 < 40) (h3 : j1 < 40) (h4 : ((i3 x2) - x1) = i3 j1) (k : rX3_dropFirst n 2 [.inr (3, 0), .inl (.int x1), .inl (.int (i3 (x2 + 1)))] [] (am_put M 17 0 j1 (M 17 0 x2)) = some res) : rX3_dropFirst (n + 100) 2 [.inr (3, 0), .inl (.int x1), .inl (.int (i3 x2))] [] M = some res := by
  refine eX3_dropFirst_2 ?_
  refine iq h1 ?_
  refine ip (i3_in' h2 (by decide)) ?_
  try rw [ixm h2 (by decide)]
  refine ip (ixi h4 h3 (by decide)) ?_
  try rw [ixn h4 h3 (by decide)]
  rw [i3_one]
  exact k
theorem qL_took_0 {x1 : Int32} {M : am_M} {M1 : am_M} (h1 : fX9_took [.inr (9, 0), .inl (.int x1)] M = am_rE "java/lang/IllegalArgumentException" M1) : fL_took [.inr (9, 0), .inl (.int x1), .inr (80, 0)] M = am_rI 1 M1 := by
  rw [eL_took]
  refine eL_took_0 ?_
  exact rh h1 rfl
theorem qL_took_1 {x1 : Int32} {M : am_M} {v1 : Int32} {M2 : am_M} (h1 : fX9_took [.inr (9, 0), .inl (.int x1)] M = am_rI v1 M2) : fL_took [.inr (9, 0), .inl (.int x1), .inr (80, 0)] M = am_rI 0 (am_put (am_put M2 80 0 (2 * 0) (am_hi (Int32.toInt64 v1))) 80 0 (2 * 0 + 1) (am_lo (Int32.toInt64 v1))) := by
  rw [eL_took]
  refine eL_took_0 ?_
  refine ri h1 ?_
  refine eL_took_7 ?_
  refine ip (by decide) ?_
  try rw [show Int32.toNatClampNeg (0 : Int32) = 0 from by decide]
  all_goals rfl
theorem qX9_rules_0 {x1 : Int32} {M : am_M} (h1 : ¬ (0 ≤ x1 ∧ x1 ≤ 3)) : fX9_rules [.inr (9, 0), .inl (.int x1)] M = am_rE "java/lang/IllegalArgumentException" M := by
  rw [eX9_rules]
  refine eX9_rules_0 ?_
  refine ri (sX9_isWithin _ _ _ _) ?_
  refine eX9_rules_6 ?_
  exact re (if_pos (bi_f h1))
theorem qX9_rules_1 {x1 : Int32} {M : am_M} {j1 : Nat} {v2 : Int32} (h1 : 0 ≤ x1 ∧ x1 ≤ 3) (h2 : j1 < 4) (h3 : x1 = i3 j1) (h4 : fX6_brokenRules [.inr (6, j1)] M = am_rI v2 M) : fX9_rules [.inr (9, 0), .inl (.int x1)] M = am_rI v2 M := by
  rw [eX9_rules]
  refine eX9_rules_0 ?_
  refine ri (sX9_isWithin _ _ _ _) ?_
  refine eX9_rules_6 ?_
  refine rv (if_neg (fun e => bi_0.mp e h1)) ?_
  refine eX9_rules_9 ?_
  refine ip (ixi h3 h2 (by decide)) ?_
  try rw [ixn h3 h2 (by decide)]
  refine ri h4 ?_
  refine eX9_rules_18 ?_
  all_goals rfl
theorem qL_rules_0 {x1 : Int32} {M : am_M} {M1 : am_M} (h1 : fX9_rules [.inr (9, 0), .inl (.int x1)] M = am_rE "java/lang/IllegalArgumentException" M1) : fL_rules [.inr (9, 0), .inl (.int x1), .inr (80, 0)] M = am_rI 1 M1 := by
  rw [eL_rules]
  refine eL_rules_0 ?_
  exact rh h1 rfl
theorem qL_rules_1 {x1 : Int32} {M : am_M} {v1 : Int32} (h1 : fX9_rules [.inr (9, 0), .inl (.int x1)] M = am_rI v1 M) : fL_rules [.inr (9, 0), .inl (.int x1), .inr (80, 0)] M = am_rI 0 (am_put (am_put M 80 0 (2 * 0) (am_hi (Int32.toInt64 v1))) 80 0 (2 * 0 + 1) (am_lo (Int32.toInt64 v1))) := by
  rw [eL_rules]
  refine eL_rules_0 ?_
  refine ri h1 ?_
  refine eL_rules_7 ?_
  refine ip (by decide) ?_
  try rw [show Int32.toNatClampNeg (0 : Int32) = 0 from by decide]
  all_goals rfl
