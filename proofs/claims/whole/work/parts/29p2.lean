/-! ===== the ways through the methods ===== -/
theorem qX6_isComplete_0 {x0 : Nat} {M : am_M} (h1 : (M 18 x0 0) < 1) : fX6_isComplete [.inr (6, x0)] M = am_rI 0 M := by
  rw [eX6_isComplete]
  refine eX6_isComplete_0 ?_
  refine ip h1 ?_
  all_goals rfl
theorem qX6_isComplete_1 {x0 : Nat} {M : am_M} {v1 : Int32} (h1 : ¬ ((M 18 x0 0) < 1)) (h2 : fX6_areReagentsRight [.inr (6, x0)] M = am_rI v1 M) (h3 : v1 = 0) : fX6_isComplete [.inr (6, x0)] M = am_rI 0 M := by
  rw [eX6_isComplete]
  refine eX6_isComplete_0 ?_
  refine iq h1 ?_
  refine ri h2 ?_
  refine eX6_isComplete_14 ?_
  refine ip h3 ?_
  all_goals rfl
theorem qX6_isComplete_2 {x0 : Nat} {M : am_M} {v1 : Int32} {v2 : Int32} (h1 : ¬ ((M 18 x0 0) < 1)) (h2 : fX6_areReagentsRight [.inr (6, x0)] M = am_rI v1 M) (h3 : ¬ (v1 = 0)) (h4 : fX6_areReadingsRight [.inr (6, x0)] M = am_rI v2 M) (h5 : v2 = 0) : fX6_isComplete [.inr (6, x0)] M = am_rI 0 M := by
  rw [eX6_isComplete]
  refine eX6_isComplete_0 ?_
  refine iq h1 ?_
  refine ri h2 ?_
  refine eX6_isComplete_14 ?_
  refine iq h3 ?_
  refine ri h4 ?_
  refine eX6_isComplete_21 ?_
  refine ip h5 ?_
  all_goals rfl
theorem qX6_isComplete_3 {x0 : Nat} {M : am_M} {v1 : Int32} {v2 : Int32} (h1 : ¬ ((M 18 x0 0) < 1)) (h2 : fX6_areReagentsRight [.inr (6, x0)] M = am_rI v1 M) (h3 : ¬ (v1 = 0)) (h4 : fX6_areReadingsRight [.inr (6, x0)] M = am_rI v2 M) (h5 : ¬ (v2 = 0)) (h6 : (M 18 x0 11) < (M 18 x0 10)) : fX6_isComplete [.inr (6, x0)] M = am_rI 0 M := by
  rw [eX6_isComplete]
  refine eX6_isComplete_0 ?_
  refine iq h1 ?_
  refine ri h2 ?_
  refine eX6_isComplete_14 ?_
  refine iq h3 ?_
  refine ri h4 ?_
  refine eX6_isComplete_21 ?_
  refine iq h5 ?_
  refine ip h6 ?_
  all_goals rfl
theorem qX6_isComplete_4 {x0 : Nat} {M : am_M} {v1 : Int32} {v2 : Int32} {v3 : Int32} (h1 : ¬ ((M 18 x0 0) < 1)) (h2 : fX6_areReagentsRight [.inr (6, x0)] M = am_rI v1 M) (h3 : ¬ (v1 = 0)) (h4 : fX6_areReadingsRight [.inr (6, x0)] M = am_rI v2 M) (h5 : ¬ (v2 = 0)) (h6 : ¬ ((M 18 x0 11) < (M 18 x0 10))) (h7 : fX6_isDilutionRight [.inr (6, x0)] M = am_rI v3 M) (h8 : v3 = 0) : fX6_isComplete [.inr (6, x0)] M = am_rI 0 M := by
  rw [eX6_isComplete]
  refine eX6_isComplete_0 ?_
  refine iq h1 ?_
  refine ri h2 ?_
  refine eX6_isComplete_14 ?_
  refine iq h3 ?_
  refine ri h4 ?_
  refine eX6_isComplete_21 ?_
  refine iq h5 ?_
  refine iq h6 ?_
  refine ri h7 ?_
  refine eX6_isComplete_45 ?_
  refine ip h8 ?_
  all_goals rfl
theorem qX6_isComplete_5 {x0 : Nat} {M : am_M} {v1 : Int32} {v2 : Int32} {v3 : Int32} {v4 : Int32} (h1 : ¬ ((M 18 x0 0) < 1)) (h2 : fX6_areReagentsRight [.inr (6, x0)] M = am_rI v1 M) (h3 : ¬ (v1 = 0)) (h4 : fX6_areReadingsRight [.inr (6, x0)] M = am_rI v2 M) (h5 : ¬ (v2 = 0)) (h6 : ¬ ((M 18 x0 11) < (M 18 x0 10))) (h7 : fX6_isDilutionRight [.inr (6, x0)] M = am_rI v3 M) (h8 : ¬ (v3 = 0)) (h9 : fX0_isComplete [.inr (0, x0)] M = am_rI v4 M) (h10 : v4 = 0) : fX6_isComplete [.inr (6, x0)] M = am_rI 0 M := by
  rw [eX6_isComplete]
  refine eX6_isComplete_0 ?_
  refine iq h1 ?_
  refine ri h2 ?_
  refine eX6_isComplete_14 ?_
  refine iq h3 ?_
  refine ri h4 ?_
  refine eX6_isComplete_21 ?_
  refine iq h5 ?_
  refine iq h6 ?_
  refine ri h7 ?_
  refine eX6_isComplete_45 ?_
  refine iq h8 ?_
  refine ri h9 ?_
  refine eX6_isComplete_55 ?_
  refine ip h10 ?_
  all_goals rfl
theorem qX6_isComplete_6 {x0 : Nat} {M : am_M} {v1 : Int32} {v2 : Int32} {v3 : Int32} {v4 : Int32} (h1 : ¬ ((M 18 x0 0) < 1)) (h2 : fX6_areReagentsRight [.inr (6, x0)] M = am_rI v1 M) (h3 : ¬ (v1 = 0)) (h4 : fX6_areReadingsRight [.inr (6, x0)] M = am_rI v2 M) (h5 : ¬ (v2 = 0)) (h6 : ¬ ((M 18 x0 11) < (M 18 x0 10))) (h7 : fX6_isDilutionRight [.inr (6, x0)] M = am_rI v3 M) (h8 : ¬ (v3 = 0)) (h9 : fX0_isComplete [.inr (0, x0)] M = am_rI v4 M) (h10 : ¬ (v4 = 0)) : fX6_isComplete [.inr (6, x0)] M = am_rI 1 M := by
  rw [eX6_isComplete]
  refine eX6_isComplete_0 ?_
  refine iq h1 ?_
  refine ri h2 ?_
  refine eX6_isComplete_14 ?_
  refine iq h3 ?_
  refine ri h4 ?_
  refine eX6_isComplete_21 ?_
  refine iq h5 ?_
  refine iq h6 ?_
  refine ri h7 ?_
  refine eX6_isComplete_45 ?_
  refine iq h8 ?_
  refine ri h9 ?_
  refine eX6_isComplete_55 ?_
  refine iq h10 ?_
  all_goals rfl
theorem qX6_areReagentsRight_0 {x0 : Nat} {M : am_M} (h1 : (M 18 x0 1) = (-1)) (h2 : (M 18 x0 4) = (-1)) : fX6_areReagentsRight [.inr (6, x0)] M = am_rI 1 M := by
  rw [eX6_areReagentsRight]
  refine eX6_areReagentsRight_0 ?_
  refine ip h1 ?_
  refine ip h2 ?_
  all_goals rfl
theorem qX6_areReagentsRight_1 {x0 : Nat} {M : am_M} (h1 : (M 18 x0 1) = (-1)) (h2 : ¬ ((M 18 x0 4) = (-1))) : fX6_areReagentsRight [.inr (6, x0)] M = am_rI 0 M := by
  rw [eX6_areReagentsRight]
  refine eX6_areReagentsRight_0 ?_
  refine ip h1 ?_
  refine iq h2 ?_
  all_goals rfl
theorem qX6_areReagentsRight_2 {x0 : Nat} {M : am_M} {v1 : Int32} (h1 : ¬ ((M 18 x0 1) = (-1))) (h2 : fX6_isReagentRight [.inr (6, x0), .inl (.int 0)] M = am_rI v1 M) (h3 : v1 = 0) : fX6_areReagentsRight [.inr (6, x0)] M = am_rI 0 M := by
  rw [eX6_areReagentsRight]
  refine eX6_areReagentsRight_0 ?_
  refine iq h1 ?_
  refine ri h2 ?_
  refine eX6_areReagentsRight_29 ?_
  refine ip h3 ?_
  all_goals rfl
theorem qX6_areReagentsRight_3 {x0 : Nat} {M : am_M} {v1 : Int32} (h1 : ¬ ((M 18 x0 1) = (-1))) (h2 : fX6_isReagentRight [.inr (6, x0), .inl (.int 0)] M = am_rI v1 M) (h3 : ¬ (v1 = 0)) (h4 : (M 18 x0 4) = (-1)) : fX6_areReagentsRight [.inr (6, x0)] M = am_rI 1 M := by
  rw [eX6_areReagentsRight]
  refine eX6_areReagentsRight_0 ?_
  refine iq h1 ?_
  refine ri h2 ?_
  refine eX6_areReagentsRight_29 ?_
  refine iq h3 ?_
  refine ip h4 ?_
  all_goals rfl
theorem qX6_areReagentsRight_4 {x0 : Nat} {M : am_M} {v1 : Int32} {v2 : Int32} (h1 : ¬ ((M 18 x0 1) = (-1))) (h2 : fX6_isReagentRight [.inr (6, x0), .inl (.int 0)] M = am_rI v1 M) (h3 : ¬ (v1 = 0)) (h4 : ¬ ((M 18 x0 4) = (-1))) (h5 : fX6_isReagentRight [.inr (6, x0), .inl (.int 1)] M = am_rI v2 M) (h6 : v2 = 0) : fX6_areReagentsRight [.inr (6, x0)] M = am_rI 0 M := by
  rw [eX6_areReagentsRight]
  refine eX6_areReagentsRight_0 ?_
  refine iq h1 ?_
  refine ri h2 ?_
  refine eX6_areReagentsRight_29 ?_
  refine iq h3 ?_
  refine iq h4 ?_
  refine ri h5 ?_
  refine eX6_areReagentsRight_46 ?_
  refine ip h6 ?_
  all_goals rfl
theorem qX6_areReagentsRight_5 {x0 : Nat} {M : am_M} {v1 : Int32} {v2 : Int32} (h1 : ¬ ((M 18 x0 1) = (-1))) (h2 : fX6_isReagentRight [.inr (6, x0), .inl (.int 0)] M = am_rI v1 M) (h3 : ¬ (v1 = 0)) (h4 : ¬ ((M 18 x0 4) = (-1))) (h5 : fX6_isReagentRight [.inr (6, x0), .inl (.int 1)] M = am_rI v2 M) (h6 : ¬ (v2 = 0)) (h7 : (M 18 x0 6) ≤ (M 18 x0 3)) : fX6_areReagentsRight [.inr (6, x0)] M = am_rI 0 M := by
  rw [eX6_areReagentsRight]
  refine eX6_areReagentsRight_0 ?_
  refine iq h1 ?_
  refine ri h2 ?_
  refine eX6_areReagentsRight_29 ?_
  refine iq h3 ?_
  refine iq h4 ?_
  refine ri h5 ?_
  refine eX6_areReagentsRight_46 ?_
  refine iq h6 ?_
  refine ip h7 ?_
  all_goals rfl
theorem qX6_areReagentsRight_6 {x0 : Nat} {M : am_M} {v1 : Int32} {v2 : Int32} (h1 : ¬ ((M 18 x0 1) = (-1))) (h2 : fX6_isReagentRight [.inr (6, x0), .inl (.int 0)] M = am_rI v1 M) (h3 : ¬ (v1 = 0)) (h4 : ¬ ((M 18 x0 4) = (-1))) (h5 : fX6_isReagentRight [.inr (6, x0), .inl (.int 1)] M = am_rI v2 M) (h6 : ¬ (v2 = 0)) (h7 : ¬ ((M 18 x0 6) ≤ (M 18 x0 3))) : fX6_areReagentsRight [.inr (6, x0)] M = am_rI 1 M := by
  rw [eX6_areReagentsRight]
  refine eX6_areReagentsRight_0 ?_
  refine iq h1 ?_
  refine ri h2 ?_
  refine eX6_areReagentsRight_29 ?_
  refine iq h3 ?_
  refine iq h4 ?_
  refine ri h5 ?_
  refine eX6_areReagentsRight_46 ?_
  refine iq h6 ?_
  refine iq h7 ?_
  all_goals rfl
theorem qX6_isReagentRight_0 {x0 : Nat} {x1 : Int32} {M : am_M} {v1 : Int32} (h1 : fX6_doseOf [.inr (6, x0), .inl (.int x1)] M = am_rI v1 M) (h2 : v1 < 1) : fX6_isReagentRight [.inr (6, x0), .inl (.int x1)] M = am_rI 0 M := by
  rw [eX6_isReagentRight]
  refine eX6_isReagentRight_0 ?_
  refine ri h1 ?_
  refine eX6_isReagentRight_5 ?_
  refine ip h2 ?_
  all_goals rfl
theorem qX6_isReagentRight_1 {x0 : Nat} {x1 : Int32} {M : am_M} {v1 : Int32} {v2 : Int32} (h1 : fX6_doseOf [.inr (6, x0), .inl (.int x1)] M = am_rI v1 M) (h2 : ¬ (v1 < 1)) (h3 : fX6_ageOf [.inr (6, x0), .inl (.int x1)] M = am_rI v2 M) (h4 : v2 < 1) : fX6_isReagentRight [.inr (6, x0), .inl (.int x1)] M = am_rI 0 M := by
  rw [eX6_isReagentRight]
  refine eX6_isReagentRight_0 ?_
  refine ri h1 ?_
  refine eX6_isReagentRight_5 ?_
  refine iq h2 ?_
  refine ri h3 ?_
  refine eX6_isReagentRight_14 ?_
  refine ip h4 ?_
  all_goals rfl
theorem qX6_isReagentRight_2 {x0 : Nat} {x1 : Int32} {M : am_M} {v1 : Int32} {v2 : Int32} {v3 : Int32} (h1 : fX6_doseOf [.inr (6, x0), .inl (.int x1)] M = am_rI v1 M) (h2 : ¬ (v1 < 1)) (h3 : fX6_ageOf [.inr (6, x0), .inl (.int x1)] M = am_rI v2 M) (h4 : ¬ (v2 < 1)) (h5 : fX6_ageOf [.inr (6, x0), .inl (.int x1)] M = am_rI v3 M) (h6 : (M 18 x0 7) ≤ v3) : fX6_isReagentRight [.inr (6, x0), .inl (.int x1)] M = am_rI 0 M := by
  rw [eX6_isReagentRight]
  refine eX6_isReagentRight_0 ?_
  refine ri h1 ?_
  refine eX6_isReagentRight_5 ?_
  refine iq h2 ?_
  refine ri h3 ?_
  refine eX6_isReagentRight_14 ?_
  refine iq h4 ?_
  refine ri h5 ?_
  refine eX6_isReagentRight_23 ?_
  refine ip h6 ?_
  all_goals rfl
theorem qX6_isReagentRight_3 {x0 : Nat} {x1 : Int32} {M : am_M} {v1 : Int32} {v2 : Int32} {v3 : Int32} (h1 : fX6_doseOf [.inr (6, x0), .inl (.int x1)] M = am_rI v1 M) (h2 : ¬ (v1 < 1)) (h3 : fX6_ageOf [.inr (6, x0), .inl (.int x1)] M = am_rI v2 M) (h4 : ¬ (v2 < 1)) (h5 : fX6_ageOf [.inr (6, x0), .inl (.int x1)] M = am_rI v3 M) (h6 : ¬ ((M 18 x0 7) ≤ v3)) : fX6_isReagentRight [.inr (6, x0), .inl (.int x1)] M = am_rI 1 M := by
  rw [eX6_isReagentRight]
  refine eX6_isReagentRight_0 ?_
  refine ri h1 ?_
  refine eX6_isReagentRight_5 ?_
  refine iq h2 ?_
  refine ri h3 ?_
  refine eX6_isReagentRight_14 ?_
  refine iq h4 ?_
  refine ri h5 ?_
  refine eX6_isReagentRight_23 ?_
  refine iq h6 ?_
  all_goals rfl
theorem qX6_areReadingsRight_0 {x0 : Nat} {M : am_M} (h1 : (M 18 x0 9) = 0) (h2 : (M 18 x0 7) < 1) : fX6_areReadingsRight [.inr (6, x0)] M = am_rI 0 M := by
  rw [eX6_areReadingsRight]
  refine eX6_areReadingsRight_0 ?_
  refine ip h1 ?_
  refine ip h2 ?_
  all_goals rfl
theorem qX6_areReadingsRight_1 {x0 : Nat} {M : am_M} (h1 : (M 18 x0 9) = 0) (h2 : ¬ ((M 18 x0 7) < 1)) (h3 : ¬ (1 ≤ (((M 18 x0 8) - (M 18 x0 7)) + 1) ∧ (((M 18 x0 8) - (M 18 x0 7)) + 1) ≤ 6)) : fX6_areReadingsRight [.inr (6, x0)] M = am_rI 0 M := by
  rw [eX6_areReadingsRight]
  refine eX6_areReadingsRight_0 ?_
  refine ip h1 ?_
  refine iq h2 ?_
  refine ri (sX9_isWithin _ _ _ _) ?_
  refine eX6_areReadingsRight_52 ?_
  refine ip (bi_f h3) ?_
  all_goals rfl
theorem qX6_areReadingsRight_2 {x0 : Nat} {M : am_M} (h1 : (M 18 x0 9) = 0) (h2 : ¬ ((M 18 x0 7) < 1)) (h3 : 1 ≤ (((M 18 x0 8) - (M 18 x0 7)) + 1) ∧ (((M 18 x0 8) - (M 18 x0 7)) + 1) ≤ 6) : fX6_areReadingsRight [.inr (6, x0)] M = am_rI 1 M := by
  rw [eX6_areReadingsRight]
  refine eX6_areReadingsRight_0 ?_
  refine ip h1 ?_
  refine iq h2 ?_
  refine ri (sX9_isWithin _ _ _ _) ?_
  refine eX6_areReadingsRight_52 ?_
  refine iq (fun e => bi_0.mp e h3) ?_
  all_goals rfl
theorem qX6_areReadingsRight_3 {x0 : Nat} {M : am_M} (h1 : ¬ ((M 18 x0 9) = 0)) (h2 : (M 18 x0 7) < 1) : fX6_areReadingsRight [.inr (6, x0)] M = am_rI 0 M := by
  rw [eX6_areReadingsRight]
  refine eX6_areReadingsRight_0 ?_
  refine iq h1 ?_
  refine ip h2 ?_
  all_goals rfl
theorem qX6_areReadingsRight_4 {x0 : Nat} {M : am_M} (h1 : ¬ ((M 18 x0 9) = 0)) (h2 : ¬ ((M 18 x0 7) < 1)) (h3 : ¬ (2 ≤ (((M 18 x0 8) - (M 18 x0 7)) + 1) ∧ (((M 18 x0 8) - (M 18 x0 7)) + 1) ≤ 6)) : fX6_areReadingsRight [.inr (6, x0)] M = am_rI 0 M := by
  rw [eX6_areReadingsRight]
  refine eX6_areReadingsRight_0 ?_
  refine iq h1 ?_
  refine iq h2 ?_
  refine ri (sX9_isWithin _ _ _ _) ?_
  refine eX6_areReadingsRight_52 ?_
  refine ip (bi_f h3) ?_
  all_goals rfl
theorem qX6_areReadingsRight_5 {x0 : Nat} {M : am_M} (h1 : ¬ ((M 18 x0 9) = 0)) (h2 : ¬ ((M 18 x0 7) < 1)) (h3 : 2 ≤ (((M 18 x0 8) - (M 18 x0 7)) + 1) ∧ (((M 18 x0 8) - (M 18 x0 7)) + 1) ≤ 6) : fX6_areReadingsRight [.inr (6, x0)] M = am_rI 1 M := by
  rw [eX6_areReadingsRight]
  refine eX6_areReadingsRight_0 ?_
  refine iq h1 ?_
  refine iq h2 ?_
  refine ri (sX9_isWithin _ _ _ _) ?_
  refine eX6_areReadingsRight_52 ?_
  refine iq (fun e => bi_0.mp e h3) ?_
  all_goals rfl
theorem qX6_isDilutionRight_0 {x0 : Nat} {M : am_M} (h1 : ¬ ((M 18 x0 12) = 2)) : fX6_isDilutionRight [.inr (6, x0)] M = am_rI 1 M := by
  rw [eX6_isDilutionRight]
  refine eX6_isDilutionRight_0 ?_
  refine ri (sX6_dilutes _ _) ?_
  refine eX6_isDilutionRight_12 ?_
  refine ip (bi_f h1) ?_
  all_goals rfl
theorem qX6_isDilutionRight_1 {x0 : Nat} {M : am_M} (h1 : (M 18 x0 12) = 2) (h2 : (M 18 x0 13) ≤ 0) : fX6_isDilutionRight [.inr (6, x0)] M = am_rI 0 M := by
  rw [eX6_isDilutionRight]
  refine eX6_isDilutionRight_0 ?_
  refine ri (sX6_dilutes _ _) ?_
  refine eX6_isDilutionRight_12 ?_
  refine iq (fun e => bi_0.mp e h1) ?_
  refine ip h2 ?_
  all_goals rfl
theorem qX6_isDilutionRight_2 {x0 : Nat} {M : am_M} (h1 : (M 18 x0 12) = 2) (h2 : ¬ ((M 18 x0 13) ≤ 0)) (h3 : ¬ ((M 18 x0 13) = 0)) (h4 : ((M 18 x0 0) - (M 18 x0 0) / (M 18 x0 13) * (M 18 x0 13)) = 0) : fX6_isDilutionRight [.inr (6, x0)] M = am_rI 1 M := by
  rw [eX6_isDilutionRight]
  refine eX6_isDilutionRight_0 ?_
  refine ri (sX6_dilutes _ _) ?_
  refine eX6_isDilutionRight_12 ?_
  refine iq (fun e => bi_0.mp e h1) ?_
  refine iq h2 ?_
  refine iq h3 ?_
  refine ip h4 ?_
  all_goals rfl
theorem qX6_isDilutionRight_3 {x0 : Nat} {M : am_M} (h1 : (M 18 x0 12) = 2) (h2 : ¬ ((M 18 x0 13) ≤ 0)) (h3 : ¬ ((M 18 x0 13) = 0)) (h4 : ¬ (((M 18 x0 0) - (M 18 x0 0) / (M 18 x0 13) * (M 18 x0 13)) = 0)) : fX6_isDilutionRight [.inr (6, x0)] M = am_rI 0 M := by
  rw [eX6_isDilutionRight]
  refine eX6_isDilutionRight_0 ?_
  refine ri (sX6_dilutes _ _) ?_
  refine eX6_isDilutionRight_12 ?_
  refine iq (fun e => bi_0.mp e h1) ?_
  refine iq h2 ?_
  refine iq h3 ?_
  refine iq h4 ?_
  all_goals rfl
theorem qX0_isComplete_0 {x0 : Nat} {M : am_M} (h1 : (M 0 x0 2) < 2) : fX0_isComplete [.inr (0, x0)] M = am_rI 0 M := by
  rw [eX0_isComplete]
  refine eX0_isComplete_0 ?_
  refine ip h1 ?_
  all_goals rfl
theorem qX0_isComplete_1 {x0 : Nat} {M : am_M} {v1 : Int32} {v2 : Int32} (h1 : ¬ ((M 0 x0 2) < 2)) (h2 : fX0_isMonotone [.inr (0, x0), .inl (.int 1)] M = am_rI v1 M) (h3 : v1 = 0) (h4 : fX0_isMonotone [.inr (0, x0), .inl (.int (-1))] M = am_rI v2 M) (h5 : v2 = 0) : fX0_isComplete [.inr (0, x0)] M = am_rI 0 M := by
  rw [eX0_isComplete]
  refine eX0_isComplete_0 ?_
  refine iq h1 ?_
  refine ri h2 ?_
  refine eX0_isComplete_13 ?_
  refine ip h3 ?_
  refine ri h4 ?_
  refine eX0_isComplete_21 ?_
  refine ip h5 ?_
  all_goals rfl
theorem qX0_isComplete_2 {x0 : Nat} {M : am_M} {v1 : Int32} {v2 : Int32} (h1 : ¬ ((M 0 x0 2) < 2)) (h2 : fX0_isMonotone [.inr (0, x0), .inl (.int 1)] M = am_rI v1 M) (h3 : v1 = 0) (h4 : fX0_isMonotone [.inr (0, x0), .inl (.int (-1))] M = am_rI v2 M) (h5 : ¬ (v2 = 0)) : fX0_isComplete [.inr (0, x0)] M = am_rI 1 M := by
  rw [eX0_isComplete]
  refine eX0_isComplete_0 ?_
  refine iq h1 ?_
  refine ri h2 ?_
  refine eX0_isComplete_13 ?_
  refine ip h3 ?_
  refine ri h4 ?_
  refine eX0_isComplete_21 ?_
  refine iq h5 ?_
  all_goals rfl
theorem qX0_isComplete_3 {x0 : Nat} {M : am_M} {v1 : Int32} (h1 : ¬ ((M 0 x0 2) < 2)) (h2 : fX0_isMonotone [.inr (0, x0), .inl (.int 1)] M = am_rI v1 M) (h3 : ¬ (v1 = 0)) : fX0_isComplete [.inr (0, x0)] M = am_rI 1 M := by
  rw [eX0_isComplete]
  refine eX0_isComplete_0 ?_
  refine iq h1 ?_
  refine ri h2 ?_
  refine eX0_isComplete_13 ?_
  refine iq h3 ?_
  all_goals rfl
theorem qX0_isMonotone_0 {x0 : Nat} {x1 : Int32} {M : am_M} {res : am_O × am_M} (k : rX0_isMonotone 99900 2 [.inr (0, x0), .inl (.int x1), .inl (.int 1)] [] M = some res) : fX0_isMonotone [.inr (0, x0), .inl (.int x1)] M = some res := by
  rw [eX0_isMonotone]
  refine eX0_isMonotone_0 ?_
  exact k
theorem mX0_isMonotone {n m pc : Nat} {ls st : List am_V} {M : am_M} {res : am_O × am_M} (h : rX0_isMonotone n pc ls st M = some res) (hm : n ≤ m) : rX0_isMonotone m pc ls st M = some res := by
  have h2 := am_run_mono_add h (m - n)
  rw [show n + (m - n) = m by omega] at h2
  exact h2
theorem qX0_isMonotone_2_0 {x0 : Nat} {x1 : Int32} {x2 : Nat} {M : am_M} {n : Nat} (h1 : (M 0 x0 2) ≤ (i3 x2)) : rX0_isMonotone (n + 100) 2 [.inr (0, x0), .inl (.int x1), .inl (.int (i3 x2))] [] M = am_rI 1 M := by
  refine eX0_isMonotone_2 ?_
  refine ip h1 ?_
  all_goals rfl
theorem qX0_isMonotone_2_1 {x0 : Nat} {x1 : Int32} {x2 : Nat} {M : am_M} {n : Nat} {res : am_O × am_M} {j1 : Nat} (h1 : ¬ ((M 0 x0 2) ≤ (i3 x2))) (h2 : x2 < 5) (h3 : j1 < 5) (h4 : ((i3 x2) - 1) = i3 j1) (h5 : 0 < (x1 * ((M 12 x0 x2) - (M 12 x0 j1)))) (k : rX0_isMonotone n 2 [.inr (0, x0), .inl (.int x1), .inl (.int (i3 (x2 + 1)))] [] M = some res) : rX0_isMonotone (n + 100) 2 [.inr (0, x0), .inl (.int x1), .inl (.int (i3 x2))] [] M = some res := by
  refine eX0_isMonotone_2 ?_
  refine iq h1 ?_
  refine ip (i3_in' h2 (by decide)) ?_
  try rw [ixm h2 (by decide)]
  refine ip (ixi h4 h3 (by decide)) ?_
  try rw [ixn h4 h3 (by decide)]
  refine ip h5 ?_
  rw [i3_one]
  exact k
theorem qX0_isMonotone_2_2 {x0 : Nat} {x1 : Int32} {x2 : Nat} {M : am_M} {n : Nat} {j1 : Nat} (h1 : ¬ ((M 0 x0 2) ≤ (i3 x2))) (h2 : x2 < 5) (h3 : j1 < 5) (h4 : ((i3 x2) - 1) = i3 j1) (h5 : ¬ (0 < (x1 * ((M 12 x0 x2) - (M 12 x0 j1))))) : rX0_isMonotone (n + 100) 2 [.inr (0, x0), .inl (.int x1), .inl (.int (i3 x2))] [] M = am_rI 0 M := by
  refine eX0_isMonotone_2 ?_
  refine iq h1 ?_
  refine ip (i3_in' h2 (by decide)) ?_
  try rw [ixm h2 (by decide)]
  refine ip (ixi h4 h3 (by decide)) ?_
  try rw [ixn h4 h3 (by decide)]
  refine iq h5 ?_
  all_goals rfl
theorem qX10_reagentGood_0 {x1 : Int32} {x2 : Int32} {M : am_M} {j2 : Nat} {j3 : Nat} {j5 : Nat} (h1 : j2 < 4) (h2 : x1 = i3 j2) (h3 : j3 < 16) (h4 : ((3 * x2) + 1) = i3 j3) (h5 : 0 ≤ (M 30 0 (16 * j2 + j3))) (h6 : j5 < 16) (h7 : ((3 * x2) + 2) = i3 j5) (h8 : (M 30 0 (16 * j2 + j5)) < 1) : fX10_reagentGood [.inr (10, 0), .inl (.int x1), .inl (.int x2)] M = am_rI 0 M := by
  rw [eX10_reagentGood]
  refine eX10_reagentGood_0 ?_
  refine ri (sX10_of _ h2 h1 h4 h3) ?_
  refine eX10_reagentGood_10 ?_
  refine ip h5 ?_
  refine ri (sX10_of _ h2 h1 h7 h6) ?_
  refine eX10_reagentGood_25 ?_
  refine ip h8 ?_
  all_goals rfl
theorem qX10_reagentGood_1 {x1 : Int32} {x2 : Int32} {M : am_M} {j2 : Nat} {j3 : Nat} {j5 : Nat} {j7 : Nat} (h1 : j2 < 4) (h2 : x1 = i3 j2) (h3 : j3 < 16) (h4 : ((3 * x2) + 1) = i3 j3) (h5 : 0 ≤ (M 30 0 (16 * j2 + j3))) (h6 : j5 < 16) (h7 : ((3 * x2) + 2) = i3 j5) (h8 : ¬ ((M 30 0 (16 * j2 + j5)) < 1)) (h9 : j7 < 16) (h10 : ((3 * x2) + 3) = i3 j7) (h11 : (M 30 0 (16 * j2 + j7)) < 1) : fX10_reagentGood [.inr (10, 0), .inl (.int x1), .inl (.int x2)] M = am_rI 0 M := by
  rw [eX10_reagentGood]
  refine eX10_reagentGood_0 ?_
  refine ri (sX10_of _ h2 h1 h4 h3) ?_
  refine eX10_reagentGood_10 ?_
  refine ip h5 ?_
  refine ri (sX10_of _ h2 h1 h7 h6) ?_
  refine eX10_reagentGood_25 ?_
  refine iq h8 ?_
  refine ri (sX10_of _ h2 h1 h10 h9) ?_
  refine eX10_reagentGood_39 ?_
  refine ip h11 ?_
  all_goals rfl
theorem qX10_reagentGood_2 {x1 : Int32} {x2 : Int32} {M : am_M} {j2 : Nat} {j3 : Nat} {j5 : Nat} {j7 : Nat} (h1 : j2 < 4) (h2 : x1 = i3 j2) (h3 : j3 < 16) (h4 : ((3 * x2) + 1) = i3 j3) (h5 : 0 ≤ (M 30 0 (16 * j2 + j3))) (h6 : j5 < 16) (h7 : ((3 * x2) + 2) = i3 j5) (h8 : ¬ ((M 30 0 (16 * j2 + j5)) < 1)) (h9 : j7 < 16) (h10 : ((3 * x2) + 3) = i3 j7) (h11 : ¬ ((M 30 0 (16 * j2 + j7)) < 1)) (h12 : (M 30 0 (16 * j2 + 7)) ≤ (M 30 0 (16 * j2 + j7))) : fX10_reagentGood [.inr (10, 0), .inl (.int x1), .inl (.int x2)] M = am_rI 0 M := by
  rw [eX10_reagentGood]
  refine eX10_reagentGood_0 ?_
  refine ri (sX10_of _ h2 h1 h4 h3) ?_
  refine eX10_reagentGood_10 ?_
  refine ip h5 ?_
  refine ri (sX10_of _ h2 h1 h7 h6) ?_
  refine eX10_reagentGood_25 ?_
  refine iq h8 ?_
  refine ri (sX10_of _ h2 h1 h10 h9) ?_
  refine eX10_reagentGood_39 ?_
  refine iq h11 ?_
  refine ri (sX10_of _ h2 h1 h10 h9) ?_
  refine eX10_reagentGood_53 ?_
  refine ri (sX10_of _ h2 h1 rfl (by decide)) ?_
  refine eX10_reagentGood_60 ?_
  refine ip h12 ?_
  all_goals rfl
theorem qX10_reagentGood_3 {x1 : Int32} {x2 : Int32} {M : am_M} {j2 : Nat} {j3 : Nat} {j5 : Nat} {j7 : Nat} (h1 : j2 < 4) (h2 : x1 = i3 j2) (h3 : j3 < 16) (h4 : ((3 * x2) + 1) = i3 j3) (h5 : 0 ≤ (M 30 0 (16 * j2 + j3))) (h6 : j5 < 16) (h7 : ((3 * x2) + 2) = i3 j5) (h8 : ¬ ((M 30 0 (16 * j2 + j5)) < 1)) (h9 : j7 < 16) (h10 : ((3 * x2) + 3) = i3 j7) (h11 : ¬ ((M 30 0 (16 * j2 + j7)) < 1)) (h12 : ¬ ((M 30 0 (16 * j2 + 7)) ≤ (M 30 0 (16 * j2 + j7)))) : fX10_reagentGood [.inr (10, 0), .inl (.int x1), .inl (.int x2)] M = am_rI 1 M := by
  rw [eX10_reagentGood]
  refine eX10_reagentGood_0 ?_
  refine ri (sX10_of _ h2 h1 h4 h3) ?_
  refine eX10_reagentGood_10 ?_
  refine ip h5 ?_
  refine ri (sX10_of _ h2 h1 h7 h6) ?_
  refine eX10_reagentGood_25 ?_
  refine iq h8 ?_
  refine ri (sX10_of _ h2 h1 h10 h9) ?_
  refine eX10_reagentGood_39 ?_
  refine iq h11 ?_
  refine ri (sX10_of _ h2 h1 h10 h9) ?_
  refine eX10_reagentGood_53 ?_
  refine ri (sX10_of _ h2 h1 rfl (by decide)) ?_
  refine eX10_reagentGood_60 ?_
  refine iq h12 ?_
  all_goals rfl
theorem qX10_reagentGood_4 {x1 : Int32} {x2 : Int32} {M : am_M} {j2 : Nat} {j3 : Nat} (h1 : j2 < 4) (h2 : x1 = i3 j2) (h3 : j3 < 16) (h4 : ((3 * x2) + 1) = i3 j3) (h5 : ¬ (0 ≤ (M 30 0 (16 * j2 + j3)))) : fX10_reagentGood [.inr (10, 0), .inl (.int x1), .inl (.int x2)] M = am_rI 1 M := by
  rw [eX10_reagentGood]
  refine eX10_reagentGood_0 ?_
  refine ri (sX10_of _ h2 h1 h4 h3) ?_
  refine eX10_reagentGood_10 ?_
  refine iq h5 ?_
  all_goals rfl
theorem qX10_curveGood_0 {x1 : Int32} {M : am_M} {res : am_O × am_M} {j1 : Nat} (h1 : j1 < 4) (h2 : x1 = i3 j1) (h3 : (M 34 0 j1) < 2) (k : rX10_curveGood 99900 39 [.inr (10, 0), .inl (.int x1), .inl (.int 0), .inl (.int 0), .inl (.int ((5 * x1) + 1))] [] M = some res) : fX10_curveGood [.inr (10, 0), .inl (.int x1)] M = some res := by
  rw [eX10_curveGood]
  refine eX10_curveGood_0 ?_
  refine ip (ixi h2 h1 (by decide)) ?_
  try rw [ixn h2 h1 (by decide)]
  refine ip h3 ?_
  refine ip (ixi h2 h1 (by decide)) ?_
  try rw [ixn h2 h1 (by decide)]
  refine ip h3 ?_
  exact k
theorem qX10_curveGood_1 {x1 : Int32} {M : am_M} {res : am_O × am_M} {j1 : Nat} (h1 : j1 < 4) (h2 : x1 = i3 j1) (h3 : ¬ ((M 34 0 j1) < 2)) (k : rX10_curveGood 99900 39 [.inr (10, 0), .inl (.int x1), .inl (.int 1), .inl (.int 1), .inl (.int ((5 * x1) + 1))] [] M = some res) : fX10_curveGood [.inr (10, 0), .inl (.int x1)] M = some res := by
  rw [eX10_curveGood]
  refine eX10_curveGood_0 ?_
  refine ip (ixi h2 h1 (by decide)) ?_
  try rw [ixn h2 h1 (by decide)]
  refine iq h3 ?_
  refine ip (ixi h2 h1 (by decide)) ?_
  try rw [ixn h2 h1 (by decide)]
  refine iq h3 ?_
  exact k
theorem mX10_curveGood {n m pc : Nat} {ls st : List am_V} {M : am_M} {res : am_O × am_M} (h : rX10_curveGood n pc ls st M = some res) (hm : n ≤ m) : rX10_curveGood m pc ls st M = some res := by
  have h2 := am_run_mono_add h (m - n)
  rw [show n + (m - n) = m by omega] at h2
  exact h2
theorem qX10_curveGood_39_0 {x1 : Int32} {x2 : Int32} {x3 : Int32} {x4 : Nat} {M : am_M} {n : Nat} {j1 : Nat} (h1 : j1 < 4) (h2 : x1 = i3 j1) (h3 : ((5 * x1) + (M 34 0 j1)) ≤ (i3 x4)) (h4 : x2 = 0) (h5 : x3 = 0) : rX10_curveGood (n + 100) 39 [.inr (10, 0), .inl (.int x1), .inl (.int x2), .inl (.int x3), .inl (.int (i3 x4))] [] M = am_rI 0 M := by
  refine eX10_curveGood_39 ?_
  refine ip (ixi h2 h1 (by decide)) ?_
  try rw [ixn h2 h1 (by decide)]
  refine ip h3 ?_
  refine ip h4 ?_
  refine ip h5 ?_
  all_goals rfl
theorem qX10_curveGood_39_1 {x1 : Int32} {x2 : Int32} {x3 : Int32} {x4 : Nat} {M : am_M} {n : Nat} {j1 : Nat} (h1 : j1 < 4) (h2 : x1 = i3 j1) (h3 : ((5 * x1) + (M 34 0 j1)) ≤ (i3 x4)) (h4 : x2 = 0) (h5 : ¬ (x3 = 0)) : rX10_curveGood (n + 100) 39 [.inr (10, 0), .inl (.int x1), .inl (.int x2), .inl (.int x3), .inl (.int (i3 x4))] [] M = am_rI 1 M := by
  refine eX10_curveGood_39 ?_
  refine ip (ixi h2 h1 (by decide)) ?_
  try rw [ixn h2 h1 (by decide)]
  refine ip h3 ?_
  refine ip h4 ?_
  refine iq h5 ?_
  all_goals rfl
theorem qX10_curveGood_39_2 {x1 : Int32} {x2 : Int32} {x3 : Int32} {x4 : Nat} {M : am_M} {n : Nat} {j1 : Nat} (h1 : j1 < 4) (h2 : x1 = i3 j1) (h3 : ((5 * x1) + (M 34 0 j1)) ≤ (i3 x4)) (h4 : ¬ (x2 = 0)) : rX10_curveGood (n + 100) 39 [.inr (10, 0), .inl (.int x1), .inl (.int x2), .inl (.int x3), .inl (.int (i3 x4))] [] M = am_rI 1 M := by
  refine eX10_curveGood_39 ?_
  refine ip (ixi h2 h1 (by decide)) ?_
  try rw [ixn h2 h1 (by decide)]
  refine ip h3 ?_
  refine iq h4 ?_
  all_goals rfl
theorem qX10_curveGood_39_3 {x1 : Int32} {x2 : Int32} {x3 : Int32} {x4 : Nat} {M : am_M} {n : Nat} {res : am_O × am_M} {j1 : Nat} {j2 : Nat} (h1 : j1 < 4) (h2 : x1 = i3 j1) (h3 : ¬ (((5 * x1) + (M 34 0 j1)) ≤ (i3 x4))) (h4 : x4 < 20) (h5 : j2 < 20) (h6 : ((i3 x4) - 1) = i3 j2) (h7 : (M 33 0 j2) < (M 33 0 x4)) (h8 : (M 33 0 x4) < (M 33 0 j2)) (k : rX10_curveGood n 39 [.inr (10, 0), .inl (.int x1), .inl (.int x2), .inl (.int x3), .inl (.int (i3 (x4 + 1)))] [] M = some res) : rX10_curveGood (n + 100) 39 [.inr (10, 0), .inl (.int x1), .inl (.int x2), .inl (.int x3), .inl (.int (i3 x4))] [] M = some res := by
  refine eX10_curveGood_39 ?_
  refine ip (ixi h2 h1 (by decide)) ?_
  try rw [ixn h2 h1 (by decide)]
  refine iq h3 ?_
  refine ip (i3_in' h4 (by decide)) ?_
  try rw [ixm h4 (by decide)]
  refine ip (ixi h6 h5 (by decide)) ?_
  try rw [ixn h6 h5 (by decide)]
  refine ip h7 ?_
  refine ip (i3_in' h4 (by decide)) ?_
  try rw [ixm h4 (by decide)]
  refine ip (ixi h6 h5 (by decide)) ?_
  try rw [ixn h6 h5 (by decide)]
  refine ip h8 ?_
  rw [i3_one]
  exact k
theorem qX10_curveGood_39_4 {x1 : Int32} {x2 : Int32} {x3 : Int32} {x4 : Nat} {M : am_M} {n : Nat} {res : am_O × am_M} {j1 : Nat} {j2 : Nat} (h1 : j1 < 4) (h2 : x1 = i3 j1) (h3 : ¬ (((5 * x1) + (M 34 0 j1)) ≤ (i3 x4))) (h4 : x4 < 20) (h5 : j2 < 20) (h6 : ((i3 x4) - 1) = i3 j2) (h7 : (M 33 0 j2) < (M 33 0 x4)) (h8 : ¬ ((M 33 0 x4) < (M 33 0 j2))) (k : rX10_curveGood n 39 [.inr (10, 0), .inl (.int x1), .inl (.int x2), .inl (.int 0), .inl (.int (i3 (x4 + 1)))] [] M = some res) : rX10_curveGood (n + 100) 39 [.inr (10, 0), .inl (.int x1), .inl (.int x2), .inl (.int x3), .inl (.int (i3 x4))] [] M = some res := by
  refine eX10_curveGood_39 ?_
  refine ip (ixi h2 h1 (by decide)) ?_
  try rw [ixn h2 h1 (by decide)]
  refine iq h3 ?_
  refine ip (i3_in' h4 (by decide)) ?_
  try rw [ixm h4 (by decide)]
  refine ip (ixi h6 h5 (by decide)) ?_
  try rw [ixn h6 h5 (by decide)]
  refine ip h7 ?_
  refine ip (i3_in' h4 (by decide)) ?_
  try rw [ixm h4 (by decide)]
  refine ip (ixi h6 h5 (by decide)) ?_
  try rw [ixn h6 h5 (by decide)]
  refine iq h8 ?_
  rw [i3_one]
  exact k
theorem qX10_curveGood_39_5 {x1 : Int32} {x2 : Int32} {x3 : Int32} {x4 : Nat} {M : am_M} {n : Nat} {res : am_O × am_M} {j1 : Nat} {j2 : Nat} (h1 : j1 < 4) (h2 : x1 = i3 j1) (h3 : ¬ (((5 * x1) + (M 34 0 j1)) ≤ (i3 x4))) (h4 : x4 < 20) (h5 : j2 < 20) (h6 : ((i3 x4) - 1) = i3 j2) (h7 : ¬ ((M 33 0 j2) < (M 33 0 x4))) (h8 : (M 33 0 x4) < (M 33 0 j2)) (k : rX10_curveGood n 39 [.inr (10, 0), .inl (.int x1), .inl (.int 0), .inl (.int x3), .inl (.int (i3 (x4 + 1)))] [] M = some res) : rX10_curveGood (n + 100) 39 [.inr (10, 0), .inl (.int x1), .inl (.int x2), .inl (.int x3), .inl (.int (i3 x4))] [] M = some res := by
  refine eX10_curveGood_39 ?_
  refine ip (ixi h2 h1 (by decide)) ?_
  try rw [ixn h2 h1 (by decide)]
  refine iq h3 ?_
  refine ip (i3_in' h4 (by decide)) ?_
  try rw [ixm h4 (by decide)]
  refine ip (ixi h6 h5 (by decide)) ?_
  try rw [ixn h6 h5 (by decide)]
  refine iq h7 ?_
  refine ip (i3_in' h4 (by decide)) ?_
  try rw [ixm h4 (by decide)]
  refine ip (ixi h6 h5 (by decide)) ?_
  try rw [ixn h6 h5 (by decide)]
  refine ip h8 ?_
  rw [i3_one]
  exact k
theorem qX10_curveGood_39_6 {x1 : Int32} {x2 : Int32} {x3 : Int32} {x4 : Nat} {M : am_M} {n : Nat} {res : am_O × am_M} {j1 : Nat} {j2 : Nat} (h1 : j1 < 4) (h2 : x1 = i3 j1) (h3 : ¬ (((5 * x1) + (M 34 0 j1)) ≤ (i3 x4))) (h4 : x4 < 20) (h5 : j2 < 20) (h6 : ((i3 x4) - 1) = i3 j2) (h7 : ¬ ((M 33 0 j2) < (M 33 0 x4))) (h8 : ¬ ((M 33 0 x4) < (M 33 0 j2))) (k : rX10_curveGood n 39 [.inr (10, 0), .inl (.int x1), .inl (.int 0), .inl (.int 0), .inl (.int (i3 (x4 + 1)))] [] M = some res) : rX10_curveGood (n + 100) 39 [.inr (10, 0), .inl (.int x1), .inl (.int x2), .inl (.int x3), .inl (.int (i3 x4))] [] M = some res := by
  refine eX10_curveGood_39 ?_
  refine ip (ixi h2 h1 (by decide)) ?_
  try rw [ixn h2 h1 (by decide)]
  refine iq h3 ?_
  refine ip (i3_in' h4 (by decide)) ?_
  try rw [ixm h4 (by decide)]
  refine ip (ixi h6 h5 (by decide)) ?_
  try rw [ixn h6 h5 (by decide)]
  refine iq h7 ?_
  refine ip (i3_in' h4 (by decide)) ?_
  try rw [ixm h4 (by decide)]
  refine ip (ixi h6 h5 (by decide)) ?_
  try rw [ixn h6 h5 (by decide)]
  refine iq h8 ?_
  rw [i3_one]
  exact k
theorem qX10_seal_0 {x1 : Int32} {M : am_M} (h1 : ¬ (0 ≤ x1 ∧ x1 ≤ 3)) : fX10_seal [.inr (10, 0), .inl (.int x1)] M = am_rI 0 (am_put M 10 0 45 1) := by
  rw [eX10_seal]
  refine eX10_seal_0 ?_
  refine ri (sX10_isTest _ _) ?_
  refine eX10_seal_5 ?_
  refine ip (bi_f h1) ?_
  all_goals rfl
theorem qX10_seal_1 {x1 : Int32} {M : am_M} {res : am_O × am_M} {j2 : Nat} (h1 : 0 ≤ x1 ∧ x1 ≤ 3) (h2 : j2 < 4) (h3 : x1 = i3 j2) (h4 : (M 30 0 (16 * j2 + 0)) < 1) (k : rX10_seal 99700 73 [.inr (10, 0), .inl (.int x1), .inl (.int 0), am_D] [.inl (.int (M 30 0 (16 * j2 + 4)))] (am_put M 10 0 45 0) = some res) : fX10_seal [.inr (10, 0), .inl (.int x1)] M = some res := by
  rw [eX10_seal]
  refine eX10_seal_0 ?_
  refine ri (sX10_isTest _ _) ?_
  refine eX10_seal_5 ?_
  refine iq (fun e => bi_0.mp e h1) ?_
  refine ri (sX10_of _ h3 h2 rfl (by decide)) ?_
  refine eX10_seal_31 ?_
  try simp only [am_put_nk, am_put_nf, not_false_eq_true, Nat.reduceEqDiff]
  refine ip h4 ?_
  refine ri (sX10_of _ h3 h2 rfl (by decide)) ?_
  exact k
theorem qX10_seal_2 {x1 : Int32} {M : am_M} {res : am_O × am_M} {j2 : Nat} {v2 : Int32} (h1 : 0 ≤ x1 ∧ x1 ≤ 3) (h2 : j2 < 4) (h3 : x1 = i3 j2) (h4 : ¬ ((M 30 0 (16 * j2 + 0)) < 1)) (h5 : fX10_reagentGood [.inr (10, 0), .inl (.int x1), .inl (.int 0)] (am_put M 10 0 45 0) = am_rI v2 (am_put M 10 0 45 0)) (h6 : v2 = 0) (k : rX10_seal 99600 73 [.inr (10, 0), .inl (.int x1), .inl (.int 0), am_D] [.inl (.int (M 30 0 (16 * j2 + 4)))] (am_put M 10 0 45 0) = some res) : fX10_seal [.inr (10, 0), .inl (.int x1)] M = some res := by
  rw [eX10_seal]
  refine eX10_seal_0 ?_
  refine ri (sX10_isTest _ _) ?_
  refine eX10_seal_5 ?_
  refine iq (fun e => bi_0.mp e h1) ?_
  refine ri (sX10_of _ h3 h2 rfl (by decide)) ?_
  refine eX10_seal_31 ?_
  try simp only [am_put_nk, am_put_nf, not_false_eq_true, Nat.reduceEqDiff]
  refine iq h4 ?_
  refine ri h5 ?_
  refine eX10_seal_41 ?_
  try simp only [am_put_nk, am_put_nf, not_false_eq_true, Nat.reduceEqDiff]
  refine ip h6 ?_
  refine ri (sX10_of _ h3 h2 rfl (by decide)) ?_
  exact k
theorem qX10_seal_3 {x1 : Int32} {M : am_M} {res : am_O × am_M} {j2 : Nat} {v2 : Int32} {v3 : Int32} (h1 : 0 ≤ x1 ∧ x1 ≤ 3) (h2 : j2 < 4) (h3 : x1 = i3 j2) (h4 : ¬ ((M 30 0 (16 * j2 + 0)) < 1)) (h5 : fX10_reagentGood [.inr (10, 0), .inl (.int x1), .inl (.int 0)] (am_put M 10 0 45 0) = am_rI v2 (am_put M 10 0 45 0)) (h6 : ¬ (v2 = 0)) (h7 : fX10_reagentGood [.inr (10, 0), .inl (.int x1), .inl (.int 1)] (am_put M 10 0 45 0) = am_rI v3 (am_put M 10 0 45 0)) (h8 : v3 = 0) (k : rX10_seal 99500 73 [.inr (10, 0), .inl (.int x1), .inl (.int 0), am_D] [.inl (.int (M 30 0 (16 * j2 + 4)))] (am_put M 10 0 45 0) = some res) : fX10_seal [.inr (10, 0), .inl (.int x1)] M = some res := by
  rw [eX10_seal]
  refine eX10_seal_0 ?_
  refine ri (sX10_isTest _ _) ?_
  refine eX10_seal_5 ?_
  refine iq (fun e => bi_0.mp e h1) ?_
  refine ri (sX10_of _ h3 h2 rfl (by decide)) ?_
  refine eX10_seal_31 ?_
  try simp only [am_put_nk, am_put_nf, not_false_eq_true, Nat.reduceEqDiff]
  refine iq h4 ?_
  refine ri h5 ?_
  refine eX10_seal_41 ?_
  try simp only [am_put_nk, am_put_nf, not_false_eq_true, Nat.reduceEqDiff]
  refine iq h6 ?_
  refine ri h7 ?_
  refine eX10_seal_50 ?_
  try simp only [am_put_nk, am_put_nf, not_false_eq_true, Nat.reduceEqDiff]
  refine ip h8 ?_
  refine ri (sX10_of _ h3 h2 rfl (by decide)) ?_
  exact k
theorem qX10_seal_4 {x1 : Int32} {M : am_M} {res : am_O × am_M} {j2 : Nat} {v2 : Int32} {v3 : Int32} {v4 : Int32} (h1 : 0 ≤ x1 ∧ x1 ≤ 3) (h2 : j2 < 4) (h3 : x1 = i3 j2) (h4 : ¬ ((M 30 0 (16 * j2 + 0)) < 1)) (h5 : fX10_reagentGood [.inr (10, 0), .inl (.int x1), .inl (.int 0)] (am_put M 10 0 45 0) = am_rI v2 (am_put M 10 0 45 0)) (h6 : ¬ (v2 = 0)) (h7 : fX10_reagentGood [.inr (10, 0), .inl (.int x1), .inl (.int 1)] (am_put M 10 0 45 0) = am_rI v3 (am_put M 10 0 45 0)) (h8 : ¬ (v3 = 0)) (h9 : fX10_curveGood [.inr (10, 0), .inl (.int x1)] (am_put M 10 0 45 0) = am_rI v4 (am_put M 10 0 45 0)) (h10 : v4 = 0) (k : rX10_seal 99400 73 [.inr (10, 0), .inl (.int x1), .inl (.int 0), am_D] [.inl (.int (M 30 0 (16 * j2 + 4)))] (am_put M 10 0 45 0) = some res) : fX10_seal [.inr (10, 0), .inl (.int x1)] M = some res := by
  rw [eX10_seal]
  refine eX10_seal_0 ?_
  refine ri (sX10_isTest _ _) ?_
  refine eX10_seal_5 ?_
  refine iq (fun e => bi_0.mp e h1) ?_
  refine ri (sX10_of _ h3 h2 rfl (by decide)) ?_
  refine eX10_seal_31 ?_
  try simp only [am_put_nk, am_put_nf, not_false_eq_true, Nat.reduceEqDiff]
  refine iq h4 ?_
  refine ri h5 ?_
  refine eX10_seal_41 ?_
  try simp only [am_put_nk, am_put_nf, not_false_eq_true, Nat.reduceEqDiff]
  refine iq h6 ?_
  refine ri h7 ?_
  refine eX10_seal_50 ?_
  try simp only [am_put_nk, am_put_nf, not_false_eq_true, Nat.reduceEqDiff]
  refine iq h8 ?_
  refine ri h9 ?_
  refine eX10_seal_58 ?_
  try simp only [am_put_nk, am_put_nf, not_false_eq_true, Nat.reduceEqDiff]
  refine ip h10 ?_
  refine ri (sX10_of _ h3 h2 rfl (by decide)) ?_
  exact k
theorem qX10_seal_5 {x1 : Int32} {M : am_M} {res : am_O × am_M} {j2 : Nat} {v2 : Int32} {v3 : Int32} {v4 : Int32} (h1 : 0 ≤ x1 ∧ x1 ≤ 3) (h2 : j2 < 4) (h3 : x1 = i3 j2) (h4 : ¬ ((M 30 0 (16 * j2 + 0)) < 1)) (h5 : fX10_reagentGood [.inr (10, 0), .inl (.int x1), .inl (.int 0)] (am_put M 10 0 45 0) = am_rI v2 (am_put M 10 0 45 0)) (h6 : ¬ (v2 = 0)) (h7 : fX10_reagentGood [.inr (10, 0), .inl (.int x1), .inl (.int 1)] (am_put M 10 0 45 0) = am_rI v3 (am_put M 10 0 45 0)) (h8 : ¬ (v3 = 0)) (h9 : fX10_curveGood [.inr (10, 0), .inl (.int x1)] (am_put M 10 0 45 0) = am_rI v4 (am_put M 10 0 45 0)) (h10 : ¬ (v4 = 0)) (k : rX10_seal 99400 73 [.inr (10, 0), .inl (.int x1), .inl (.int 1), am_D] [.inl (.int (M 30 0 (16 * j2 + 4)))] (am_put M 10 0 45 0) = some res) : fX10_seal [.inr (10, 0), .inl (.int x1)] M = some res := by
  rw [eX10_seal]
  refine eX10_seal_0 ?_
  refine ri (sX10_isTest _ _) ?_
  refine eX10_seal_5 ?_
  refine iq (fun e => bi_0.mp e h1) ?_
  refine ri (sX10_of _ h3 h2 rfl (by decide)) ?_
  refine eX10_seal_31 ?_
  try simp only [am_put_nk, am_put_nf, not_false_eq_true, Nat.reduceEqDiff]
  refine iq h4 ?_
  refine ri h5 ?_
  refine eX10_seal_41 ?_
  try simp only [am_put_nk, am_put_nf, not_false_eq_true, Nat.reduceEqDiff]
  refine iq h6 ?_
  refine ri h7 ?_
  refine eX10_seal_50 ?_
  try simp only [am_put_nk, am_put_nf, not_false_eq_true, Nat.reduceEqDiff]
  refine iq h8 ?_
  refine ri h9 ?_
  refine eX10_seal_58 ?_
  try simp only [am_put_nk, am_put_nf, not_false_eq_true, Nat.reduceEqDiff]
  refine iq h10 ?_
  refine ri (sX10_of _ h3 h2 rfl (by decide)) ?_
  exact k
theorem mX10_seal {n m pc : Nat} {ls st : List am_V} {M : am_M} {res : am_O × am_M} (h : rX10_seal n pc ls st M = some res) (hm : n ≤ m) : rX10_seal m pc ls st M = some res := by
  have h2 := am_run_mono_add h (m - n)
  rw [show n + (m - n) = m by omega] at h2
  exact h2
theorem qX10_seal_73_0 {x1 : Int32} {x2 : Int32} {y0 : Int32} {M : am_M} {n : Nat} {res : am_O × am_M} {j3 : Nat} (h1 : y0 < 0) (h2 : j3 < 4) (h3 : x1 = i3 j3) (k : rX10_seal n 110 [.inr (10, 0), .inl (.int x1), .inl (.int x2), am_D] [.inl (.int (M 30 0 (16 * j3 + 8)))] M = some res) : rX10_seal (n + 100) 73 [.inr (10, 0), .inl (.int x1), .inl (.int x2), am_D] [.inl (.int y0)] M = some res := by
  refine eX10_seal_73 ?_
  refine ip h1 ?_
  refine ri (sX10_of _ h3 h2 rfl (by decide)) ?_
  exact k
theorem qX10_seal_73_1 {x1 : Int32} {x2 : Int32} {y0 : Int32} {M : am_M} {n : Nat} {res : am_O × am_M} {j3 : Nat} (h1 : ¬ (y0 < 0)) (h2 : j3 < 4) (h3 : x1 = i3 j3) (h4 : (M 30 0 (16 * j3 + 1)) < 0) (k : rX10_seal n 110 [.inr (10, 0), .inl (.int x1), .inl (.int 0), am_D] [.inl (.int (M 30 0 (16 * j3 + 8)))] M = some res) : rX10_seal (n + 200) 73 [.inr (10, 0), .inl (.int x1), .inl (.int x2), am_D] [.inl (.int y0)] M = some res := by
  refine eX10_seal_73 ?_
  refine iq h1 ?_
  refine ri (sX10_of _ h3 h2 rfl (by decide)) ?_
  refine eX10_seal_82 ?_
  refine ip h4 ?_
  refine ri (sX10_of _ h3 h2 rfl (by decide)) ?_
  exact k
theorem qX10_seal_73_2 {x1 : Int32} {x2 : Int32} {y0 : Int32} {M : am_M} {n : Nat} {res : am_O × am_M} {j3 : Nat} (h1 : ¬ (y0 < 0)) (h2 : j3 < 4) (h3 : x1 = i3 j3) (h4 : ¬ ((M 30 0 (16 * j3 + 1)) < 0)) (h5 : (M 30 0 (16 * j3 + 3)) < (M 30 0 (16 * j3 + 6))) (k : rX10_seal n 110 [.inr (10, 0), .inl (.int x1), .inl (.int x2), am_D] [.inl (.int (M 30 0 (16 * j3 + 8)))] M = some res) : rX10_seal (n + 400) 73 [.inr (10, 0), .inl (.int x1), .inl (.int x2), am_D] [.inl (.int y0)] M = some res := by
  refine eX10_seal_73 ?_
  refine iq h1 ?_
  refine ri (sX10_of _ h3 h2 rfl (by decide)) ?_
  refine eX10_seal_82 ?_
  refine iq h4 ?_
  refine ri (sX10_of _ h3 h2 rfl (by decide)) ?_
  refine eX10_seal_92 ?_
  refine ri (sX10_of _ h3 h2 rfl (by decide)) ?_
  refine eX10_seal_98 ?_
  refine ip h5 ?_
  refine ri (sX10_of _ h3 h2 rfl (by decide)) ?_
  exact k
theorem qX10_seal_73_3 {x1 : Int32} {x2 : Int32} {y0 : Int32} {M : am_M} {n : Nat} {res : am_O × am_M} {j3 : Nat} (h1 : ¬ (y0 < 0)) (h2 : j3 < 4) (h3 : x1 = i3 j3) (h4 : ¬ ((M 30 0 (16 * j3 + 1)) < 0)) (h5 : ¬ ((M 30 0 (16 * j3 + 3)) < (M 30 0 (16 * j3 + 6)))) (k : rX10_seal n 110 [.inr (10, 0), .inl (.int x1), .inl (.int 0), am_D] [.inl (.int (M 30 0 (16 * j3 + 8)))] M = some res) : rX10_seal (n + 400) 73 [.inr (10, 0), .inl (.int x1), .inl (.int x2), am_D] [.inl (.int y0)] M = some res := by
  refine eX10_seal_73 ?_
  refine iq h1 ?_
  refine ri (sX10_of _ h3 h2 rfl (by decide)) ?_
  refine eX10_seal_82 ?_
  refine iq h4 ?_
  refine ri (sX10_of _ h3 h2 rfl (by decide)) ?_
  refine eX10_seal_92 ?_
  refine ri (sX10_of _ h3 h2 rfl (by decide)) ?_
  refine eX10_seal_98 ?_
  refine iq h5 ?_
  refine ri (sX10_of _ h3 h2 rfl (by decide)) ?_
  exact k
theorem qX10_seal_110_0 {x1 : Int32} {x2 : Int32} {y0 : Int32} {M : am_M} {n : Nat} {res : am_O × am_M} {j2 : Nat} (h1 : j2 < 4) (h2 : x1 = i3 j2) (h3 : (M 30 0 (16 * j2 + 7)) < 1) (k : rX10_seal n 184 [.inr (10, 0), .inl (.int x1), .inl (.int 0), .inl (.int ((y0 - (M 30 0 (16 * j2 + 7))) + 1))] [.inl (.int (M 30 0 (16 * j2 + 12)))] M = some res) : rX10_seal (n + 300) 110 [.inr (10, 0), .inl (.int x1), .inl (.int x2), am_D] [.inl (.int y0)] M = some res := by
  refine eX10_seal_110 ?_
  refine ri (sX10_of _ h2 h1 rfl (by decide)) ?_
  refine eX10_seal_117 ?_
  refine ri (sX10_of _ h2 h1 rfl (by decide)) ?_
  refine eX10_seal_128 ?_
  refine ip h3 ?_
  refine ri (sX10_of _ h2 h1 rfl (by decide)) ?_
  exact k
theorem qX10_seal_110_1 {x1 : Int32} {x2 : Int32} {y0 : Int32} {M : am_M} {n : Nat} {res : am_O × am_M} {j2 : Nat} (h1 : j2 < 4) (h2 : x1 = i3 j2) (h3 : ¬ ((M 30 0 (16 * j2 + 7)) < 1)) (h4 : ((y0 - (M 30 0 (16 * j2 + 7))) + 1) < 1) (k : rX10_seal n 184 [.inr (10, 0), .inl (.int x1), .inl (.int 0), .inl (.int ((y0 - (M 30 0 (16 * j2 + 7))) + 1))] [.inl (.int (M 30 0 (16 * j2 + 12)))] M = some res) : rX10_seal (n + 300) 110 [.inr (10, 0), .inl (.int x1), .inl (.int x2), am_D] [.inl (.int y0)] M = some res := by
  refine eX10_seal_110 ?_
  refine ri (sX10_of _ h2 h1 rfl (by decide)) ?_
  refine eX10_seal_117 ?_
  refine ri (sX10_of _ h2 h1 rfl (by decide)) ?_
  refine eX10_seal_128 ?_
  refine iq h3 ?_
  refine ip h4 ?_
  refine ri (sX10_of _ h2 h1 rfl (by decide)) ?_
  exact k
theorem qX10_seal_110_2 {x1 : Int32} {x2 : Int32} {y0 : Int32} {M : am_M} {n : Nat} {res : am_O × am_M} {j2 : Nat} (h1 : j2 < 4) (h2 : x1 = i3 j2) (h3 : ¬ ((M 30 0 (16 * j2 + 7)) < 1)) (h4 : ¬ (((y0 - (M 30 0 (16 * j2 + 7))) + 1) < 1)) (h5 : 6 < ((y0 - (M 30 0 (16 * j2 + 7))) + 1)) (k : rX10_seal n 184 [.inr (10, 0), .inl (.int x1), .inl (.int 0), .inl (.int ((y0 - (M 30 0 (16 * j2 + 7))) + 1))] [.inl (.int (M 30 0 (16 * j2 + 12)))] M = some res) : rX10_seal (n + 300) 110 [.inr (10, 0), .inl (.int x1), .inl (.int x2), am_D] [.inl (.int y0)] M = some res := by
  refine eX10_seal_110 ?_
  refine ri (sX10_of _ h2 h1 rfl (by decide)) ?_
  refine eX10_seal_117 ?_
  refine ri (sX10_of _ h2 h1 rfl (by decide)) ?_
  refine eX10_seal_128 ?_
  refine iq h3 ?_
  refine iq h4 ?_
  refine ip h5 ?_
  refine ri (sX10_of _ h2 h1 rfl (by decide)) ?_
  exact k
theorem qX10_seal_110_3 {x1 : Int32} {x2 : Int32} {y0 : Int32} {M : am_M} {n : Nat} {res : am_O × am_M} {j2 : Nat} (h1 : j2 < 4) (h2 : x1 = i3 j2) (h3 : ¬ ((M 30 0 (16 * j2 + 7)) < 1)) (h4 : ¬ (((y0 - (M 30 0 (16 * j2 + 7))) + 1) < 1)) (h5 : ¬ (6 < ((y0 - (M 30 0 (16 * j2 + 7))) + 1))) (h6 : (M 30 0 (16 * j2 + 9)) ≤ 0) (h7 : (M 30 0 (16 * j2 + 10)) ≤ (M 30 0 (16 * j2 + 11))) (k : rX10_seal n 184 [.inr (10, 0), .inl (.int x1), .inl (.int x2), .inl (.int ((y0 - (M 30 0 (16 * j2 + 7))) + 1))] [.inl (.int (M 30 0 (16 * j2 + 12)))] M = some res) : rX10_seal (n + 600) 110 [.inr (10, 0), .inl (.int x1), .inl (.int x2), am_D] [.inl (.int y0)] M = some res := by
  refine eX10_seal_110 ?_
  refine ri (sX10_of _ h2 h1 rfl (by decide)) ?_
  refine eX10_seal_117 ?_
  refine ri (sX10_of _ h2 h1 rfl (by decide)) ?_
  refine eX10_seal_128 ?_
  refine iq h3 ?_
  refine iq h4 ?_
  refine iq h5 ?_
  refine ri (sX10_of _ h2 h1 rfl (by decide)) ?_
  refine eX10_seal_150 ?_
  refine ip h6 ?_
  refine ri (sX10_of _ h2 h1 rfl (by decide)) ?_
  refine eX10_seal_165 ?_
  refine ri (sX10_of _ h2 h1 rfl (by decide)) ?_
  refine eX10_seal_172 ?_
  refine ip h7 ?_
  refine ri (sX10_of _ h2 h1 rfl (by decide)) ?_
  exact k
theorem qX10_seal_110_4 {x1 : Int32} {x2 : Int32} {y0 : Int32} {M : am_M} {n : Nat} {res : am_O × am_M} {j2 : Nat} (h1 : j2 < 4) (h2 : x1 = i3 j2) (h3 : ¬ ((M 30 0 (16 * j2 + 7)) < 1)) (h4 : ¬ (((y0 - (M 30 0 (16 * j2 + 7))) + 1) < 1)) (h5 : ¬ (6 < ((y0 - (M 30 0 (16 * j2 + 7))) + 1))) (h6 : (M 30 0 (16 * j2 + 9)) ≤ 0) (h7 : ¬ ((M 30 0 (16 * j2 + 10)) ≤ (M 30 0 (16 * j2 + 11)))) (k : rX10_seal n 184 [.inr (10, 0), .inl (.int x1), .inl (.int 0), .inl (.int ((y0 - (M 30 0 (16 * j2 + 7))) + 1))] [.inl (.int (M 30 0 (16 * j2 + 12)))] M = some res) : rX10_seal (n + 600) 110 [.inr (10, 0), .inl (.int x1), .inl (.int x2), am_D] [.inl (.int y0)] M = some res := by
  refine eX10_seal_110 ?_
  refine ri (sX10_of _ h2 h1 rfl (by decide)) ?_
  refine eX10_seal_117 ?_
  refine ri (sX10_of _ h2 h1 rfl (by decide)) ?_
  refine eX10_seal_128 ?_
  refine iq h3 ?_
  refine iq h4 ?_
  refine iq h5 ?_
  refine ri (sX10_of _ h2 h1 rfl (by decide)) ?_
  refine eX10_seal_150 ?_
  refine ip h6 ?_
  refine ri (sX10_of _ h2 h1 rfl (by decide)) ?_
  refine eX10_seal_165 ?_
  refine ri (sX10_of _ h2 h1 rfl (by decide)) ?_
  refine eX10_seal_172 ?_
  refine iq h7 ?_
  refine ri (sX10_of _ h2 h1 rfl (by decide)) ?_
  exact k
theorem qX10_seal_110_5 {x1 : Int32} {x2 : Int32} {y0 : Int32} {M : am_M} {n : Nat} {res : am_O × am_M} {j2 : Nat} (h1 : j2 < 4) (h2 : x1 = i3 j2) (h3 : ¬ ((M 30 0 (16 * j2 + 7)) < 1)) (h4 : ¬ (((y0 - (M 30 0 (16 * j2 + 7))) + 1) < 1)) (h5 : ¬ (6 < ((y0 - (M 30 0 (16 * j2 + 7))) + 1))) (h6 : ¬ ((M 30 0 (16 * j2 + 9)) ≤ 0)) (h7 : ((y0 - (M 30 0 (16 * j2 + 7))) + 1) < 2) (k : rX10_seal n 184 [.inr (10, 0), .inl (.int x1), .inl (.int 0), .inl (.int ((y0 - (M 30 0 (16 * j2 + 7))) + 1))] [.inl (.int (M 30 0 (16 * j2 + 12)))] M = some res) : rX10_seal (n + 400) 110 [.inr (10, 0), .inl (.int x1), .inl (.int x2), am_D] [.inl (.int y0)] M = some res := by
  refine eX10_seal_110 ?_
  refine ri (sX10_of _ h2 h1 rfl (by decide)) ?_
  refine eX10_seal_117 ?_
  refine ri (sX10_of _ h2 h1 rfl (by decide)) ?_
  refine eX10_seal_128 ?_
  refine iq h3 ?_
  refine iq h4 ?_
  refine iq h5 ?_
  refine ri (sX10_of _ h2 h1 rfl (by decide)) ?_
  refine eX10_seal_150 ?_
  refine iq h6 ?_
  refine ip h7 ?_
  refine ri (sX10_of _ h2 h1 rfl (by decide)) ?_
  exact k
theorem qX10_seal_110_6 {x1 : Int32} {x2 : Int32} {y0 : Int32} {M : am_M} {n : Nat} {res : am_O × am_M} {j2 : Nat} (h1 : j2 < 4) (h2 : x1 = i3 j2) (h3 : ¬ ((M 30 0 (16 * j2 + 7)) < 1)) (h4 : ¬ (((y0 - (M 30 0 (16 * j2 + 7))) + 1) < 1)) (h5 : ¬ (6 < ((y0 - (M 30 0 (16 * j2 + 7))) + 1))) (h6 : ¬ ((M 30 0 (16 * j2 + 9)) ≤ 0)) (h7 : ¬ (((y0 - (M 30 0 (16 * j2 + 7))) + 1) < 2)) (h8 : (M 30 0 (16 * j2 + 10)) ≤ (M 30 0 (16 * j2 + 11))) (k : rX10_seal n 184 [.inr (10, 0), .inl (.int x1), .inl (.int x2), .inl (.int ((y0 - (M 30 0 (16 * j2 + 7))) + 1))] [.inl (.int (M 30 0 (16 * j2 + 12)))] M = some res) : rX10_seal (n + 600) 110 [.inr (10, 0), .inl (.int x1), .inl (.int x2), am_D] [.inl (.int y0)] M = some res := by
  refine eX10_seal_110 ?_
  refine ri (sX10_of _ h2 h1 rfl (by decide)) ?_
  refine eX10_seal_117 ?_
  refine ri (sX10_of _ h2 h1 rfl (by decide)) ?_
  refine eX10_seal_128 ?_
  refine iq h3 ?_
  refine iq h4 ?_
  refine iq h5 ?_
  refine ri (sX10_of _ h2 h1 rfl (by decide)) ?_
  refine eX10_seal_150 ?_
  refine iq h6 ?_
  refine iq h7 ?_
  refine ri (sX10_of _ h2 h1 rfl (by decide)) ?_
  refine eX10_seal_165 ?_
  refine ri (sX10_of _ h2 h1 rfl (by decide)) ?_
  refine eX10_seal_172 ?_
  refine ip h8 ?_
  refine ri (sX10_of _ h2 h1 rfl (by decide)) ?_
  exact k
theorem qX10_seal_110_7 {x1 : Int32} {x2 : Int32} {y0 : Int32} {M : am_M} {n : Nat} {res : am_O × am_M} {j2 : Nat} (h1 : j2 < 4) (h2 : x1 = i3 j2) (h3 : ¬ ((M 30 0 (16 * j2 + 7)) < 1)) (h4 : ¬ (((y0 - (M 30 0 (16 * j2 + 7))) + 1) < 1)) (h5 : ¬ (6 < ((y0 - (M 30 0 (16 * j2 + 7))) + 1))) (h6 : ¬ ((M 30 0 (16 * j2 + 9)) ≤ 0)) (h7 : ¬ (((y0 - (M 30 0 (16 * j2 + 7))) + 1) < 2)) (h8 : ¬ ((M 30 0 (16 * j2 + 10)) ≤ (M 30 0 (16 * j2 + 11)))) (k : rX10_seal n 184 [.inr (10, 0), .inl (.int x1), .inl (.int 0), .inl (.int ((y0 - (M 30 0 (16 * j2 + 7))) + 1))] [.inl (.int (M 30 0 (16 * j2 + 12)))] M = some res) : rX10_seal (n + 600) 110 [.inr (10, 0), .inl (.int x1), .inl (.int x2), am_D] [.inl (.int y0)] M = some res := by
  refine eX10_seal_110 ?_
  refine ri (sX10_of _ h2 h1 rfl (by decide)) ?_
  refine eX10_seal_117 ?_
  refine ri (sX10_of _ h2 h1 rfl (by decide)) ?_
  refine eX10_seal_128 ?_
  refine iq h3 ?_
  refine iq h4 ?_
  refine iq h5 ?_
  refine ri (sX10_of _ h2 h1 rfl (by decide)) ?_
  refine eX10_seal_150 ?_
  refine iq h6 ?_
  refine iq h7 ?_
  refine ri (sX10_of _ h2 h1 rfl (by decide)) ?_
  refine eX10_seal_165 ?_
  refine ri (sX10_of _ h2 h1 rfl (by decide)) ?_
  refine eX10_seal_172 ?_
  refine iq h8 ?_
  refine ri (sX10_of _ h2 h1 rfl (by decide)) ?_
  exact k
theorem qX10_seal_184_0 {x1 : Int32} {x2 : Int32} {x3 : Int32} {y0 : Int32} {M : am_M} {n : Nat} {j2 : Nat} (h1 : y0 = 2) (h2 : j2 < 4) (h3 : x1 = i3 j2) (h4 : ¬ ((M 30 0 (16 * j2 + 13)) = 0)) (h5 : ((M 30 0 (16 * j2 + 0)) - (M 30 0 (16 * j2 + 0)) / (M 30 0 (16 * j2 + 13)) * (M 30 0 (16 * j2 + 13))) = 0) (h6 : am_b x2 = x2) (h7 : am_b x2 = x2) : rX10_seal (n + 300) 184 [.inr (10, 0), .inl (.int x1), .inl (.int x2), .inl (.int x3)] [.inl (.int y0)] M = am_rI x2 (am_put M 31 0 j2 x2) := by
  refine eX10_seal_184 ?_
  refine ip h1 ?_
  refine ri (sX10_of _ h3 h2 rfl (by decide)) ?_
  refine eX10_seal_194 ?_
  refine ri (sX10_of _ h3 h2 rfl (by decide)) ?_
  refine eX10_seal_201 ?_
  refine iq h4 ?_
  refine ip h5 ?_
  refine ip ⟨(ixi h3 h2 (by decide)), h6⟩ ?_
  try rw [ixn h3 h2 (by decide)]
  exact am_finb h7
theorem qX10_seal_184_1 {x1 : Int32} {x2 : Int32} {x3 : Int32} {y0 : Int32} {M : am_M} {n : Nat} {j2 : Nat} (h1 : y0 = 2) (h2 : j2 < 4) (h3 : x1 = i3 j2) (h4 : ¬ ((M 30 0 (16 * j2 + 13)) = 0)) (h5 : ¬ (((M 30 0 (16 * j2 + 0)) - (M 30 0 (16 * j2 + 0)) / (M 30 0 (16 * j2 + 13)) * (M 30 0 (16 * j2 + 13))) = 0)) : rX10_seal (n + 300) 184 [.inr (10, 0), .inl (.int x1), .inl (.int x2), .inl (.int x3)] [.inl (.int y0)] M = am_rI 0 (am_put M 31 0 j2 0) := by
  refine eX10_seal_184 ?_
  refine ip h1 ?_
  refine ri (sX10_of _ h3 h2 rfl (by decide)) ?_
  refine eX10_seal_194 ?_
  refine ri (sX10_of _ h3 h2 rfl (by decide)) ?_
  refine eX10_seal_201 ?_
  refine iq h4 ?_
  refine iq h5 ?_
  refine ip ⟨(ixi h3 h2 (by decide)), rfl⟩ ?_
  try rw [ixn h3 h2 (by decide)]
  all_goals rfl
theorem qX10_seal_184_2 {x1 : Int32} {x2 : Int32} {x3 : Int32} {y0 : Int32} {M : am_M} {n : Nat} {j2 : Nat} (h1 : ¬ (y0 = 2)) (h2 : j2 < 4) (h3 : x1 = i3 j2) (h4 : am_b x2 = x2) (h5 : am_b x2 = x2) : rX10_seal (n + 100) 184 [.inr (10, 0), .inl (.int x1), .inl (.int x2), .inl (.int x3)] [.inl (.int y0)] M = am_rI x2 (am_put M 31 0 j2 x2) := by
  refine eX10_seal_184 ?_
  refine iq h1 ?_
  refine ip ⟨(ixi h3 h2 (by decide)), h4⟩ ?_
  try rw [ixn h3 h2 (by decide)]
  exact am_finb h5
theorem qX6_brokenRules_0 {x0 : Nat} {M : am_M} {res : am_O × am_M} {v1 : Int32} {v2 : Int32} (h1 : fX2_above [.inr (2, x0), .inl (.long ((Int32.toInt64 (M 18 x0 14)) + (3 * (Int32.toInt64 (M 18 x0 15))))), .inl (.int 1)] M = am_rI v1 M) (h2 : v1 = 1) (h3 : fX2_above [.inr (2, x0), .inl (.long ((Int32.toInt64 (M 18 x0 14)) + (2 * (Int32.toInt64 (M 18 x0 15))))), .inl (.int 3)] M = am_rI v2 M) (k : rX6_brokenRules 99800 78 [.inr (6, x0), .inl (.long (Int32.toInt64 (M 18 x0 14))), am_D, .inl (.long (Int32.toInt64 (M 18 x0 15))), am_D, .inl (.int 1), am_D, am_D] [.inl (.int v2)] M = some res) : fX6_brokenRules [.inr (6, x0)] M = some res := by
  rw [eX6_brokenRules]
  refine eX6_brokenRules_0 ?_
  refine ri h1 ?_
  refine eX6_brokenRules_33 ?_
  refine ip h2 ?_
  refine ri h3 ?_
  exact k
theorem qX6_brokenRules_1 {x0 : Nat} {M : am_M} {res : am_O × am_M} {v1 : Int32} {v2 : Int32} {v3 : Int32} (h1 : fX2_above [.inr (2, x0), .inl (.long ((Int32.toInt64 (M 18 x0 14)) + (3 * (Int32.toInt64 (M 18 x0 15))))), .inl (.int 1)] M = am_rI v1 M) (h2 : ¬ (v1 = 1)) (h3 : fX2_below [.inr (2, x0), .inl (.long ((Int32.toInt64 (M 18 x0 14)) - (3 * (Int32.toInt64 (M 18 x0 15))))), .inl (.int 1)] M = am_rI v2 M) (h4 : v2 = 1) (h5 : fX2_above [.inr (2, x0), .inl (.long ((Int32.toInt64 (M 18 x0 14)) + (2 * (Int32.toInt64 (M 18 x0 15))))), .inl (.int 3)] M = am_rI v3 M) (k : rX6_brokenRules 99700 78 [.inr (6, x0), .inl (.long (Int32.toInt64 (M 18 x0 14))), am_D, .inl (.long (Int32.toInt64 (M 18 x0 15))), am_D, .inl (.int 1), am_D, am_D] [.inl (.int v3)] M = some res) : fX6_brokenRules [.inr (6, x0)] M = some res := by
  rw [eX6_brokenRules]
  refine eX6_brokenRules_0 ?_
  refine ri h1 ?_
  refine eX6_brokenRules_33 ?_
  refine iq h2 ?_
  refine ri h3 ?_
  refine eX6_brokenRules_52 ?_
  refine ip h4 ?_
  refine ri h5 ?_
  exact k
theorem qX6_brokenRules_2 {x0 : Nat} {M : am_M} {res : am_O × am_M} {v1 : Int32} {v2 : Int32} {v3 : Int32} (h1 : fX2_above [.inr (2, x0), .inl (.long ((Int32.toInt64 (M 18 x0 14)) + (3 * (Int32.toInt64 (M 18 x0 15))))), .inl (.int 1)] M = am_rI v1 M) (h2 : ¬ (v1 = 1)) (h3 : fX2_below [.inr (2, x0), .inl (.long ((Int32.toInt64 (M 18 x0 14)) - (3 * (Int32.toInt64 (M 18 x0 15))))), .inl (.int 1)] M = am_rI v2 M) (h4 : ¬ (v2 = 1)) (h5 : fX2_above [.inr (2, x0), .inl (.long ((Int32.toInt64 (M 18 x0 14)) + (2 * (Int32.toInt64 (M 18 x0 15))))), .inl (.int 3)] M = am_rI v3 M) (k : rX6_brokenRules 99700 78 [.inr (6, x0), .inl (.long (Int32.toInt64 (M 18 x0 14))), am_D, .inl (.long (Int32.toInt64 (M 18 x0 15))), am_D, .inl (.int 0), am_D, am_D] [.inl (.int v3)] M = some res) : fX6_brokenRules [.inr (6, x0)] M = some res := by
  rw [eX6_brokenRules]
  refine eX6_brokenRules_0 ?_
  refine ri h1 ?_
  refine eX6_brokenRules_33 ?_
  refine iq h2 ?_
  refine ri h3 ?_
  refine eX6_brokenRules_52 ?_
  refine iq h4 ?_
  refine ri h5 ?_
  exact k
theorem mX6_brokenRules {n m pc : Nat} {ls st : List am_V} {M : am_M} {res : am_O × am_M} (h : rX6_brokenRules n pc ls st M = some res) (hm : n ≤ m) : rX6_brokenRules m pc ls st M = some res := by
  have h2 := am_run_mono_add h (m - n)
  rw [show n + (m - n) = m by omega] at h2
  exact h2
theorem qX6_brokenRules_78_0 {x0 : Nat} {x1 : Int64} {x3 : Int64} {x5 : Int32} {y0 : Int32} {M : am_M} {n : Nat} {res : am_O × am_M} {v1 : Int32} (h1 : 2 ≤ y0) (h2 : fX2_above [.inr (2, x0), .inl (.long x1), .inl (.int 10)] M = am_rI v1 M) (k : rX6_brokenRules n 118 [.inr (6, x0), .inl (.long x1), am_D, .inl (.long x3), am_D, .inl (.int x5), .inl (.int 1), am_D] [.inl (.int v1)] M = some res) : rX6_brokenRules (n + 100) 78 [.inr (6, x0), .inl (.long x1), am_D, .inl (.long x3), am_D, .inl (.int x5), am_D, am_D] [.inl (.int y0)] M = some res := by
  refine eX6_brokenRules_78 ?_
  refine ip h1 ?_
  refine ri h2 ?_
  exact k
theorem qX6_brokenRules_78_1 {x0 : Nat} {x1 : Int64} {x3 : Int64} {x5 : Int32} {y0 : Int32} {M : am_M} {n : Nat} {res : am_O × am_M} {v1 : Int32} {v2 : Int32} (h1 : ¬ (2 ≤ y0)) (h2 : fX2_below [.inr (2, x0), .inl (.long (x1 - (2 * x3))), .inl (.int 3)] M = am_rI v1 M) (h3 : v1 < 2) (h4 : fX2_above [.inr (2, x0), .inl (.long x1), .inl (.int 10)] M = am_rI v2 M) (k : rX6_brokenRules n 118 [.inr (6, x0), .inl (.long x1), am_D, .inl (.long x3), am_D, .inl (.int x5), .inl (.int 0), am_D] [.inl (.int v2)] M = some res) : rX6_brokenRules (n + 200) 78 [.inr (6, x0), .inl (.long x1), am_D, .inl (.long x3), am_D, .inl (.int x5), am_D, am_D] [.inl (.int y0)] M = some res := by
  refine eX6_brokenRules_78 ?_
  refine iq h1 ?_
  refine ri h2 ?_
  refine eX6_brokenRules_97 ?_
  refine ip h3 ?_
  refine ri h4 ?_
  exact k
theorem qX6_brokenRules_78_2 {x0 : Nat} {x1 : Int64} {x3 : Int64} {x5 : Int32} {y0 : Int32} {M : am_M} {n : Nat} {res : am_O × am_M} {v1 : Int32} {v2 : Int32} (h1 : ¬ (2 ≤ y0)) (h2 : fX2_below [.inr (2, x0), .inl (.long (x1 - (2 * x3))), .inl (.int 3)] M = am_rI v1 M) (h3 : ¬ (v1 < 2)) (h4 : fX2_above [.inr (2, x0), .inl (.long x1), .inl (.int 10)] M = am_rI v2 M) (k : rX6_brokenRules n 118 [.inr (6, x0), .inl (.long x1), am_D, .inl (.long x3), am_D, .inl (.int x5), .inl (.int 1), am_D] [.inl (.int v2)] M = some res) : rX6_brokenRules (n + 200) 78 [.inr (6, x0), .inl (.long x1), am_D, .inl (.long x3), am_D, .inl (.int x5), am_D, am_D] [.inl (.int y0)] M = some res := by
  refine eX6_brokenRules_78 ?_
  refine iq h1 ?_
  refine ri h2 ?_
  refine eX6_brokenRules_97 ?_
  refine iq h3 ?_
  refine ri h4 ?_
  exact k
theorem qX6_brokenRules_118_0 {x0 : Nat} {x1 : Int64} {x3 : Int64} {x5 : Int32} {x6 : Int32} {y0 : Int32} {M : am_M} {n : Nat} (h1 : y0 = 10) (h2 : x5 = 0) (h3 : x6 = 0) : rX6_brokenRules (n + 100) 118 [.inr (6, x0), .inl (.long x1), am_D, .inl (.long x3), am_D, .inl (.int x5), .inl (.int x6), am_D] [.inl (.int y0)] M = am_rI 4 M := by
  refine eX6_brokenRules_118 ?_
  refine ip h1 ?_
  refine ip h2 ?_
  refine ip h3 ?_
  all_goals rfl
theorem qX6_brokenRules_118_1 {x0 : Nat} {x1 : Int64} {x3 : Int64} {x5 : Int32} {x6 : Int32} {y0 : Int32} {M : am_M} {n : Nat} (h1 : y0 = 10) (h2 : x5 = 0) (h3 : ¬ (x6 = 0)) : rX6_brokenRules (n + 100) 118 [.inr (6, x0), .inl (.long x1), am_D, .inl (.long x3), am_D, .inl (.int x5), .inl (.int x6), am_D] [.inl (.int y0)] M = am_rI 6 M := by
  refine eX6_brokenRules_118 ?_
  refine ip h1 ?_
  refine ip h2 ?_
  refine iq h3 ?_
  all_goals rfl
theorem qX6_brokenRules_118_2 {x0 : Nat} {x1 : Int64} {x3 : Int64} {x5 : Int32} {x6 : Int32} {y0 : Int32} {M : am_M} {n : Nat} (h1 : y0 = 10) (h2 : ¬ (x5 = 0)) (h3 : x6 = 0) : rX6_brokenRules (n + 100) 118 [.inr (6, x0), .inl (.long x1), am_D, .inl (.long x3), am_D, .inl (.int x5), .inl (.int x6), am_D] [.inl (.int y0)] M = am_rI 5 M := by
  refine eX6_brokenRules_118 ?_
  refine ip h1 ?_
  refine iq h2 ?_
  refine ip h3 ?_
  all_goals rfl
theorem qX6_brokenRules_118_3 {x0 : Nat} {x1 : Int64} {x3 : Int64} {x5 : Int32} {x6 : Int32} {y0 : Int32} {M : am_M} {n : Nat} (h1 : y0 = 10) (h2 : ¬ (x5 = 0)) (h3 : ¬ (x6 = 0)) : rX6_brokenRules (n + 100) 118 [.inr (6, x0), .inl (.long x1), am_D, .inl (.long x3), am_D, .inl (.int x5), .inl (.int x6), am_D] [.inl (.int y0)] M = am_rI 7 M := by
  refine eX6_brokenRules_118 ?_
  refine ip h1 ?_
  refine iq h2 ?_
  refine iq h3 ?_
  all_goals rfl
theorem qX6_brokenRules_118_4 {x0 : Nat} {x1 : Int64} {x3 : Int64} {x5 : Int32} {x6 : Int32} {y0 : Int32} {M : am_M} {n : Nat} {v1 : Int32} (h1 : ¬ (y0 = 10)) (h2 : fX2_below [.inr (2, x0), .inl (.long x1), .inl (.int 10)] M = am_rI v1 M) (h3 : v1 = 10) (h4 : x5 = 0) (h5 : x6 = 0) : rX6_brokenRules (n + 200) 118 [.inr (6, x0), .inl (.long x1), am_D, .inl (.long x3), am_D, .inl (.int x5), .inl (.int x6), am_D] [.inl (.int y0)] M = am_rI 4 M := by
  refine eX6_brokenRules_118 ?_
  refine iq h1 ?_
  refine ri h2 ?_
  refine eX6_brokenRules_133 ?_
  refine ip h3 ?_
  refine ip h4 ?_
  refine ip h5 ?_
  all_goals rfl
theorem qX6_brokenRules_118_5 {x0 : Nat} {x1 : Int64} {x3 : Int64} {x5 : Int32} {x6 : Int32} {y0 : Int32} {M : am_M} {n : Nat} {v1 : Int32} (h1 : ¬ (y0 = 10)) (h2 : fX2_below [.inr (2, x0), .inl (.long x1), .inl (.int 10)] M = am_rI v1 M) (h3 : v1 = 10) (h4 : x5 = 0) (h5 : ¬ (x6 = 0)) : rX6_brokenRules (n + 200) 118 [.inr (6, x0), .inl (.long x1), am_D, .inl (.long x3), am_D, .inl (.int x5), .inl (.int x6), am_D] [.inl (.int y0)] M = am_rI 6 M := by
  refine eX6_brokenRules_118 ?_
  refine iq h1 ?_
  refine ri h2 ?_
  refine eX6_brokenRules_133 ?_
  refine ip h3 ?_
  refine ip h4 ?_
  refine iq h5 ?_
  all_goals rfl
theorem qX6_brokenRules_118_6 {x0 : Nat} {x1 : Int64} {x3 : Int64} {x5 : Int32} {x6 : Int32} {y0 : Int32} {M : am_M} {n : Nat} {v1 : Int32} (h1 : ¬ (y0 = 10)) (h2 : fX2_below [.inr (2, x0), .inl (.long x1), .inl (.int 10)] M = am_rI v1 M) (h3 : v1 = 10) (h4 : ¬ (x5 = 0)) (h5 : x6 = 0) : rX6_brokenRules (n + 200) 118 [.inr (6, x0), .inl (.long x1), am_D, .inl (.long x3), am_D, .inl (.int x5), .inl (.int x6), am_D] [.inl (.int y0)] M = am_rI 5 M := by
  refine eX6_brokenRules_118 ?_
  refine iq h1 ?_
  refine ri h2 ?_
  refine eX6_brokenRules_133 ?_
  refine ip h3 ?_
  refine iq h4 ?_
  refine ip h5 ?_
  all_goals rfl
theorem qX6_brokenRules_118_7 {x0 : Nat} {x1 : Int64} {x3 : Int64} {x5 : Int32} {x6 : Int32} {y0 : Int32} {M : am_M} {n : Nat} {v1 : Int32} (h1 : ¬ (y0 = 10)) (h2 : fX2_below [.inr (2, x0), .inl (.long x1), .inl (.int 10)] M = am_rI v1 M) (h3 : v1 = 10) (h4 : ¬ (x5 = 0)) (h5 : ¬ (x6 = 0)) : rX6_brokenRules (n + 200) 118 [.inr (6, x0), .inl (.long x1), am_D, .inl (.long x3), am_D, .inl (.int x5), .inl (.int x6), am_D] [.inl (.int y0)] M = am_rI 7 M := by
  refine eX6_brokenRules_118 ?_
  refine iq h1 ?_
  refine ri h2 ?_
  refine eX6_brokenRules_133 ?_
  refine ip h3 ?_
  refine iq h4 ?_
  refine iq h5 ?_
  all_goals rfl
theorem qX6_brokenRules_118_8 {x0 : Nat} {x1 : Int64} {x3 : Int64} {x5 : Int32} {x6 : Int32} {y0 : Int32} {M : am_M} {n : Nat} {v1 : Int32} (h1 : ¬ (y0 = 10)) (h2 : fX2_below [.inr (2, x0), .inl (.long x1), .inl (.int 10)] M = am_rI v1 M) (h3 : ¬ (v1 = 10)) (h4 : x5 = 0) (h5 : x6 = 0) : rX6_brokenRules (n + 200) 118 [.inr (6, x0), .inl (.long x1), am_D, .inl (.long x3), am_D, .inl (.int x5), .inl (.int x6), am_D] [.inl (.int y0)] M = am_rI 0 M := by
  refine eX6_brokenRules_118 ?_
  refine iq h1 ?_
  refine ri h2 ?_
  refine eX6_brokenRules_133 ?_
  refine iq h3 ?_
  refine ip h4 ?_
  refine ip h5 ?_
  all_goals rfl
theorem qX6_brokenRules_118_9 {x0 : Nat} {x1 : Int64} {x3 : Int64} {x5 : Int32} {x6 : Int32} {y0 : Int32} {M : am_M} {n : Nat} {v1 : Int32} (h1 : ¬ (y0 = 10)) (h2 : fX2_below [.inr (2, x0), .inl (.long x1), .inl (.int 10)] M = am_rI v1 M) (h3 : ¬ (v1 = 10)) (h4 : x5 = 0) (h5 : ¬ (x6 = 0)) : rX6_brokenRules (n + 200) 118 [.inr (6, x0), .inl (.long x1), am_D, .inl (.long x3), am_D, .inl (.int x5), .inl (.int x6), am_D] [.inl (.int y0)] M = am_rI 2 M := by
  refine eX6_brokenRules_118 ?_
  refine iq h1 ?_
  refine ri h2 ?_
  refine eX6_brokenRules_133 ?_
  refine iq h3 ?_
  refine ip h4 ?_
  refine iq h5 ?_
  all_goals rfl
theorem qX6_brokenRules_118_10 {x0 : Nat} {x1 : Int64} {x3 : Int64} {x5 : Int32} {x6 : Int32} {y0 : Int32} {M : am_M} {n : Nat} {v1 : Int32} (h1 : ¬ (y0 = 10)) (h2 : fX2_below [.inr (2, x0), .inl (.long x1), .inl (.int 10)] M = am_rI v1 M) (h3 : ¬ (v1 = 10)) (h4 : ¬ (x5 = 0)) (h5 : x6 = 0) : rX6_brokenRules (n + 200) 118 [.inr (6, x0), .inl (.long x1), am_D, .inl (.long x3), am_D, .inl (.int x5), .inl (.int x6), am_D] [.inl (.int y0)] M = am_rI 1 M := by
  refine eX6_brokenRules_118 ?_
  refine iq h1 ?_
  refine ri h2 ?_
  refine eX6_brokenRules_133 ?_
  refine iq h3 ?_
  refine iq h4 ?_
  refine ip h5 ?_
  all_goals rfl
theorem qX6_brokenRules_118_11 {x0 : Nat} {x1 : Int64} {x3 : Int64} {x5 : Int32} {x6 : Int32} {y0 : Int32} {M : am_M} {n : Nat} {v1 : Int32} (h1 : ¬ (y0 = 10)) (h2 : fX2_below [.inr (2, x0), .inl (.long x1), .inl (.int 10)] M = am_rI v1 M) (h3 : ¬ (v1 = 10)) (h4 : ¬ (x5 = 0)) (h5 : ¬ (x6 = 0)) : rX6_brokenRules (n + 200) 118 [.inr (6, x0), .inl (.long x1), am_D, .inl (.long x3), am_D, .inl (.int x5), .inl (.int x6), am_D] [.inl (.int y0)] M = am_rI 3 M := by
  refine eX6_brokenRules_118 ?_
  refine iq h1 ?_
  refine ri h2 ?_
  refine eX6_brokenRules_133 ?_
  refine iq h3 ?_
  refine iq h4 ?_
  refine iq h5 ?_
  all_goals rfl
theorem qX2_above_0 {x0 : Nat} {x1 : Int64} {x2 : Int32} {M : am_M} {res : am_O × am_M} (k : rX2_above 99900 6 [.inr (2, x0), .inl (.long x1), am_D, .inl (.int x2), .inl (.int 0), .inl (.int 0)] [] M = some res) : fX2_above [.inr (2, x0), .inl (.long x1), .inl (.int x2)] M = some res := by
  rw [eX2_above]
  refine eX2_above_0 ?_
  exact k
theorem mX2_above {n m pc : Nat} {ls st : List am_V} {M : am_M} {res : am_O × am_M} (h : rX2_above n pc ls st M = some res) (hm : n ≤ m) : rX2_above m pc ls st M = some res := by
  have h2 := am_run_mono_add h (m - n)
  rw [show n + (m - n) = m by omega] at h2
  exact h2
theorem qX2_above_6_0 {x0 : Nat} {x1 : Int64} {x3 : Int32} {x4 : Int32} {x5 : Nat} {M : am_M} {n : Nat} (h1 : x3 ≤ (i3 x5)) : rX2_above (n + 100) 6 [.inr (2, x0), .inl (.long x1), am_D, .inl (.int x3), .inl (.int x4), .inl (.int (i3 x5))] [] M = am_rI x4 M := by
  refine eX2_above_6 ?_
  refine ip h1 ?_
  all_goals rfl
theorem qX2_above_6_1 {x0 : Nat} {x1 : Int64} {x3 : Int32} {x4 : Int32} {x5 : Nat} {M : am_M} {n : Nat} (h1 : ¬ (x3 ≤ (i3 x5))) (h2 : (M 2 x0 1) ≤ (i3 x5)) : rX2_above (n + 100) 6 [.inr (2, x0), .inl (.long x1), am_D, .inl (.int x3), .inl (.int x4), .inl (.int (i3 x5))] [] M = am_rI x4 M := by
  refine eX2_above_6 ?_
  refine iq h1 ?_
  refine ip h2 ?_
  all_goals rfl
theorem qX2_above_6_2 {x0 : Nat} {x1 : Int64} {x3 : Int32} {x4 : Int32} {x5 : Nat} {M : am_M} {n : Nat} {res : am_O × am_M} {v1 : Int32} (h1 : ¬ (x3 ≤ (i3 x5))) (h2 : ¬ ((M 2 x0 1) ≤ (i3 x5))) (h3 : fX2_fromLatest [.inr (2, x0), .inl (.int (i3 x5))] M = am_rI v1 M) (h4 : (lg_cmp (Int32.toInt64 v1) x1) ≤ 0) (k : rX2_above n 6 [.inr (2, x0), .inl (.long x1), am_D, .inl (.int x3), .inl (.int (x4 + 0)), .inl (.int (i3 (x5 + 1)))] [] M = some res) : rX2_above (n + 200) 6 [.inr (2, x0), .inl (.long x1), am_D, .inl (.int x3), .inl (.int x4), .inl (.int (i3 x5))] [] M = some res := by
  refine eX2_above_6 ?_
  refine iq h1 ?_
  refine iq h2 ?_
  refine ri h3 ?_
  refine eX2_above_29 ?_
  refine ip h4 ?_
  rw [i3_one]
  exact k
theorem qX2_above_6_3 {x0 : Nat} {x1 : Int64} {x3 : Int32} {x4 : Int32} {x5 : Nat} {M : am_M} {n : Nat} {res : am_O × am_M} {v1 : Int32} (h1 : ¬ (x3 ≤ (i3 x5))) (h2 : ¬ ((M 2 x0 1) ≤ (i3 x5))) (h3 : fX2_fromLatest [.inr (2, x0), .inl (.int (i3 x5))] M = am_rI v1 M) (h4 : ¬ ((lg_cmp (Int32.toInt64 v1) x1) ≤ 0)) (k : rX2_above n 6 [.inr (2, x0), .inl (.long x1), am_D, .inl (.int x3), .inl (.int (x4 + 1)), .inl (.int (i3 (x5 + 1)))] [] M = some res) : rX2_above (n + 200) 6 [.inr (2, x0), .inl (.long x1), am_D, .inl (.int x3), .inl (.int x4), .inl (.int (i3 x5))] [] M = some res := by
  refine eX2_above_6 ?_
  refine iq h1 ?_
  refine iq h2 ?_
  refine ri h3 ?_
  refine eX2_above_29 ?_
  refine iq h4 ?_
  rw [i3_one]
  exact k
theorem qX2_below_0 {x0 : Nat} {x1 : Int64} {x2 : Int32} {M : am_M} {res : am_O × am_M} (k : rX2_below 99900 6 [.inr (2, x0), .inl (.long x1), am_D, .inl (.int x2), .inl (.int 0), .inl (.int 0)] [] M = some res) : fX2_below [.inr (2, x0), .inl (.long x1), .inl (.int x2)] M = some res := by
  rw [eX2_below]
  refine eX2_below_0 ?_
  exact k
theorem mX2_below {n m pc : Nat} {ls st : List am_V} {M : am_M} {res : am_O × am_M} (h : rX2_below n pc ls st M = some res) (hm : n ≤ m) : rX2_below m pc ls st M = some res := by
  have h2 := am_run_mono_add h (m - n)
  rw [show n + (m - n) = m by omega] at h2
  exact h2
theorem qX2_below_6_0 {x0 : Nat} {x1 : Int64} {x3 : Int32} {x4 : Int32} {x5 : Nat} {M : am_M} {n : Nat} (h1 : x3 ≤ (i3 x5)) : rX2_below (n + 100) 6 [.inr (2, x0), .inl (.long x1), am_D, .inl (.int x3), .inl (.int x4), .inl (.int (i3 x5))] [] M = am_rI x4 M := by
  refine eX2_below_6 ?_
  refine ip h1 ?_
  all_goals rfl
theorem qX2_below_6_1 {x0 : Nat} {x1 : Int64} {x3 : Int32} {x4 : Int32} {x5 : Nat} {M : am_M} {n : Nat} (h1 : ¬ (x3 ≤ (i3 x5))) (h2 : (M 2 x0 1) ≤ (i3 x5)) : rX2_below (n + 100) 6 [.inr (2, x0), .inl (.long x1), am_D, .inl (.int x3), .inl (.int x4), .inl (.int (i3 x5))] [] M = am_rI x4 M := by
  refine eX2_below_6 ?_
  refine iq h1 ?_
  refine ip h2 ?_
  all_goals rfl
theorem qX2_below_6_2 {x0 : Nat} {x1 : Int64} {x3 : Int32} {x4 : Int32} {x5 : Nat} {M : am_M} {n : Nat} {res : am_O × am_M} {v1 : Int32} (h1 : ¬ (x3 ≤ (i3 x5))) (h2 : ¬ ((M 2 x0 1) ≤ (i3 x5))) (h3 : fX2_fromLatest [.inr (2, x0), .inl (.int (i3 x5))] M = am_rI v1 M) (h4 : 0 ≤ (lg_cmp (Int32.toInt64 v1) x1)) (k : rX2_below n 6 [.inr (2, x0), .inl (.long x1), am_D, .inl (.int x3), .inl (.int (x4 + 0)), .inl (.int (i3 (x5 + 1)))] [] M = some res) : rX2_below (n + 200) 6 [.inr (2, x0), .inl (.long x1), am_D, .inl (.int x3), .inl (.int x4), .inl (.int (i3 x5))] [] M = some res := by
  refine eX2_below_6 ?_
  refine iq h1 ?_
  refine iq h2 ?_
  refine ri h3 ?_
  refine eX2_below_29 ?_
  refine ip h4 ?_
  rw [i3_one]
  exact k
theorem qX2_below_6_3 {x0 : Nat} {x1 : Int64} {x3 : Int32} {x4 : Int32} {x5 : Nat} {M : am_M} {n : Nat} {res : am_O × am_M} {v1 : Int32} (h1 : ¬ (x3 ≤ (i3 x5))) (h2 : ¬ ((M 2 x0 1) ≤ (i3 x5))) (h3 : fX2_fromLatest [.inr (2, x0), .inl (.int (i3 x5))] M = am_rI v1 M) (h4 : ¬ (0 ≤ (lg_cmp (Int32.toInt64 v1) x1))) (k : rX2_below n 6 [.inr (2, x0), .inl (.long x1), am_D, .inl (.int x3), .inl (.int (x4 + 1)), .inl (.int (i3 (x5 + 1)))] [] M = some res) : rX2_below (n + 200) 6 [.inr (2, x0), .inl (.long x1), am_D, .inl (.int x3), .inl (.int x4), .inl (.int (i3 x5))] [] M = some res := by
  refine eX2_below_6 ?_
  refine iq h1 ?_
  refine iq h2 ?_
  refine ri h3 ?_
  refine eX2_below_29 ?_
  refine iq h4 ?_
  rw [i3_one]
  exact k
theorem qX10_rules_0 {x1 : Int32} {M : am_M} (h1 : ¬ (0 ≤ x1 ∧ x1 ≤ 3)) : fX10_rules [.inr (10, 0), .inl (.int x1)] M = am_rI 0 (am_put M 10 0 45 1) := by
  rw [eX10_rules]
  refine eX10_rules_0 ?_
  refine ri (sX10_isTest _ _) ?_
  refine eX10_rules_5 ?_
  refine ip (bi_f h1) ?_
  all_goals rfl
theorem qX10_rules_1 {x1 : Int32} {M : am_M} {j1 : Nat} (h1 : 0 ≤ x1 ∧ x1 ≤ 3) (h2 : j1 < 4) (h3 : x1 = i3 j1) (h4 : (M 36 0 j1) = 0) : fX10_rules [.inr (10, 0), .inl (.int x1)] M = am_rI 0 (am_put M 10 0 45 0) := by
  rw [eX10_rules]
  refine eX10_rules_0 ?_
  refine ri (sX10_isTest _ _) ?_
  refine eX10_rules_5 ?_
  refine iq (fun e => bi_0.mp e h1) ?_
  refine ip (ixi h3 h2 (by decide)) ?_
  try rw [ixn h3 h2 (by decide)]
  refine ip h4 ?_
  all_goals rfl
theorem qX10_rules_2 {x1 : Int32} {M : am_M} {res : am_O × am_M} {j1 : Nat} {v2 : Int64} (h1 : 0 ≤ x1 ∧ x1 ≤ 3) (h2 : j1 < 4) (h3 : x1 = i3 j1) (h4 : ¬ ((M 36 0 j1) = 0)) (h5 : fX10_above [.inr (10, 0), .inl (.int x1), .inl (.int 0)] (am_put M 10 0 45 0) = am_rJ v2 (am_put M 10 0 45 0)) (h6 : 0 < (lg_cmp v2 (3 * (Int32.toInt64 (M 30 0 (16 * j1 + 15)))))) (k : rX10_rules 99600 89 [.inr (10, 0), .inl (.int x1), .inl (.long (Int32.toInt64 (M 30 0 (16 * j1 + 15)))), am_D, .inl (.int 1), .inl (.int 0), .inl (.int 0), .inl (.int 0), am_D, am_D] [] (am_put M 10 0 45 0) = some res) : fX10_rules [.inr (10, 0), .inl (.int x1)] M = some res := by
  rw [eX10_rules]
  refine eX10_rules_0 ?_
  refine ri (sX10_isTest _ _) ?_
  refine eX10_rules_5 ?_
  refine iq (fun e => bi_0.mp e h1) ?_
  refine ip (ixi h3 h2 (by decide)) ?_
  try rw [ixn h3 h2 (by decide)]
  refine iq h4 ?_
  refine ri (sX10_of _ h3 h2 rfl (by decide)) ?_
  refine eX10_rules_41 ?_
  try simp only [am_put_nk, am_put_nf, not_false_eq_true, Nat.reduceEqDiff]
  refine rj h5 ?_
  refine eX10_rules_49 ?_
  try simp only [am_put_nk, am_put_nf, not_false_eq_true, Nat.reduceEqDiff]
  refine ip h6 ?_
  exact k
theorem qX10_rules_3 {x1 : Int32} {M : am_M} {res : am_O × am_M} {j1 : Nat} {v2 : Int64} {v3 : Int64} (h1 : 0 ≤ x1 ∧ x1 ≤ 3) (h2 : j1 < 4) (h3 : x1 = i3 j1) (h4 : ¬ ((M 36 0 j1) = 0)) (h5 : fX10_above [.inr (10, 0), .inl (.int x1), .inl (.int 0)] (am_put M 10 0 45 0) = am_rJ v2 (am_put M 10 0 45 0)) (h6 : ¬ (0 < (lg_cmp v2 (3 * (Int32.toInt64 (M 30 0 (16 * j1 + 15))))))) (h7 : fX10_above [.inr (10, 0), .inl (.int x1), .inl (.int 0)] (am_put M 10 0 45 0) = am_rJ v3 (am_put M 10 0 45 0)) (h8 : 0 ≤ (lg_cmp v3 ((-3) * (Int32.toInt64 (M 30 0 (16 * j1 + 15)))))) (k : rX10_rules 99500 89 [.inr (10, 0), .inl (.int x1), .inl (.long (Int32.toInt64 (M 30 0 (16 * j1 + 15)))), am_D, .inl (.int 0), .inl (.int 0), .inl (.int 0), .inl (.int 0), am_D, am_D] [] (am_put M 10 0 45 0) = some res) : fX10_rules [.inr (10, 0), .inl (.int x1)] M = some res := by
  rw [eX10_rules]
  refine eX10_rules_0 ?_
  refine ri (sX10_isTest _ _) ?_
  refine eX10_rules_5 ?_
  refine iq (fun e => bi_0.mp e h1) ?_
  refine ip (ixi h3 h2 (by decide)) ?_
  try rw [ixn h3 h2 (by decide)]
  refine iq h4 ?_
  refine ri (sX10_of _ h3 h2 rfl (by decide)) ?_
  refine eX10_rules_41 ?_
  try simp only [am_put_nk, am_put_nf, not_false_eq_true, Nat.reduceEqDiff]
  refine rj h5 ?_
  refine eX10_rules_49 ?_
  try simp only [am_put_nk, am_put_nf, not_false_eq_true, Nat.reduceEqDiff]
  refine iq h6 ?_
  refine rj h7 ?_
  refine eX10_rules_64 ?_
  try simp only [am_put_nk, am_put_nf, not_false_eq_true, Nat.reduceEqDiff]
  refine ip h8 ?_
  exact k
theorem qX10_rules_4 {x1 : Int32} {M : am_M} {res : am_O × am_M} {j1 : Nat} {v2 : Int64} {v3 : Int64} (h1 : 0 ≤ x1 ∧ x1 ≤ 3) (h2 : j1 < 4) (h3 : x1 = i3 j1) (h4 : ¬ ((M 36 0 j1) = 0)) (h5 : fX10_above [.inr (10, 0), .inl (.int x1), .inl (.int 0)] (am_put M 10 0 45 0) = am_rJ v2 (am_put M 10 0 45 0)) (h6 : ¬ (0 < (lg_cmp v2 (3 * (Int32.toInt64 (M 30 0 (16 * j1 + 15))))))) (h7 : fX10_above [.inr (10, 0), .inl (.int x1), .inl (.int 0)] (am_put M 10 0 45 0) = am_rJ v3 (am_put M 10 0 45 0)) (h8 : ¬ (0 ≤ (lg_cmp v3 ((-3) * (Int32.toInt64 (M 30 0 (16 * j1 + 15))))))) (k : rX10_rules 99500 89 [.inr (10, 0), .inl (.int x1), .inl (.long (Int32.toInt64 (M 30 0 (16 * j1 + 15)))), am_D, .inl (.int 1), .inl (.int 0), .inl (.int 0), .inl (.int 0), am_D, am_D] [] (am_put M 10 0 45 0) = some res) : fX10_rules [.inr (10, 0), .inl (.int x1)] M = some res := by
  rw [eX10_rules]
  refine eX10_rules_0 ?_
  refine ri (sX10_isTest _ _) ?_
  refine eX10_rules_5 ?_
  refine iq (fun e => bi_0.mp e h1) ?_
  refine ip (ixi h3 h2 (by decide)) ?_
  try rw [ixn h3 h2 (by decide)]
  refine iq h4 ?_
  refine ri (sX10_of _ h3 h2 rfl (by decide)) ?_
  refine eX10_rules_41 ?_
  try simp only [am_put_nk, am_put_nf, not_false_eq_true, Nat.reduceEqDiff]
  refine rj h5 ?_
  refine eX10_rules_49 ?_
  try simp only [am_put_nk, am_put_nf, not_false_eq_true, Nat.reduceEqDiff]
  refine iq h6 ?_
  refine rj h7 ?_
  refine eX10_rules_64 ?_
  try simp only [am_put_nk, am_put_nf, not_false_eq_true, Nat.reduceEqDiff]
  refine iq h8 ?_
  exact k
theorem mX10_rules {n m pc : Nat} {ls st : List am_V} {M : am_M} {res : am_O × am_M} (h : rX10_rules n pc ls st M = some res) (hm : n ≤ m) : rX10_rules m pc ls st M = some res := by
  have h2 := am_run_mono_add h (m - n)
  rw [show n + (m - n) = m by omega] at h2
  exact h2
theorem qX10_rules_89_0 {x1 : Int32} {x2 : Int64} {x4 : Int32} {x5 : Int32} {x6 : Int32} {x7 : Nat} {M : am_M} {n : Nat} {res : am_O × am_M} (h1 : 3 ≤ (i3 x7)) (h2 : 2 ≤ x5) (k : rX10_rules n 174 [.inr (10, 0), .inl (.int x1), .inl (.long x2), am_D, .inl (.int (x4 + 2)), .inl (.int x5), .inl (.int x6), .inl (.int 0), .inl (.int 0), .inl (.int 0)] [] M = some res) : rX10_rules (n + 100) 89 [.inr (10, 0), .inl (.int x1), .inl (.long x2), am_D, .inl (.int x4), .inl (.int x5), .inl (.int x6), .inl (.int (i3 x7)), am_D, am_D] [] M = some res := by
  refine eX10_rules_89 ?_
  refine ip h1 ?_
  refine ip h2 ?_
  exact k
theorem qX10_rules_89_1 {x1 : Int32} {x2 : Int64} {x4 : Int32} {x5 : Int32} {x6 : Int32} {x7 : Nat} {M : am_M} {n : Nat} {res : am_O × am_M} (h1 : 3 ≤ (i3 x7)) (h2 : ¬ (2 ≤ x5)) (h3 : x6 < 2) (k : rX10_rules n 174 [.inr (10, 0), .inl (.int x1), .inl (.long x2), am_D, .inl (.int x4), .inl (.int x5), .inl (.int x6), .inl (.int 0), .inl (.int 0), .inl (.int 0)] [] M = some res) : rX10_rules (n + 100) 89 [.inr (10, 0), .inl (.int x1), .inl (.long x2), am_D, .inl (.int x4), .inl (.int x5), .inl (.int x6), .inl (.int (i3 x7)), am_D, am_D] [] M = some res := by
  refine eX10_rules_89 ?_
  refine ip h1 ?_
  refine iq h2 ?_
  refine ip h3 ?_
  exact k
theorem qX10_rules_89_2 {x1 : Int32} {x2 : Int64} {x4 : Int32} {x5 : Int32} {x6 : Int32} {x7 : Nat} {M : am_M} {n : Nat} {res : am_O × am_M} (h1 : 3 ≤ (i3 x7)) (h2 : ¬ (2 ≤ x5)) (h3 : ¬ (x6 < 2)) (k : rX10_rules n 174 [.inr (10, 0), .inl (.int x1), .inl (.long x2), am_D, .inl (.int (x4 + 2)), .inl (.int x5), .inl (.int x6), .inl (.int 0), .inl (.int 0), .inl (.int 0)] [] M = some res) : rX10_rules (n + 100) 89 [.inr (10, 0), .inl (.int x1), .inl (.long x2), am_D, .inl (.int x4), .inl (.int x5), .inl (.int x6), .inl (.int (i3 x7)), am_D, am_D] [] M = some res := by
  refine eX10_rules_89 ?_
  refine ip h1 ?_
  refine iq h2 ?_
  refine iq h3 ?_
  exact k
theorem qX10_rules_89_3 {x1 : Int32} {x2 : Int64} {x4 : Int32} {x5 : Int32} {x6 : Int32} {x7 : Nat} {M : am_M} {n : Nat} {res : am_O × am_M} {j1 : Nat} (h1 : ¬ (3 ≤ (i3 x7))) (h2 : j1 < 4) (h3 : x1 = i3 j1) (h4 : (M 36 0 j1) ≤ (i3 x7)) (h5 : 2 ≤ x5) (k : rX10_rules n 174 [.inr (10, 0), .inl (.int x1), .inl (.long x2), am_D, .inl (.int (x4 + 2)), .inl (.int x5), .inl (.int x6), .inl (.int 0), .inl (.int 0), .inl (.int 0)] [] M = some res) : rX10_rules (n + 100) 89 [.inr (10, 0), .inl (.int x1), .inl (.long x2), am_D, .inl (.int x4), .inl (.int x5), .inl (.int x6), .inl (.int (i3 x7)), am_D, am_D] [] M = some res := by
  refine eX10_rules_89 ?_
  refine iq h1 ?_
  refine ip (ixi h3 h2 (by decide)) ?_
  try rw [ixn h3 h2 (by decide)]
  refine ip h4 ?_
  refine ip h5 ?_
  exact k
theorem qX10_rules_89_4 {x1 : Int32} {x2 : Int64} {x4 : Int32} {x5 : Int32} {x6 : Int32} {x7 : Nat} {M : am_M} {n : Nat} {res : am_O × am_M} {j1 : Nat} (h1 : ¬ (3 ≤ (i3 x7))) (h2 : j1 < 4) (h3 : x1 = i3 j1) (h4 : (M 36 0 j1) ≤ (i3 x7)) (h5 : ¬ (2 ≤ x5)) (h6 : x6 < 2) (k : rX10_rules n 174 [.inr (10, 0), .inl (.int x1), .inl (.long x2), am_D, .inl (.int x4), .inl (.int x5), .inl (.int x6), .inl (.int 0), .inl (.int 0), .inl (.int 0)] [] M = some res) : rX10_rules (n + 100) 89 [.inr (10, 0), .inl (.int x1), .inl (.long x2), am_D, .inl (.int x4), .inl (.int x5), .inl (.int x6), .inl (.int (i3 x7)), am_D, am_D] [] M = some res := by
  refine eX10_rules_89 ?_
  refine iq h1 ?_
  refine ip (ixi h3 h2 (by decide)) ?_
  try rw [ixn h3 h2 (by decide)]
  refine ip h4 ?_
  refine iq h5 ?_
  refine ip h6 ?_
  exact k
theorem qX10_rules_89_5 {x1 : Int32} {x2 : Int64} {x4 : Int32} {x5 : Int32} {x6 : Int32} {x7 : Nat} {M : am_M} {n : Nat} {res : am_O × am_M} {j1 : Nat} (h1 : ¬ (3 ≤ (i3 x7))) (h2 : j1 < 4) (h3 : x1 = i3 j1) (h4 : (M 36 0 j1) ≤ (i3 x7)) (h5 : ¬ (2 ≤ x5)) (h6 : ¬ (x6 < 2)) (k : rX10_rules n 174 [.inr (10, 0), .inl (.int x1), .inl (.long x2), am_D, .inl (.int (x4 + 2)), .inl (.int x5), .inl (.int x6), .inl (.int 0), .inl (.int 0), .inl (.int 0)] [] M = some res) : rX10_rules (n + 100) 89 [.inr (10, 0), .inl (.int x1), .inl (.long x2), am_D, .inl (.int x4), .inl (.int x5), .inl (.int x6), .inl (.int (i3 x7)), am_D, am_D] [] M = some res := by
  refine eX10_rules_89 ?_
  refine iq h1 ?_
  refine ip (ixi h3 h2 (by decide)) ?_
  try rw [ixn h3 h2 (by decide)]
  refine ip h4 ?_
  refine iq h5 ?_
  refine iq h6 ?_
  exact k
theorem qX10_rules_89_6 {x1 : Int32} {x2 : Int64} {x4 : Int32} {x5 : Int32} {x6 : Int32} {x7 : Nat} {M : am_M} {n : Nat} {res : am_O × am_M} {j1 : Nat} {v2 : Int64} {v3 : Int64} (h1 : ¬ (3 ≤ (i3 x7))) (h2 : j1 < 4) (h3 : x1 = i3 j1) (h4 : ¬ ((M 36 0 j1) ≤ (i3 x7))) (h5 : fX10_above [.inr (10, 0), .inl (.int x1), .inl (.int (i3 x7))] M = am_rJ v2 M) (h6 : (lg_cmp v2 (2 * x2)) ≤ 0) (h7 : fX10_above [.inr (10, 0), .inl (.int x1), .inl (.int (i3 x7))] M = am_rJ v3 M) (h8 : 0 ≤ (lg_cmp v3 ((-2) * x2))) (k : rX10_rules n 89 [.inr (10, 0), .inl (.int x1), .inl (.long x2), am_D, .inl (.int x4), .inl (.int x5), .inl (.int x6), .inl (.int (i3 (x7 + 1))), am_D, am_D] [] M = some res) : rX10_rules (n + 300) 89 [.inr (10, 0), .inl (.int x1), .inl (.long x2), am_D, .inl (.int x4), .inl (.int x5), .inl (.int x6), .inl (.int (i3 x7)), am_D, am_D] [] M = some res := by
  refine eX10_rules_89 ?_
  refine iq h1 ?_
  refine ip (ixi h3 h2 (by decide)) ?_
  try rw [ixn h3 h2 (by decide)]
  refine iq h4 ?_
  refine rj h5 ?_
  refine eX10_rules_113 ?_
  refine ip h6 ?_
  refine rj h7 ?_
  refine eX10_rules_132 ?_
  refine ip h8 ?_
  rw [i3_one]
  exact k
theorem qX10_rules_89_7 {x1 : Int32} {x2 : Int64} {x4 : Int32} {x5 : Int32} {x6 : Int32} {x7 : Nat} {M : am_M} {n : Nat} {res : am_O × am_M} {j1 : Nat} {v2 : Int64} {v3 : Int64} (h1 : ¬ (3 ≤ (i3 x7))) (h2 : j1 < 4) (h3 : x1 = i3 j1) (h4 : ¬ ((M 36 0 j1) ≤ (i3 x7))) (h5 : fX10_above [.inr (10, 0), .inl (.int x1), .inl (.int (i3 x7))] M = am_rJ v2 M) (h6 : (lg_cmp v2 (2 * x2)) ≤ 0) (h7 : fX10_above [.inr (10, 0), .inl (.int x1), .inl (.int (i3 x7))] M = am_rJ v3 M) (h8 : ¬ (0 ≤ (lg_cmp v3 ((-2) * x2)))) (k : rX10_rules n 89 [.inr (10, 0), .inl (.int x1), .inl (.long x2), am_D, .inl (.int x4), .inl (.int x5), .inl (.int (x6 + 1)), .inl (.int (i3 (x7 + 1))), am_D, am_D] [] M = some res) : rX10_rules (n + 300) 89 [.inr (10, 0), .inl (.int x1), .inl (.long x2), am_D, .inl (.int x4), .inl (.int x5), .inl (.int x6), .inl (.int (i3 x7)), am_D, am_D] [] M = some res := by
  refine eX10_rules_89 ?_
  refine iq h1 ?_
  refine ip (ixi h3 h2 (by decide)) ?_
  try rw [ixn h3 h2 (by decide)]
  refine iq h4 ?_
  refine rj h5 ?_
  refine eX10_rules_113 ?_
  refine ip h6 ?_
  refine rj h7 ?_
  refine eX10_rules_132 ?_
  refine iq h8 ?_
  rw [i3_one]
  exact k
theorem qX10_rules_89_8 {x1 : Int32} {x2 : Int64} {x4 : Int32} {x5 : Int32} {x6 : Int32} {x7 : Nat} {M : am_M} {n : Nat} {res : am_O × am_M} {j1 : Nat} {v2 : Int64} {v3 : Int64} (h1 : ¬ (3 ≤ (i3 x7))) (h2 : j1 < 4) (h3 : x1 = i3 j1) (h4 : ¬ ((M 36 0 j1) ≤ (i3 x7))) (h5 : fX10_above [.inr (10, 0), .inl (.int x1), .inl (.int (i3 x7))] M = am_rJ v2 M) (h6 : ¬ ((lg_cmp v2 (2 * x2)) ≤ 0)) (h7 : fX10_above [.inr (10, 0), .inl (.int x1), .inl (.int (i3 x7))] M = am_rJ v3 M) (h8 : 0 ≤ (lg_cmp v3 ((-2) * x2))) (k : rX10_rules n 89 [.inr (10, 0), .inl (.int x1), .inl (.long x2), am_D, .inl (.int x4), .inl (.int (x5 + 1)), .inl (.int x6), .inl (.int (i3 (x7 + 1))), am_D, am_D] [] M = some res) : rX10_rules (n + 300) 89 [.inr (10, 0), .inl (.int x1), .inl (.long x2), am_D, .inl (.int x4), .inl (.int x5), .inl (.int x6), .inl (.int (i3 x7)), am_D, am_D] [] M = some res := by
  refine eX10_rules_89 ?_
  refine iq h1 ?_
  refine ip (ixi h3 h2 (by decide)) ?_
  try rw [ixn h3 h2 (by decide)]
  refine iq h4 ?_
  refine rj h5 ?_
  refine eX10_rules_113 ?_
  refine iq h6 ?_
  refine rj h7 ?_
  refine eX10_rules_132 ?_
  refine ip h8 ?_
  rw [i3_one]
  exact k
theorem qX10_rules_89_9 {x1 : Int32} {x2 : Int64} {x4 : Int32} {x5 : Int32} {x6 : Int32} {x7 : Nat} {M : am_M} {n : Nat} {res : am_O × am_M} {j1 : Nat} {v2 : Int64} {v3 : Int64} (h1 : ¬ (3 ≤ (i3 x7))) (h2 : j1 < 4) (h3 : x1 = i3 j1) (h4 : ¬ ((M 36 0 j1) ≤ (i3 x7))) (h5 : fX10_above [.inr (10, 0), .inl (.int x1), .inl (.int (i3 x7))] M = am_rJ v2 M) (h6 : ¬ ((lg_cmp v2 (2 * x2)) ≤ 0)) (h7 : fX10_above [.inr (10, 0), .inl (.int x1), .inl (.int (i3 x7))] M = am_rJ v3 M) (h8 : ¬ (0 ≤ (lg_cmp v3 ((-2) * x2)))) (k : rX10_rules n 89 [.inr (10, 0), .inl (.int x1), .inl (.long x2), am_D, .inl (.int x4), .inl (.int (x5 + 1)), .inl (.int (x6 + 1)), .inl (.int (i3 (x7 + 1))), am_D, am_D] [] M = some res) : rX10_rules (n + 300) 89 [.inr (10, 0), .inl (.int x1), .inl (.long x2), am_D, .inl (.int x4), .inl (.int x5), .inl (.int x6), .inl (.int (i3 x7)), am_D, am_D] [] M = some res := by
  refine eX10_rules_89 ?_
  refine iq h1 ?_
  refine ip (ixi h3 h2 (by decide)) ?_
  try rw [ixn h3 h2 (by decide)]
  refine iq h4 ?_
  refine rj h5 ?_
  refine eX10_rules_113 ?_
  refine iq h6 ?_
  refine rj h7 ?_
  refine eX10_rules_132 ?_
  refine iq h8 ?_
  rw [i3_one]
  exact k
theorem qX10_rules_174_0 {x1 : Int32} {x2 : Int64} {x4 : Int32} {x5 : Int32} {x6 : Int32} {x7 : Int32} {x8 : Int32} {x9 : Nat} {M : am_M} {n : Nat} {j1 : Nat} (h1 : j1 < 4) (h2 : x1 = i3 j1) (h3 : (M 36 0 j1) ≤ (i3 x9)) (h4 : x7 = 10) : rX10_rules (n + 100) 174 [.inr (10, 0), .inl (.int x1), .inl (.long x2), am_D, .inl (.int x4), .inl (.int x5), .inl (.int x6), .inl (.int x7), .inl (.int x8), .inl (.int (i3 x9))] [] M = am_rI (x4 + 4) M := by
  refine eX10_rules_174 ?_
  refine ip (ixi h2 h1 (by decide)) ?_
  try rw [ixn h2 h1 (by decide)]
  refine ip h3 ?_
  refine ip h4 ?_
  all_goals rfl
theorem qX10_rules_174_1 {x1 : Int32} {x2 : Int64} {x4 : Int32} {x5 : Int32} {x6 : Int32} {x7 : Int32} {x8 : Int32} {x9 : Nat} {M : am_M} {n : Nat} {j1 : Nat} (h1 : j1 < 4) (h2 : x1 = i3 j1) (h3 : (M 36 0 j1) ≤ (i3 x9)) (h4 : ¬ (x7 = 10)) (h5 : x8 = 10) : rX10_rules (n + 100) 174 [.inr (10, 0), .inl (.int x1), .inl (.long x2), am_D, .inl (.int x4), .inl (.int x5), .inl (.int x6), .inl (.int x7), .inl (.int x8), .inl (.int (i3 x9))] [] M = am_rI (x4 + 4) M := by
  refine eX10_rules_174 ?_
  refine ip (ixi h2 h1 (by decide)) ?_
  try rw [ixn h2 h1 (by decide)]
  refine ip h3 ?_
  refine iq h4 ?_
  refine ip h5 ?_
  all_goals rfl
theorem qX10_rules_174_2 {x1 : Int32} {x2 : Int64} {x4 : Int32} {x5 : Int32} {x6 : Int32} {x7 : Int32} {x8 : Int32} {x9 : Nat} {M : am_M} {n : Nat} {j1 : Nat} (h1 : j1 < 4) (h2 : x1 = i3 j1) (h3 : (M 36 0 j1) ≤ (i3 x9)) (h4 : ¬ (x7 = 10)) (h5 : ¬ (x8 = 10)) : rX10_rules (n + 100) 174 [.inr (10, 0), .inl (.int x1), .inl (.long x2), am_D, .inl (.int x4), .inl (.int x5), .inl (.int x6), .inl (.int x7), .inl (.int x8), .inl (.int (i3 x9))] [] M = am_rI x4 M := by
  refine eX10_rules_174 ?_
  refine ip (ixi h2 h1 (by decide)) ?_
  try rw [ixn h2 h1 (by decide)]
  refine ip h3 ?_
  refine iq h4 ?_
  refine iq h5 ?_
  all_goals rfl
theorem qX10_rules_174_3 {x1 : Int32} {x2 : Int64} {x4 : Int32} {x5 : Int32} {x6 : Int32} {x7 : Int32} {x8 : Int32} {x9 : Nat} {M : am_M} {n : Nat} {res : am_O × am_M} {j1 : Nat} {v2 : Int64} {v3 : Int64} (h1 : j1 < 4) (h2 : x1 = i3 j1) (h3 : ¬ ((M 36 0 j1) ≤ (i3 x9))) (h4 : fX10_above [.inr (10, 0), .inl (.int x1), .inl (.int (i3 x9))] M = am_rJ v2 M) (h5 : (lg_cmp v2 0) ≤ 0) (h6 : fX10_above [.inr (10, 0), .inl (.int x1), .inl (.int (i3 x9))] M = am_rJ v3 M) (h7 : 0 ≤ (lg_cmp v3 0)) (k : rX10_rules n 174 [.inr (10, 0), .inl (.int x1), .inl (.long x2), am_D, .inl (.int x4), .inl (.int x5), .inl (.int x6), .inl (.int x7), .inl (.int x8), .inl (.int (i3 (x9 + 1)))] [] M = some res) : rX10_rules (n + 300) 174 [.inr (10, 0), .inl (.int x1), .inl (.long x2), am_D, .inl (.int x4), .inl (.int x5), .inl (.int x6), .inl (.int x7), .inl (.int x8), .inl (.int (i3 x9))] [] M = some res := by
  refine eX10_rules_174 ?_
  refine ip (ixi h2 h1 (by decide)) ?_
  try rw [ixn h2 h1 (by decide)]
  refine iq h3 ?_
  refine rj h4 ?_
  refine eX10_rules_192 ?_
  refine ip h5 ?_
  refine rj h6 ?_
  refine eX10_rules_207 ?_
  refine ip h7 ?_
  rw [i3_one]
  exact k
theorem qX10_rules_174_4 {x1 : Int32} {x2 : Int64} {x4 : Int32} {x5 : Int32} {x6 : Int32} {x7 : Int32} {x8 : Int32} {x9 : Nat} {M : am_M} {n : Nat} {res : am_O × am_M} {j1 : Nat} {v2 : Int64} {v3 : Int64} (h1 : j1 < 4) (h2 : x1 = i3 j1) (h3 : ¬ ((M 36 0 j1) ≤ (i3 x9))) (h4 : fX10_above [.inr (10, 0), .inl (.int x1), .inl (.int (i3 x9))] M = am_rJ v2 M) (h5 : (lg_cmp v2 0) ≤ 0) (h6 : fX10_above [.inr (10, 0), .inl (.int x1), .inl (.int (i3 x9))] M = am_rJ v3 M) (h7 : ¬ (0 ≤ (lg_cmp v3 0))) (k : rX10_rules n 174 [.inr (10, 0), .inl (.int x1), .inl (.long x2), am_D, .inl (.int x4), .inl (.int x5), .inl (.int x6), .inl (.int x7), .inl (.int (x8 + 1)), .inl (.int (i3 (x9 + 1)))] [] M = some res) : rX10_rules (n + 300) 174 [.inr (10, 0), .inl (.int x1), .inl (.long x2), am_D, .inl (.int x4), .inl (.int x5), .inl (.int x6), .inl (.int x7), .inl (.int x8), .inl (.int (i3 x9))] [] M = some res := by
  refine eX10_rules_174 ?_
  refine ip (ixi h2 h1 (by decide)) ?_
  try rw [ixn h2 h1 (by decide)]
  refine iq h3 ?_
  refine rj h4 ?_
  refine eX10_rules_192 ?_
  refine ip h5 ?_
  refine rj h6 ?_
  refine eX10_rules_207 ?_
  refine iq h7 ?_
  rw [i3_one]
  exact k
theorem qX10_rules_174_5 {x1 : Int32} {x2 : Int64} {x4 : Int32} {x5 : Int32} {x6 : Int32} {x7 : Int32} {x8 : Int32} {x9 : Nat} {M : am_M} {n : Nat} {res : am_O × am_M} {j1 : Nat} {v2 : Int64} {v3 : Int64} (h1 : j1 < 4) (h2 : x1 = i3 j1) (h3 : ¬ ((M 36 0 j1) ≤ (i3 x9))) (h4 : fX10_above [.inr (10, 0), .inl (.int x1), .inl (.int (i3 x9))] M = am_rJ v2 M) (h5 : ¬ ((lg_cmp v2 0) ≤ 0)) (h6 : fX10_above [.inr (10, 0), .inl (.int x1), .inl (.int (i3 x9))] M = am_rJ v3 M) (h7 : 0 ≤ (lg_cmp v3 0)) (k : rX10_rules n 174 [.inr (10, 0), .inl (.int x1), .inl (.long x2), am_D, .inl (.int x4), .inl (.int x5), .inl (.int x6), .inl (.int (x7 + 1)), .inl (.int x8), .inl (.int (i3 (x9 + 1)))] [] M = some res) : rX10_rules (n + 300) 174 [.inr (10, 0), .inl (.int x1), .inl (.long x2), am_D, .inl (.int x4), .inl (.int x5), .inl (.int x6), .inl (.int x7), .inl (.int x8), .inl (.int (i3 x9))] [] M = some res := by
  refine eX10_rules_174 ?_
  refine ip (ixi h2 h1 (by decide)) ?_
  try rw [ixn h2 h1 (by decide)]
  refine iq h3 ?_
  refine rj h4 ?_
  refine eX10_rules_192 ?_
  refine iq h5 ?_
  refine rj h6 ?_
  refine eX10_rules_207 ?_
  refine ip h7 ?_
  rw [i3_one]
  exact k
theorem qX10_rules_174_6 {x1 : Int32} {x2 : Int64} {x4 : Int32} {x5 : Int32} {x6 : Int32} {x7 : Int32} {x8 : Int32} {x9 : Nat} {M : am_M} {n : Nat} {res : am_O × am_M} {j1 : Nat} {v2 : Int64} {v3 : Int64} (h1 : j1 < 4) (h2 : x1 = i3 j1) (h3 : ¬ ((M 36 0 j1) ≤ (i3 x9))) (h4 : fX10_above [.inr (10, 0), .inl (.int x1), .inl (.int (i3 x9))] M = am_rJ v2 M) (h5 : ¬ ((lg_cmp v2 0) ≤ 0)) (h6 : fX10_above [.inr (10, 0), .inl (.int x1), .inl (.int (i3 x9))] M = am_rJ v3 M) (h7 : ¬ (0 ≤ (lg_cmp v3 0))) (k : rX10_rules n 174 [.inr (10, 0), .inl (.int x1), .inl (.long x2), am_D, .inl (.int x4), .inl (.int x5), .inl (.int x6), .inl (.int (x7 + 1)), .inl (.int (x8 + 1)), .inl (.int (i3 (x9 + 1)))] [] M = some res) : rX10_rules (n + 300) 174 [.inr (10, 0), .inl (.int x1), .inl (.long x2), am_D, .inl (.int x4), .inl (.int x5), .inl (.int x6), .inl (.int x7), .inl (.int x8), .inl (.int (i3 x9))] [] M = some res := by
  refine eX10_rules_174 ?_
  refine ip (ixi h2 h1 (by decide)) ?_
  try rw [ixn h2 h1 (by decide)]
  refine iq h3 ?_
  refine rj h4 ?_
  refine eX10_rules_192 ?_
  refine iq h5 ?_
  refine rj h6 ?_
  refine eX10_rules_207 ?_
  refine iq h7 ?_
  rw [i3_one]
  exact k
theorem qX10_above_0 {x1 : Int32} {x2 : Int32} {M : am_M} {j1 : Nat} {j2 : Nat} (h1 : j1 < 4) (h2 : x1 = i3 j1) (h3 : j2 < 40) (h4 : ((((10 * x1) + (M 36 0 j1)) - 1) - x2) = i3 j2) : fX10_above [.inr (10, 0), .inl (.int x1), .inl (.int x2)] M = am_rJ ((Int32.toInt64 (M 35 0 j2)) - (Int32.toInt64 (M 30 0 (16 * j1 + 14)))) M := by
  rw [eX10_above]
  refine eX10_above_0 ?_
  refine ip (ixi h2 h1 (by decide)) ?_
  try rw [ixn h2 h1 (by decide)]
  refine ip (ixi h4 h3 (by decide)) ?_
  try rw [ixn h4 h3 (by decide)]
  refine ri (sX10_of _ h2 h1 rfl (by decide)) ?_
  refine eX10_above_28 ?_
  all_goals rfl
