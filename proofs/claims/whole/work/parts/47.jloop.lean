theorem J_jloop {T n : Nat} {L : List Bk} {C D : am_M} (h : Rel 1 40 0 T n L C D) : ∃ C' D', fX9_judgeEndedRuns [.inr (9, 0)] C = am_rV C' ∧ (∀ m res, rX10_step m 29 [.inr (10, 0), .inl (.int (i3 n))] [] D' = some res → rX10_step (m + 300 * n) 29 [.inr (10, 0), .inl (.int 0)] [] D = some res) ∧ Rel 1 40 40 T n L C' D' := by
  have h40 := h.2.2.2.2.1.2.2.1
  have main := lp_do2 (A := am_V × am_M) (B := am_M) (r := fun m i a => rX9_judgeEndedRuns m 2 [.inr (9, 0), .inl (.int (i3 i)), a.1] [] a.2) (s := fun m i b => rX10_step m 29 [.inr (10, 0), .inl (.int (i3 i))] [] b) (N := n) (c := 400) (d := 300) (I := fun i a b => Rel 1 40 i T n L a.2 b) ?_ n 0 (am_D, C) D (Nat.zero_add n) h
  · obtain ⟨a, D', hr, r1, r2⟩ := main
    have hNf := hr.2.2.2.2.1
    have k1 := r1 (99900 - 400 * n) _ (mX9_judgeEndedRuns (qX9_judgeEndedRuns_2_0 (n := 0) (x2 := a.1) (hen hNf.1 (by omega))) (by omega))
    rw [show 99900 - 400 * n + 400 * n = 99900 by omega] at k1
    obtain ⟨hP, hS, hF, hQ, hN, hO, hH, hC, hB⟩ := hr
    exact ⟨a.2, D', qX9_judgeEndedRuns_0 k1, r2, hP, hS, hF, hQ, hN, hO, hH, ⟨hC.1, hC.2.1, fun o c ho hc q => RU_jd (fun _ => ho) (hC.2.2 o c ho hc q)⟩, hB⟩
  · intro i a D1 hi hI
    obtain ⟨x2, C1⟩ := a
    have hr : Rel 1 40 i T n L C1 D1 := hI
    have hr0 := hr
    obtain ⟨hP, hS, hF, hQ, hN, hO, hH, hC, hB⟩ := hr
    have i40 : i < 40 := by omega
    have g1 := hge (X := C1 9 0 7) hN.1 hi (by omega)
    have g2 := hge (X := D1 10 0 14) hN.2.1 hi (by omega)
    have et : C1 4 i 1 = i3 (nt (D1 46 0 i)) := (hO.1 i i40).2.1.trans (hO.2.1 i i40).1.1
    have et' : D1 46 0 i = i3 (nt (D1 46 0 i)) := (hO.2.1 i i40).1.1
    have t4 := t4_of hO i40
    have e7 := (hO.2.2.2.2.2.2.1 i hi).1
    by_cases run : D1 48 0 i = 1
    · obtain ⟨c, hc, e51⟩ := run_c (lo := 1) (ms := 0) (jd := 0) (T := T) (L := L) hO hi run
      have hu := hC.2.2 i c hi hc e51
      have cv := sX9_cuvetteOf1 i C1 (e7.trans e51) hc
      have w8 := RP_wi hP t4 (f := 8) (m := 12) (by decide) rfl rfl (by decide)
      have q8 : C1 18 (nt (D1 46 0 i)) 8 = fd D1 (nt (D1 46 0 i)) 8 := hP.1 _ 8 t4 (by decide)
      have u3 := hu.2.2.1
      have u4 := hu.2.2.2.1
      have u5 := hu.2.2.2.2.1
      have le8 : D1 52 0 i ≤ fd D1 (nt (D1 46 0 i)) 8 ↔ nt (D1 52 0 i) ≤ nt (fd D1 (nt (D1 46 0 i)) 8) := by
        have z := i3_le (nt_lt (D1 52 0 i)) (nt_lt (fd D1 (nt (D1 46 0 i)) 8))
        rw [← w8.1, ← u4] at z; exact z
      have p8 : ¬ C1 18 (nt (D1 46 0 i)) 8 < C1 1 c 7 ↔ nt (D1 52 0 i) ≤ nt (fd D1 (nt (D1 46 0 i)) 8) := by
        rw [q8, u3, i3_nlt]; exact le8
      by_cases q : nt (D1 52 0 i) ≤ nt (fd D1 (nt (D1 46 0 i)) 8)
      · refine ⟨(.inr (1, c), C1), D1, ⟨hP, hS, hF, hQ, hN, hO, hH, ⟨hC.1, hC.2.1, fun o' c' ho' hc' z => ?_⟩, hB⟩, fun m res k => qX9_judgeEndedRuns_2_1 g1 i40 cv hc t4 et (p8.mpr q) k, fun m res k => qX10_step_29_2 g2 i40 run t4 et' (le8.mpr q) k⟩
        have u := hC.2.2 o' c' ho' hc' z
        by_cases e : o' = i
        · subst e
          obtain ⟨v1, v2, v3, v4, v5, v6, v7⟩ := u
          exact ⟨v1, v2, v3, v4, v5, fun _ => q, v7⟩
        · exact RU_jd (fun l => by omega) u
      · obtain ⟨C', D', k1, k2, k3⟩ := J_judge (jd' := i + 1) hr0 (fun o' ne l => by omega) hi hc e51 (by omega)
        exact ⟨(.inr (1, c), C'), D', k3, fun m res k => qX9_judgeEndedRuns_2_2 g1 i40 cv hc t4 et (Classical.byContradiction fun z => q (p8.mp z)) k1 k, fun m res k => qX10_step_29_3 g2 i40 run t4 et' (fun z => q (le8.mp z)) k2 k⟩
    · have e51 := hO.2.2.2.2.2.2.2.1 i hi run
      refine ⟨(.inl .null, C1), D1, ⟨hP, hS, hF, hQ, hN, hO, hH, ⟨hC.1, hC.2.1, fun o' c' ho' hc' z => RU_jd (fun l => ?_) (hC.2.2 o' c' ho' hc' z)⟩, hB⟩, fun m res k => mX9_judgeEndedRuns (qX9_judgeEndedRuns_2_3 g1 i40 (sX9_cuvetteOf0 i C1 (e7.trans e51)) k) (by omega), fun m res k => mX10_step (qX10_step_29_4 g2 i40 run k) (by omega)⟩
      have : ¬ o' = i := fun e => by
        rw [e, e51] at z
        exact i3_nm (by omega) z.symm
      omega
