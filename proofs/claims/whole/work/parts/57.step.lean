/-! ===== one step of the disc, both sides ===== -/
theorem J_step {T : Nat} {C D : am_M} (h : St T C D) (hT : T ≤ 999999) : ∃ v C' D', fX9_step [.inr (9, 0)] C = am_rI v C' ∧ fX10_step [.inr (10, 0)] D = am_rI v D' ∧ St (T + 1) C' D' := by
  obtain ⟨n, L, h⟩ := h
  have h40 := h.2.2.2.2.1.2.2.1
  obtain ⟨C1, D1, a1, a2, a3⟩ := J_turn h
  obtain ⟨C2, D2, L2, b1, b2, b3⟩ := J_give a3 (by omega) (by omega)
  obtain ⟨C3, D3, c1, c2, c3⟩ := J_meas b3
  obtain ⟨C4, D4, d1, d2, d3⟩ := J_jloop c3
  obtain ⟨v, C5, D5, L5, e1, e2, e3, e4⟩ := J_start d3 (by omega)
  have hN4 := d3.2.2.2.2.1
  have ref : ∀ D6, (0 ≤ v → D6 = D5) → (¬ 0 ≤ v → D6 = am_put D5 10 0 43 (D5 10 0 43 + 1)) → fX10_step [.inr (10, 0)] D = am_rI v D6 := by
    intro D6 z1 z2
    refine qX10_step_0 a2 b2 c2 (mX10_step (d2 200 _ ?_) (show 200 + 300 * n ≤ 99600 by omega))
    by_cases q : 0 ≤ v
    · rw [z1 q]; exact qX10_step_29_0 (n := 0) (hen hN4.2.1 (by omega)) e1 q
    · rw [z2 q]; exact qX10_step_29_1 (n := 0) (hen hN4.2.1 (by omega)) e1 q
  rcases e2 with ⟨f1, f2⟩ | ⟨C6, f1, f2⟩
  · have ge : 0 ≤ v := by
      rcases e3 with q | ⟨o, ho, q⟩
      · exact absurd q f2
      · rw [q]; exact i3_ge (by omega)
    exact ⟨v, C5, D5, qX9_step_2 a1 b1 c1 d1 f1 f2, ref D5 (fun _ => rfl) (fun q => absurd ge q), n, L5, e4⟩
  · by_cases m : v = -1
    · refine ⟨v, _, _, qX9_step_0 a1 b1 c1 d1 f1 rfl f2 m, ref _ (fun q => absurd q (m1n _ m)) (fun _ => rfl), n, L5, ?_⟩
      obtain ⟨hP, hS, hF, hQ, hN, hO, hH, hC, hB⟩ := e4
      refine ⟨hP, hS, hF, hQ, ?_, hO, hH, hC, hB⟩
      obtain ⟨y1, y2, y3, y4, y5, y6, y7, y8, y9, y10, y11, y12, y13⟩ := hN
      exact ⟨y1, y2, y3, y4, y5, y6, y7, y8, y9, y10, y11, congrArg (fun z => z + 1) y12, y13⟩
    · have ge : 0 ≤ v := by
        rcases e3 with q | ⟨o, ho, q⟩
        · exact absurd q m
        · rw [q]; exact i3_ge (by omega)
      exact ⟨v, C5, D5, qX9_step_1 a1 b1 c1 d1 f1 rfl f2 m, ref D5 (fun _ => rfl) (fun q => absurd ge q), n, L5, e4⟩
