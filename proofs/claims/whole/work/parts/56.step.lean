/-! ===== the starting phase ===== -/
theorem J_first {T n : Nat} {u : Int32} (hT : T ≤ 1000000) (hu : u = 0 ∨ u = 1) : ∀ (k i : Nat) (L : List Bk) (C D : am_M), i + k = n → Rel 1 40 40 T n L C D →
    (∃ o C' D' L', o < n ∧ (∀ m, 200 * (k + 1) ≤ m → rX9_startFirst m 2 [.inr (9, 0), .inl (.int u), .inl (.int (i3 i))] [] C = am_rI (i3 o) C') ∧ (∀ m, 200 * (k + 1) ≤ m → rX10_startOne m 8 [.inr (10, 0), .inl (.int u), .inl (.int (i3 i))] [] D = am_rI (i3 o) D') ∧ Rel 1 40 40 T n L' C' D') ∨
    (∃ C' D' L', (∀ m, 200 * (k + 1) ≤ m → rX9_startFirst m 2 [.inr (9, 0), .inl (.int u), .inl (.int (i3 i))] [] C = am_rI (-1) C') ∧ (∀ m res, rX10_startOne m 8 [.inr (10, 0), .inl (.int u), .inl (.int (i3 n))] [] D' = some res → rX10_startOne (m + 200 * k) 8 [.inr (10, 0), .inl (.int u), .inl (.int (i3 i))] [] D = some res) ∧ Rel 1 40 40 T n L' C' D')
  | 0, i, L, C, D, hi, h => by
    have e : i = n := by omega
    subst e
    have hN := h.2.2.2.2.1
    have h40 := hN.2.2.1
    refine Or.inr ⟨C, D, L, fun m hm => mX9_startFirst (qX9_startFirst_2_0 (n := 0) (hen hN.1 (by omega))) (by omega), fun m res k => k, h⟩
  | k + 1, i, L, C, D, hi, h => by
    have hN := h.2.2.2.2.1
    have hO := h.2.2.2.2.2.1
    have h40 := hN.2.2.1
    have i40 : i < 40 := by omega
    have hin : i < n := by omega
    have g9 := hge hN.1 hin (by omega)
    have g10 := hge hN.2.1 hin (by omega)
    obtain ⟨_, _, e2, e3, _⟩ := hO.1 i i40
    have d47 := (hO.2.1 i i40).2.1
    -- it goes on
    have go : ∀ (L1 : List Bk) (C1 D1 : am_M), Rel 1 40 40 T n L1 C1 D1 →
        (∀ m res, rX9_startFirst m 2 [.inr (9, 0), .inl (.int u), .inl (.int (i3 (i + 1)))] [] C1 = some res → rX9_startFirst (m + 200) 2 [.inr (9, 0), .inl (.int u), .inl (.int (i3 i))] [] C = some res) →
        (∀ m res, rX10_startOne m 8 [.inr (10, 0), .inl (.int u), .inl (.int (i3 (i + 1)))] [] D1 = some res → rX10_startOne (m + 200) 8 [.inr (10, 0), .inl (.int u), .inl (.int (i3 i))] [] D = some res) →
        (∃ o C' D' L', o < n ∧ (∀ m, 200 * (k + 1 + 1) ≤ m → rX9_startFirst m 2 [.inr (9, 0), .inl (.int u), .inl (.int (i3 i))] [] C = am_rI (i3 o) C') ∧ (∀ m, 200 * (k + 1 + 1) ≤ m → rX10_startOne m 8 [.inr (10, 0), .inl (.int u), .inl (.int (i3 i))] [] D = am_rI (i3 o) D') ∧ Rel 1 40 40 T n L' C' D') ∨
        (∃ C' D' L', (∀ m, 200 * (k + 1 + 1) ≤ m → rX9_startFirst m 2 [.inr (9, 0), .inl (.int u), .inl (.int (i3 i))] [] C = am_rI (-1) C') ∧ (∀ m res, rX10_startOne m 8 [.inr (10, 0), .inl (.int u), .inl (.int (i3 n))] [] D' = some res → rX10_startOne (m + 200 * (k + 1)) 8 [.inr (10, 0), .inl (.int u), .inl (.int (i3 i))] [] D = some res) ∧ Rel 1 40 40 T n L' C' D') := by
      intro L1 C1 D1 h1 k9 k10
      rcases J_first hT hu k (i + 1) L1 C1 D1 (by omega) h1 with ⟨o, C', D', L', q1, q2, q3, q4⟩ | ⟨C', D', L', q2, q3, q4⟩
      · refine Or.inl ⟨o, C', D', L', q1, fun m hm => ?_, fun m hm => ?_, q4⟩
        · rw [show m = (m - 200) + 200 by omega]; exact k9 _ _ (q2 _ (by omega))
        · rw [show m = (m - 200) + 200 by omega]; exact k10 _ _ (q3 _ (by omega))
      · refine Or.inr ⟨C', D', L', fun m hm => ?_, fun m res kk => ?_, q4⟩
        · rw [show m = (m - 200) + 200 by omega]; exact k9 _ _ (q2 _ (by omega))
        · rw [show m + 200 * (k + 1) = m + 200 * k + 200 by omega]; exact k10 _ _ (q3 _ _ kk)
    by_cases w : D 48 0 i = 0
    · have w9 : C 4 i 3 = 0 := e3.trans w
      by_cases eu : D 47 0 i = u
      · obtain ⟨b, C1, D1, L1, t1, t2, t3⟩ := J_try h hT hin w
        have u9 : am_b (C 4 i 2) = u := by rw [e2, b01 d47]; exact eu
        have u10 : am_b (D 47 0 i) = u := by rw [b01 d47]; exact eu
        by_cases hb : b = 0
        · refine go L1 C1 D1 t3 (fun m res kk => qX9_startFirst_2_1 g9 i40 w9 u9 t1 hb kk) (fun m res kk => ?_)
          rcases hu with e | e
          · exact qX10_startOne_8_4 g10 i40 w (by rw [e]; decide) (u10.trans e) t2 hb kk
          · exact qX10_startOne_8_1 g10 i40 w e (u10.trans e) t2 hb kk
        · refine Or.inl ⟨i, C1, D1, L1, hin, fun m hm => ?_, fun m hm => ?_, t3⟩
          · exact mX9_startFirst (qX9_startFirst_2_2 (n := 0) g9 i40 w9 u9 t1 hb) (by omega)
          · rcases hu with e | e
            · exact mX10_startOne (qX10_startOne_8_5 (n := 0) g10 i40 w (by rw [e]; decide) (u10.trans e) t2 hb) (by omega)
            · exact mX10_startOne (qX10_startOne_8_2 (n := 0) g10 i40 w e (u10.trans e) t2 hb) (by omega)
      · have u9 : ¬ am_b (C 4 i 2) = u := by rw [e2, b01 d47]; exact eu
        have u10 : ¬ am_b (D 47 0 i) = u := by rw [b01 d47]; exact eu
        refine go L C D h (fun m res kk => mX9_startFirst (qX9_startFirst_2_3 g9 i40 w9 u9 kk) (by omega)) (fun m res kk => ?_)
        rcases hu with e | e
        · exact mX10_startOne (qX10_startOne_8_6 g10 i40 w (by rw [e]; decide) (by rw [e] at u10; exact u10) kk) (by omega)
        · exact mX10_startOne (qX10_startOne_8_3 g10 i40 w e (by rw [e] at u10; exact u10) kk) (by omega)
    · exact go L C D h (fun m res kk => mX9_startFirst (qX9_startFirst_2_4 g9 i40 (by rw [e3]; exact w) kk) (by omega)) (fun m res kk => mX10_startOne (qX10_startOne_8_7 g10 i40 w kk) (by omega))
theorem J_start {T n : Nat} {L : List Bk} {C D : am_M} (h : Rel 1 40 40 T n L C D) (hT : T ≤ 1000000) :
    ∃ v C' D' L', fX10_startOne [.inr (10, 0)] D = am_rI v D' ∧ ((fX9_startFirst [.inr (9, 0), .inl (.int 1)] C = am_rI v C' ∧ ¬ v = -1) ∨ ∃ C1, fX9_startFirst [.inr (9, 0), .inl (.int 1)] C = am_rI (-1) C1 ∧ fX9_startFirst [.inr (9, 0), .inl (.int 0)] C1 = am_rI v C') ∧
      (v = -1 ∨ ∃ o, o < 40 ∧ v = i3 o) ∧ Rel 1 40 40 T n L' C' D' := by
  have h40 := h.2.2.2.2.1.2.2.1
  rcases J_first hT (Or.inr rfl) n 0 L C D (Nat.zero_add n) h with ⟨o, C', D', L', q1, q2, q3, q4⟩ | ⟨C1, D1, L1, q2, q3, q4⟩
  · refine ⟨i3 o, C', D', L', qX10_startOne_0 (mX10_startOne (qX10_startOne_2_1 (x1 := 1) (n := 99800) (by decide) (q3 _ (by omega))) (by omega)), Or.inl ⟨qX9_startFirst_0 (q2 _ (by omega)), i3_nm (by omega)⟩, Or.inr ⟨o, by omega, rfl⟩, q4⟩
  · have hN1 := q4.2.2.2.2.1
    have a1 : ∀ m res, rX10_startOne m 8 [.inr (10, 0), .inl (.int 0), .inl (.int (i3 0))] [] D1 = some res → rX10_startOne (m + 200 + 200 * n + 100) 2 [.inr (10, 0), .inl (.int 1), am_D] [] D = some res := by
      intro m res kk
      refine qX10_startOne_2_1 (x1 := 1) (by decide) (q3 _ _ (qX10_startOne_8_0 (n := m + 100) (hen hN1.2.1 (by omega)) ?_))
      exact qX10_startOne_2_1 (x1 := 0) (by decide) kk
    rcases J_first hT (Or.inl rfl) n 0 L1 C1 D1 (Nat.zero_add n) q4 with ⟨o, C', D', L', s1, s2, s3, s4⟩ | ⟨C', D', L', s2, s3, s4⟩
    · refine ⟨i3 o, C', D', L', qX10_startOne_0 (mX10_startOne (a1 20000 _ (s3 _ (by omega))) (by omega)), Or.inr ⟨C1, qX9_startFirst_0 (q2 _ (by omega)), qX9_startFirst_0 (s2 _ (by omega))⟩, Or.inr ⟨o, by omega, rfl⟩, s4⟩
    · have hN2 := s4.2.2.2.2.1
      refine ⟨-1, C', D', L', qX10_startOne_0 (mX10_startOne (a1 (200 + 200 * n) _ (s3 200 _ ?_)) (by omega)), Or.inr ⟨C1, qX9_startFirst_0 (q2 _ (by omega)), qX9_startFirst_0 (s2 _ (by omega))⟩, Or.inl rfl, s4⟩
      exact qX10_startOne_8_0 (n := 100) (hen hN2.2.1 (by omega)) (qX10_startOne_2_0 (x1 := 4294967295) (n := 0) (by decide))
