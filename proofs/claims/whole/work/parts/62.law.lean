/-! ===== one memory for both ===== -/
theorem St_cg {T : Nat} {C D C' D' : am_M} (h : St T C D) (hC : ∀ k, fr_D k = false → k < 29 → C' k = C k) (hD : ∀ k, fr_C k = false → D' k = D k) : St T C' D' := by
  obtain ⟨n, L, h⟩ := h
  refine ⟨n, L, Rel_cg h (fun k hk => hC k ?_ (by omega)) (fun k hk => hD k ?_)⟩
  · have key : ∀ k, k < 22 → (decide (k < 10 ∨ 11 ≤ k ∧ k < 22) = true → fr_D k = false) := by decide
    exact key k (by omega) (decide_eq_true hk)
  · have key : ∀ k, k < 70 → (decide (k = 10 ∨ 30 ≤ k ∧ k < 70) = true → fr_C k = false) := by decide
    exact key k (by omega) (decide_eq_true hk)
theorem St_split {T : Nat} {M M' : am_M} (h : St T M M) (hD : ∀ k, fr_C k = false → M' k = M k) : St T M M' := St_cg h (fun _ _ _ => rfl) hD
theorem rI_inj {v w : Int32} {M M' : am_M} (h : am_rI v M = am_rI w M') : v = w ∧ M = M' := by
  injection h with h; injection h with h1 h2; injection h1 with h1; injection h1 with h1; injection h1 with h1; injection h1 with h1; exact ⟨h1, h2⟩
theorem JV2 {T : Nat} {M : am_M} {F G : am_F} {a b : List am_V} (hF : fr_F fr_C F) (hG : fr_F fr_D G) (ha : fr_all fr_C a) (hb : fr_all fr_D b) (J : ∀ C D, St T C D → JV T (F a C) (G b D)) (h : St T M M) :
    ∃ v M1 M2, F a M = am_rI v M1 ∧ G b M1 = am_rV M2 ∧ M2 10 0 45 = v ∧ St T M2 M2 := by
  obtain ⟨v, C1, D1, e1, _, _, _⟩ := J M M h
  have f1 := (hF _ _ _ _ ha e1).2
  obtain ⟨v', C2, D2, q1, q2, q3, q4⟩ := J M C1 (St_split h f1)
  rw [e1] at q1
  obtain ⟨ev, eC⟩ := rI_inj q1
  subst ev eC
  have f2 := (hG _ _ _ _ hb q2).2
  exact ⟨v, C1, D2, e1, q2, q3, St_cg q4 (fun k hk _ => f2 k hk) (fun _ _ => rfl)⟩
theorem JO2 {T : Nat} {M : am_M} {F G : am_F} {a b : List am_V} (hF : fr_F fr_C F) (hG : fr_F fr_D G) (ha : fr_all fr_C a) (hb : fr_all fr_D b) (J : ∀ C D, St T C D → JO T (F a C) (G b D)) (h : St T M M) :
    ∃ v w M1 M2, F a M = am_rI v M1 ∧ G b M1 = am_rI w M2 ∧ M2 10 0 45 = v ∧ (v = 0 → am_jn (M2 80 0 (2 * 0)) (M2 80 0 (2 * 0 + 1)) = w.toInt64) ∧ St T M2 M2 ∧ St T M M1 := by
  obtain ⟨v, w, C1, D1, e1, _⟩ := J M M h
  have f1 := (hF _ _ _ _ ha e1).2
  have s1 := St_split h f1
  obtain ⟨v', w', C2, D2, q1, q2, q3, q4, q5⟩ := J M C1 s1
  rw [e1] at q1
  obtain ⟨ev, eC⟩ := rI_inj q1
  subst ev eC
  have f2 := (hG _ _ _ _ hb q2).2
  refine ⟨v, w', C1, D2, e1, q2, q3, ?_, St_cg q5 (fun k hk _ => f2 k hk) (fun _ _ => rfl), s1⟩
  rw [f2 80 (by decide)]
  exact q4
theorem JS2 {T : Nat} {M : am_M} (hT : T ≤ 999999) (h : St T M M) : ∃ v M1 M2, fX9_step [.inr (9, 0)] M = am_rI v M1 ∧ fX10_step [.inr (10, 0)] M1 = am_rI v M2 ∧ St (T + 1) M2 M2 := by
  obtain ⟨v, C1, D1, e1, _⟩ := J_step h hT
  have f1 := (frX9_step _ _ _ _ (fr_c (fr_r rfl) fr_nil) e1).2
  obtain ⟨v', C2, D2, q1, q2, q3⟩ := J_step (St_split h f1) hT
  rw [e1] at q1
  obtain ⟨ev, eC⟩ := rI_inj q1
  subst ev eC
  have f2 := (frX10_step _ _ _ _ (fr_c (fr_r rfl) fr_nil) q2).2
  exact ⟨v, C1, D2, e1, q2, St_cg q3 (fun k hk _ => f2 k hk) (fun _ _ => rfl)⟩
theorem lg_eq {x y : Int64} (h : x = y) : lg_cmp x y = 0 := lc_eq.2 h
theorem seal_b {T : Nat} {C D : am_M} (h : St T C D) {x w : Int32} {D' : am_M} (e : fX10_seal [.inr (10, 0), .inl (.int x)] D = am_rI w D') : w = 0 ∨ w = 1 := by
  obtain ⟨n, L, h⟩ := h
  by_cases h1 : 0 ≤ x ∧ x ≤ 3
  · obtain ⟨t, ht, et⟩ := pl (m := 3) (by decide) h1
    rw [et] at h1 e
    rw [sX10_seal h.1 ht h1] at e
    have := (rI_inj e).1
    rw [← this]
    by_cases q : FG (fd D t) ∧ CG D t
    · exact Or.inr (bi_t q)
    · exact Or.inl (bi_f q)
  · rw [qX10_seal_0 h1] at e
    exact Or.inl (rI_inj e).1.symm
theorem forbid_b {D D' : am_M} {x y w : Int32} (e : fX10_forbid [.inr (10, 0), .inl (.int x), .inl (.int y)] D = am_rI w D') : w = 0 ∨ w = 1 := by
  by_cases h1 : 0 ≤ x ∧ x ≤ 5
  · by_cases h2 : 0 ≤ y ∧ y ≤ 5
    · obtain ⟨a, ha, ea⟩ := pl (m := 5) (by decide) h1
      obtain ⟨b, hb, eb⟩ := pl (m := 5) (by decide) h2
      have e2 : 6 * x + y = i3 (6 * a + b) := by
        rw [ea, eb]
        show i3 6 * i3 a + i3 b = _
        rw [i3_mul, i3_add]
      by_cases h3 : am_b (D 43 0 (6 * a + b)) = 0
      · rw [qX10_forbid_2 h1 h2 (by omega) e2 h3, put_eq ⟨rfl, rfl, rfl⟩] at e
        exact Or.inr (rI_inj e).1.symm
      · rw [qX10_forbid_3 h1 h2 (by omega) e2 h3, put_eq ⟨rfl, rfl, rfl⟩] at e
        exact Or.inl (rI_inj e).1.symm
    · rw [qX10_forbid_1 h1 h2] at e
      exact Or.inl (rI_inj e).1.symm
  · rw [qX10_forbid_0 h1] at e
    exact Or.inl (rI_inj e).1.symm
theorem bool_out {w : Int32} {z : Int64} (hw : w = 0 ∨ w = 1) (h : z = w.toInt64) : (if w = 0 then lg_cmp z 0 else lg_cmp z 1 : Int32) = 0 := by
  rcases hw with e | e
  · rw [e] at h ⊢; rw [if_pos rfl]; exact lg_eq h
  · rw [e] at h ⊢; rw [if_neg (by decide)]; exact lg_eq h
