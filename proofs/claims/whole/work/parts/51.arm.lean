/-! ===== booking the reagents of a run: the class's arm ===== -/
theorem sX7_isFree {a : Nat} (C : am_M) (h1 : 1 ≤ a) (h2 : a ≤ 12) : fX7_isFree [.inr (7, 0), .inl (.int (i3 a))] C = am_rI (bi (C 19 0 a = -1)) C := by
  have hw : (1 : Int32) ≤ i3 a ∧ i3 a ≤ 12 := ⟨(i3_le (a := 1) (by decide) (by omega)).2 h1, (i3_le (b := 12) (by omega) (by decide)).2 h2⟩
  by_cases h : C 19 0 a = -1
  · rw [bi_t h]; exact qX7_isFree_1 hw (by omega) rfl h
  · rw [bi_f h]; exact qX7_isFree_2 hw (by omega) rfl h
/-- new bookings put into the arm's rows -/
def putL (T c : Nat) : List Bk → am_M → am_M
  | [], C => C
  | x :: l, C => putL T c l (am_put (am_put C 19 0 (x.1 - T) (i3 x.2.1)) 20 0 (x.1 - T) (i3 c))
theorem putL_k (T c : Nat) : ∀ (l : List Bk) (C : am_M) (k : Nat), ¬ k = 19 → ¬ k = 20 → putL T c l C k = C k
  | [], _, _, _, _ => rfl
  | x :: l, C, k, h1, h2 => by
    show putL T c l _ k = _
    rw [putL_k T c l _ k h1 h2]
    funext i f
    rw [am_put_nk h2, am_put_nk h1]
theorem putL_o (T c : Nat) : ∀ (l : List Bk) (C : am_M) (i : Nat), (∀ x, x ∈ l → ¬ x.1 - T = i) → putL T c l C 19 0 i = C 19 0 i ∧ putL T c l C 20 0 i = C 20 0 i
  | [], _, _, _ => ⟨rfl, rfl⟩
  | x :: l, C, i, h => by
    have q := putL_o T c l (am_put (am_put C 19 0 (x.1 - T) (i3 x.2.1)) 20 0 (x.1 - T) (i3 c)) i (fun y hy => h y (List.mem_cons_of_mem x hy))
    have ne : ¬ i = x.1 - T := fun e => h x (List.mem_cons_self) e.symm
    refine ⟨q.1.trans ?_, q.2.trans ?_⟩
    · rw [am_put_nk (by decide), am_put_nf ne]
    · rw [am_put_nf ne, am_put_nk (by decide)]
theorem putL_h (T c : Nat) : ∀ (l : List Bk) (C : am_M), (l.map (fun x => x.1)).Nodup → (∀ x, x ∈ l → T ≤ x.1) → ∀ x, x ∈ l → putL T c l C 19 0 (x.1 - T) = i3 x.2.1 ∧ putL T c l C 20 0 (x.1 - T) = i3 c
  | [], _, _, _, x, hx => absurd hx List.not_mem_nil
  | y :: l, C, nd, hT, x, hx => by
    rw [List.map_cons, List.nodup_cons] at nd
    rcases List.mem_cons.1 hx with e | hx'
    · subst e
      have q := putL_o T c l (am_put (am_put C 19 0 (x.1 - T) (i3 x.2.1)) 20 0 (x.1 - T) (i3 c)) (x.1 - T) (fun z hz e => by
        have a1 := hT z (List.mem_cons_of_mem x hz)
        have a2 := hT x List.mem_cons_self
        exact nd.1 (List.mem_map.2 ⟨z, hz, by omega⟩))
      refine ⟨q.1.trans ?_, q.2.trans ?_⟩
      · rw [am_put_nk (by decide), am_put_i]
      · rw [am_put_i]
    · exact putL_h T c l _ nd.2 (fun z hz => hT z (List.mem_cons_of_mem y hz)) x hx'
theorem J_arm {T n o c : Nat} {L L1 : List Bk} {C D D1 : am_M} {v6 v7 : Int32} (h : Rel 1 40 40 T n L C D) (hT : T ≤ 1000000) (ho : o < n) (hw : D 48 0 o = 0) (hc : c < 10) (hcl : C 1 c 5 = -1)
    (h6 : v6 = -1 ∧ fd D (nt (D 46 0 o)) 1 = -1 ∨ wi v6 7 ∧ wi (fd D (nt (D 46 0 o)) 1) 5) (h7 : v7 = -1 ∧ fd D (nt (D 46 0 o)) 4 = -1 ∨ wi v7 7 ∧ wi (fd D (nt (D 46 0 o)) 4) 5)
    (hL1 : L1 = nb T D (nt (D 46 0 o)) o 0 v6 ++ nb T D (nt (D 46 0 o)) o 1 v7) (d36 : D1 10 0 36 = i3 (L ++ L1).length) (hcell : ∀ b x, (L ++ L1)[b]? = some x → bcell D1 b x)
    (d43 : D1 43 = D 43) (dk : ∀ f, ¬ f = 36 → D1 10 0 f = D 10 0 f) :
    ∃ b C1, fX7_book [.inr (7, 0), .inr (6, nt (D 46 0 o)), .inl (.int (i3 c))] C = am_rI b C1 ∧ fX10_allowed [.inr (10, 0)] D1 = am_rI b D1 ∧ (∀ k, ¬ k = 19 → ¬ k = 20 → C1 k = C k) ∧
      (b = 0 → ∀ i, C1 19 0 i = C 19 0 i ∧ C1 20 0 i = C 20 0 i) ∧ (¬ b = 0 → ((L ++ L1).map (fun x => x.1)).Nodup ∧ C1 = putL T c L1 C) ∧
      (∀ x, x ∈ L1 → T + 1 ≤ x.1 ∧ x.1 ≤ T + 12 ∧ x.2.1 < 6 ∧ x.2.2.1 < 8 ∧ x.2.2.2.1 ≤ 2000) := by
  obtain ⟨hP, hS, hF, hQ, hN, hO, hH, hC, hB⟩ := h
  have h40 := hN.2.2.1
  have t4 := t4_of hO (o := o) (by omega)
  have hcm := hO.2.2.2.2.2.2.2.2.2 o ho (by rw [hw]; decide)
  generalize nt (D 46 0 o) = t at t4 hcm h6 h7 hL1 ⊢
  have len := bk_len hB
  obtain ⟨b1, b2, b3, b4, b5, b6, b7, b8⟩ := hB
  have wd : ∀ w, w < 2 → wi (fd D t (2 + 3 * w)) 2000 := by
    intro w hw
    by_cases q : w = 0
    · rw [q]; exact RP_wi hP t4 (f := 2) (m := 2000) (by decide) rfl rfl (by decide)
    · rw [show w = 1 by omega]; exact RP_wi hP t4 (f := 5) (m := 2000) (by decide) rfl rfl (by decide)
  have wa : ∀ w, w < 2 → wi (fd D t (3 + 3 * w)) 12 := by
    intro w hw
    by_cases q : w = 0
    · rw [q]; exact RP_wi hP t4 (f := 3) (m := 12) (by decide) rfl rfl (by decide)
    · rw [show w = 1 by omega]; exact RP_wi hP t4 (f := 6) (m := 12) (by decide) rfl rfl (by decide)
  have c18 := fun f hf => hP.1 t f t4 hf
  have k1 : fX6_kindOf [.inr (6, t), .inl (.int (0 + 1))] C = am_rI (C 18 t 4) C := by rw [eX6_kindOf]; exact eX6_kindOf_0 rfl
  have a0 : fX6_ageOf [.inr (6, t), .inl (.int 0)] C = am_rI (C 18 t 3) C := by rw [eX6_ageOf]; exact eX6_ageOf_0 rfl
  have a1 : fX6_ageOf [.inr (6, t), .inl (.int (0 + 1))] C = am_rI (C 18 t 6) C := by rw [eX6_ageOf]; exact eX6_ageOf_0 rfl
  have e3 : C 18 t 3 = i3 (nt (fd D t 3)) := (c18 3 (by decide)).trans (wa 0 (by decide)).1
  have e6 : C 18 t 6 = i3 (nt (fd D t 6)) := (c18 6 (by decide)).trans (wa 1 (by decide)).1
  have l3 : nt (fd D t 3) ≤ 12 := (wa 0 (by decide)).2
  have l6 : nt (fd D t 6) ≤ 12 := (wa 1 (by decide)).2
  rw [e3] at a0
  rw [e6] at a1
  have lenL1 : L1.length ≤ 2 := by
    rw [hL1, List.length_append]; unfold nb
    have q : ∀ (v : Int32) (x : Bk), (if v = -1 then [] else [x] : List Bk).length ≤ 1 := by
      intro v x; by_cases e : v = -1
      · rw [if_pos e]; exact Nat.zero_le _
      · rw [if_neg e]; exact Nat.le_refl _
    have q1 := q v6 (T + nt (fd D t (3 + 3 * 0)), nt (fd D t (1 + 3 * 0)), nt v6, nt (fd D t (2 + 3 * 0)), o)
    have q2 := q v7 (T + nt (fd D t (3 + 3 * 1)), nt (fd D t (1 + 3 * 1)), nt v7, nt (fd D t (2 + 3 * 1)), o)
    omega
  have nbm : ∀ w, w < 2 → ∀ v x, x ∈ nb T D t o w v → (v = -1 ∧ fd D t (1 + 3 * w) = -1 ∨ wi v 7 ∧ wi (fd D t (1 + 3 * w)) 5) → 1 ≤ nt (fd D t (3 + 3 * w)) → T + 1 ≤ x.1 ∧ x.1 ≤ T + 12 ∧ x.2.1 < 6 ∧ x.2.2.1 < 8 ∧ x.2.2.2.1 ≤ 2000 := by
    intro w hw v x hx hv h1
    unfold nb at hx
    by_cases e : v = -1
    · rw [if_pos e] at hx; exact absurd hx List.not_mem_nil
    · rw [if_neg e] at hx
      cases List.mem_singleton.1 hx
      have q := hv.resolve_left (fun z => e z.1)
      have := (wa w hw).2
      have := (wd w hw).2
      have := q.1.2
      have := q.2.2
      exact ⟨by show T + 1 ≤ T + _; omega, by show T + _ ≤ T + 12; omega, by show nt _ < 6; omega, by show nt _ < 8; omega, by show nt _ ≤ 2000; omega⟩
  have kk0 : ¬ v6 = -1 → ¬ fd D t 1 = -1 := fun e q => by
    have w := (h6.resolve_left (fun z => e z.1)).2.1
    rw [q] at w; exact i3_nm (nt_lt _) w.symm
  have kk1 : ¬ v7 = -1 → ¬ fd D t 4 = -1 := fun e q => by
    have w := (h7.resolve_left (fun z => e z.1)).2.1
    rw [q] at w; exact i3_nm (nt_lt _) w.symm
  have kv0 : ¬ fd D t 1 = -1 → ¬ v6 = -1 := fun e q => by
    rcases h6 with z | z
    · exact e z.2
    · have := z.1.1; rw [q] at this; exact i3_nm (nt_lt _) this.symm
  have kv1 : ¬ fd D t 4 = -1 → ¬ v7 = -1 := fun e q => by
    rcases h7 with z | z
    · exact e z.2
    · have := z.1.1; rw [q] at this; exact i3_nm (nt_lt _) this.symm
  have mem : ∀ x, x ∈ L1 → T + 1 ≤ x.1 ∧ x.1 ≤ T + 12 ∧ x.2.1 < 6 ∧ x.2.2.1 < 8 ∧ x.2.2.2.1 ≤ 2000 := by
    intro x hx
    rw [hL1] at hx
    rcases List.mem_append.1 hx with q | q
    · refine nbm 0 (by decide) v6 x q h6 ?_
      have : ¬ v6 = -1 := fun e => by unfold nb at q; rw [if_pos e] at q; exact absurd q List.not_mem_nil
      exact (hcm.2.1 (kk0 this)).1
    · refine nbm 1 (by decide) v7 x q h7 ?_
      have : ¬ v7 = -1 := fun e => by unfold nb at q; rw [if_pos e] at q; exact absurd q List.not_mem_nil
      have := (hcm.2.2.1 (kk1 this)).1
      show 1 ≤ nt (fd D t 6)
      omega
  have memA : ∀ x, x ∈ L ++ L1 → T + 1 ≤ x.1 ∧ x.1 ≤ T + 12 ∧ x.2.1 < 6 := by
    intro x hx
    rcases List.mem_append.1 hx with q | q
    · exact ⟨(b4 x q).1, (b4 x q).2.1, (b4 x q).2.2.1⟩
    · exact ⟨(mem x q).1, (mem x q).2.1, (mem x q).2.2.1⟩
  have al := sX10_allowed (L := L ++ L1) (D := D1) d36 (by rw [List.length_append]; omega) hcell (fun x hx => by have := memA x hx; omega) (fun x hx => (memA x hx).2.2) (fun i hi => by rw [d43]; exact (hF i hi).2) (by rw [dk 37 (by decide)]; exact wi_mono b7 (by omega)) (by rw [dk 38 (by decide)]; exact b8)
  -- a step that is taken
  have taken : ∀ a, 1 ≤ a → a ≤ 12 → ¬ C 19 0 a = -1 → (∃ x, x ∈ L1 ∧ x.1 = T + a) → fX10_allowed [.inr (10, 0)] D1 = am_rI 0 D1 := by
    intro a ha1 ha2 hne ⟨x, hx, ex⟩
    rw [bi_f] at al
    · exact al
    · intro ⟨nd, _⟩
      rw [List.map_append, List.nodup_append] at nd
      obtain ⟨y, hy, ey⟩ := (b5 a ha1 (by omega)).resolve_left (fun q => hne q.1)
      exact nd.2.2 y.1 (List.mem_map.2 ⟨y, hy, rfl⟩) x.1 (List.mem_map.2 ⟨x, hx, rfl⟩) (by omega)
  -- all steps free
  have fin : (∀ x, x ∈ L1 → C 19 0 (x.1 - T) = -1) → (L1.map (fun x => x.1)).Nodup →
      (∀ Cp, Cp = putL T c L1 C → (fX7_hasForbiddenSuccession [.inr (7, 0)] Cp = am_rI 0 Cp → fX7_book [.inr (7, 0), .inr (6, t), .inl (.int (i3 c))] C = am_rI 1 Cp) ∧
        (∀ v C', fX7_hasForbiddenSuccession [.inr (7, 0)] Cp = am_rI v Cp → ¬ v = 0 → fX7_cancel [.inr (7, 0), .inl (.int (i3 c))] Cp = am_rV C' → fX7_book [.inr (7, 0), .inr (6, t), .inl (.int (i3 c))] C = am_rI 0 C')) →
      ∃ b C1, fX7_book [.inr (7, 0), .inr (6, t), .inl (.int (i3 c))] C = am_rI b C1 ∧ fX10_allowed [.inr (10, 0)] D1 = am_rI b D1 ∧ (∀ k, ¬ k = 19 → ¬ k = 20 → C1 k = C k) ∧
      (b = 0 → ∀ i, C1 19 0 i = C 19 0 i ∧ C1 20 0 i = C 20 0 i) ∧ (¬ b = 0 → ((L ++ L1).map (fun x => x.1)).Nodup ∧ C1 = putL T c L1 C) := by
    intro free nd1 bk
    have dis : ∀ x y, x ∈ L → y ∈ L1 → ¬ x.1 = y.1 := by
      intro x y hx hy e
      have q := (b4 x hx)
      obtain ⟨c', _, _, _, q9⟩ := q.2.2.2.2.2.2
      have f := free y hy
      rw [← e, q9] at f
      exact i3_nm (by have := q.2.2.1; omega) f
    have nd : ((L ++ L1).map (fun x => x.1)).Nodup := by
      rw [List.map_append, List.nodup_append]
      refine ⟨b2, nd1, fun a ha b hb => ?_⟩
      obtain ⟨x, hx, ex⟩ := List.mem_map.1 ha
      obtain ⟨y, hy, ey⟩ := List.mem_map.1 hb
      rw [← ex, ← ey]
      exact dis x y hx hy
    obtain ⟨y1, y2⟩ := bk _ rfl
    have pk := putL_k T c L1 C
    have po := putL_o T c L1 C
    have ph := putL_h T c L1 C nd1 (fun x hx => by have := (mem x hx).1; omega)
    generalize hCp : putL T c L1 C = Cp at y1 y2 pk po ph
    have poL : ∀ x, x ∈ L → ∀ y, y ∈ L1 → ¬ y.1 - T = x.1 - T := by
      intro x hx y hy e
      have := (b4 x hx).1
      have := (mem y hy).1
      exact dis x y hx hy (by omega)
    have ar : AR T (L ++ L1) Cp D1 := by
      refine ⟨fun x hx => ?_, fun i hi1 hi2 => ?_, ?_, by rw [dk 37 (by decide)]; exact b7, by rw [dk 38 (by decide)]; exact b8⟩
      · refine ⟨(memA x hx).1, (memA x hx).2.1, (memA x hx).2.2, ?_⟩
        rcases List.mem_append.1 hx with q | q
        · rw [(po (x.1 - T) (poL x q)).1]
          obtain ⟨c', _, _, _, q9⟩ := (b4 x q).2.2.2.2.2.2
          exact q9
        · exact (ph x q).1
      · by_cases hit : ∃ x, x ∈ L1 ∧ x.1 = T + i
        · obtain ⟨x, hx, e⟩ := hit
          exact Or.inr ⟨x, List.mem_append.2 (Or.inr hx), e⟩
        · rw [(po i (fun x hx e => hit ⟨x, hx, by have := (mem x hx).1; omega⟩)).1]
          rcases b5 i hi1 hi2 with q | ⟨x, hx, e⟩
          · exact Or.inl q.1
          · exact Or.inr ⟨x, List.mem_append.2 (Or.inl hx), e⟩
      · rw [(po 0 (fun x hx e => by have := (mem x hx).1; omega)).1, dk 37 (by decide), dk 38 (by decide)]
        exact b6 rfl
    have hFp : RF Cp D1 := RF_cg hF (pk 21 (by decide) (by decide)) d43
    have hf := sX7_hasForbidden (AR_k ar) (fun i hi => by rw [pk 21 (by decide) (by decide), (hF i hi).1]; exact (hF i hi).2)
    have iff := fb_iff ar hT hFp
    by_cases fb : fbc Cp
    · rw [bi_t fb] at hf
      rw [bi_f (fun q => q.2 (iff.1 fb))] at al
      obtain ⟨C', g1, g2, g3, g4⟩ := sX7_cancel Cp c
      refine ⟨0, C', y2 1 C' hf (by decide) g1, al, fun k h1 h2 => (g2 k h1 h2).trans (pk k h1 h2), fun _ i => ?_, fun q => absurd rfl q⟩
      rw [g3, g4]
      by_cases hit : ∃ x, x ∈ L1 ∧ x.1 - T = i
      · obtain ⟨x, hx, e⟩ := hit
        have q := mem x hx
        have hi1 : 1 ≤ i := by omega
        have hi2 : i < 13 := by omega
        have p2 := (ph x hx).2
        have fr := free x hx
        rw [e] at p2 fr
        rw [if_pos ⟨hi1, hi2, p2⟩, if_pos ⟨hi1, hi2, p2⟩]
        rcases b5 i hi1 hi2 with z | ⟨y, hy, ey⟩
        · exact ⟨z.1.symm, z.2.symm⟩
        · exact absurd (by omega) (dis y x hy hx)
      · have p := po i (fun x hx e => hit ⟨x, hx, e⟩)
        rw [p.1, p.2]
        have ne : ¬ (1 ≤ i ∧ i < 13 ∧ C 20 0 i = i3 c) := by
          intro ⟨i1, i2, ec⟩
          rcases b5 i i1 i2 with z | ⟨y, hy, ey⟩
          · rw [z.2] at ec; exact i3_nm (by omega) ec.symm
          · obtain ⟨c', hc', e51, e20, _⟩ := (b4 y hy).2.2.2.2.2.2
            rw [show y.1 - T = i by omega, ec] at e20
            have ecc : c' = c := ((i3_inj (by omega) (by omega)).1 e20).symm
            rw [ecc] at e51
            have ru := (hC.2.2 _ c (b4 y hy).2.2.2.2.2.1 hc e51).1
            rw [hcl] at ru
            exact i3_nm (by have := (b4 y hy).2.2.2.2.2.1; omega) ru.symm
        rw [if_neg ne, if_neg ne]
        exact ⟨rfl, rfl⟩
    · rw [bi_f fb] at hf
      rw [bi_t ⟨nd, fun q => fb (iff.2 q)⟩] at al
      exact ⟨1, Cp, y1 hf, al, pk, fun q => absurd q (by decide), fun _ => ⟨nd, rfl⟩⟩
  have wrap : (∃ b C1, fX7_book [.inr (7, 0), .inr (6, t), .inl (.int (i3 c))] C = am_rI b C1 ∧ fX10_allowed [.inr (10, 0)] D1 = am_rI b D1 ∧ (∀ k, ¬ k = 19 → ¬ k = 20 → C1 k = C k) ∧
      (b = 0 → ∀ i, C1 19 0 i = C 19 0 i ∧ C1 20 0 i = C 20 0 i) ∧ (¬ b = 0 → ((L ++ L1).map (fun x => x.1)).Nodup ∧ C1 = putL T c L1 C)) → ∃ b C1, fX7_book [.inr (7, 0), .inr (6, t), .inl (.int (i3 c))] C = am_rI b C1 ∧ fX10_allowed [.inr (10, 0)] D1 = am_rI b D1 ∧ (∀ k, ¬ k = 19 → ¬ k = 20 → C1 k = C k) ∧
      (b = 0 → ∀ i, C1 19 0 i = C 19 0 i ∧ C1 20 0 i = C 20 0 i) ∧ (¬ b = 0 → ((L ++ L1).map (fun x => x.1)).Nodup ∧ C1 = putL T c L1 C) ∧ (∀ x, x ∈ L1 → T + 1 ≤ x.1 ∧ x.1 ≤ T + 12 ∧ x.2.1 < 6 ∧ x.2.2.1 < 8 ∧ x.2.2.2.1 ≤ 2000) :=
    fun ⟨b, C1, q1, q2, q3, q4, q5⟩ => ⟨b, C1, q1, q2, q3, q4, q5, mem⟩
  refine wrap ?_
  by_cases z0 : fd D t 1 = -1
  · have z1 := hcm.1 z0
    have e0 : nb T D t o 0 v6 = [] := if_pos (Classical.byContradiction fun q => kk0 q z0)
    have e1 : nb T D t o 1 v7 = [] := if_pos (Classical.byContradiction fun q => kk1 q z1)
    rw [e0, e1] at hL1
    have hL1' : L1 = [] := hL1
    refine fin (fun x hx => by rw [hL1'] at hx; exact absurd hx List.not_mem_nil) (by rw [hL1']; exact List.nodup_nil) (fun Cp hCp => ?_)
    rw [hL1'] at hCp
    have hCp' : Cp = C := hCp
    subst hCp'
    have y0 : Cp 18 t 1 = -1 := (c18 1 (by decide)).trans z0
    have y1 : Cp 18 t 4 = -1 := (c18 4 (by decide)).trans z1
    exact ⟨fun hf => qX7_book_0 y0 k1 y1 y1 hf rfl, fun v C' hf hv hcn => qX7_book_1 y0 k1 y1 y1 hf hv hcn⟩
  · have y0 : ¬ C 18 t 1 = -1 := by rw [c18 1 (by decide)]; exact z0
    have a31 := (hcm.2.1 z0).1
    have f0 := sX7_isFree C a31 l3
    have w0 := (h6.resolve_left (fun q => z0 q.2)).2
    have hx : nb T D t o 0 v6 = [(T + nt (fd D t 3), nt (fd D t 1), nt v6, nt (fd D t 2), o)] := if_neg (kv0 z0)
    have e181 : C 18 t 1 = i3 (nt (fd D t 1)) := (c18 1 (by decide)).trans w0.1
    by_cases fr0 : C 19 0 (nt (fd D t 3)) = -1
    · by_cases z1 : fd D t 4 = -1
      · have y1 : C 18 t 4 = -1 := (c18 4 (by decide)).trans z1
        have e1 : nb T D t o 1 v7 = [] := if_pos (Classical.byContradiction fun q => kk1 q z1)
        rw [hx, e1] at hL1
        have hL1' : L1 = [(T + nt (fd D t 3), nt (fd D t 1), nt v6, nt (fd D t 2), o)] := hL1
        refine fin (fun x hx => ?_) (by rw [hL1']; exact List.nodup_cons.2 ⟨List.not_mem_nil, List.nodup_nil⟩) (fun Cp hCp => ?_)
        · rw [hL1'] at hx
          cases List.mem_singleton.1 hx
          show C 19 0 (T + _ - T) = -1
          rw [Nat.add_sub_cancel_left]; exact fr0
        · rw [hL1'] at hCp
          have hCp' : Cp = am_put (am_put C 19 0 (nt (fd D t 3)) (C 18 t 1)) 20 0 (nt (fd D t 3)) (i3 c) := by
            rw [hCp, e181]
            show am_put (am_put C 19 0 (T + _ - T) _) 20 0 (T + _ - T) _ = _
            rw [Nat.add_sub_cancel_left]
          rw [hCp']
          exact ⟨fun hf => qX7_book_10 y0 a0 f0 (by rw [bi_t fr0]; decide) k1 y1 (by omega) e3 y1 hf rfl, fun v C' hf hv hcn => qX7_book_11 y0 a0 f0 (by rw [bi_t fr0]; decide) k1 y1 (by omega) e3 y1 hf hv hcn⟩
      · have y1 : ¬ C 18 t 4 = -1 := by rw [c18 4 (by decide)]; exact z1
        have a61 := (hcm.2.2.1 z1).1
        have f1 := sX7_isFree C (show 1 ≤ nt (fd D t 6) by omega) l6
        have w1 := (h7.resolve_left (fun q => z1 q.2)).2
        have hy : nb T D t o 1 v7 = [(T + nt (fd D t 6), nt (fd D t 4), nt v7, nt (fd D t 5), o)] := if_neg (kv1 z1)
        have e184 : C 18 t 4 = i3 (nt (fd D t 4)) := (c18 4 (by decide)).trans w1.1
        rw [hx, hy] at hL1
        have hL1' : L1 = [(T + nt (fd D t 3), nt (fd D t 1), nt v6, nt (fd D t 2), o), (T + nt (fd D t 6), nt (fd D t 4), nt v7, nt (fd D t 5), o)] := hL1
        by_cases fr1 : C 19 0 (nt (fd D t 6)) = -1
        · refine fin (fun x hx => ?_) (by
            rw [hL1']
            refine List.nodup_cons.2 ⟨fun q => ?_, List.nodup_cons.2 ⟨List.not_mem_nil, List.nodup_nil⟩⟩
            have := List.mem_singleton.1 q
            have : T + nt (fd D t 3) = T + nt (fd D t 6) := this
            omega) (fun Cp hCp => ?_)
          · rw [hL1'] at hx
            rcases List.mem_cons.1 hx with e | e
            · rw [e]; show C 19 0 (T + _ - T) = -1
              rw [Nat.add_sub_cancel_left]; exact fr0
            · rw [List.mem_singleton.1 e]; show C 19 0 (T + _ - T) = -1
              rw [Nat.add_sub_cancel_left]; exact fr1
          · rw [hL1'] at hCp
            have hCp' : Cp = am_put (am_put (am_put (am_put C 19 0 (nt (fd D t 3)) (C 18 t 1)) 20 0 (nt (fd D t 3)) (i3 c)) 19 0 (nt (fd D t 6)) (C 18 t 4)) 20 0 (nt (fd D t 6)) (i3 c) := by
              rw [hCp, e181, e184]
              show am_put (am_put (am_put (am_put C 19 0 (T + _ - T) _) 20 0 (T + _ - T) _) 19 0 (T + _ - T) _) 20 0 (T + _ - T) _ = _
              rw [Nat.add_sub_cancel_left, Nat.add_sub_cancel_left]
            rw [hCp']
            exact ⟨fun hf => qX7_book_17 y0 a0 f0 (by rw [bi_t fr0]; decide) k1 y1 a1 f1 (by rw [bi_t fr1]; decide) (by omega) e3 y1 (by omega) e6 hf rfl, fun v C' hf hv hcn => qX7_book_18 y0 a0 f0 (by rw [bi_t fr0]; decide) k1 y1 a1 f1 (by rw [bi_t fr1]; decide) (by omega) e3 y1 (by omega) e6 hf hv hcn⟩
        · refine ⟨0, C, qX7_book_14 y0 a0 f0 (by rw [bi_t fr0]; decide) k1 y1 a1 f1 (by rw [bi_f fr1]), taken (nt (fd D t 6)) (by omega) l6 fr1 ⟨_, by rw [hL1']; exact List.mem_cons_of_mem _ List.mem_cons_self, rfl⟩, fun _ _ _ => rfl, fun _ _ => ⟨rfl, rfl⟩, fun q => absurd rfl q⟩
    · refine ⟨0, C, qX7_book_9 y0 a0 f0 (by rw [bi_f fr0]), taken (nt (fd D t 3)) a31 l3 fr0 ⟨_, by rw [hL1, hx]; exact List.mem_cons_self, rfl⟩, fun _ _ _ => rfl, fun _ _ => ⟨rfl, rfl⟩, fun q => absurd rfl q⟩
