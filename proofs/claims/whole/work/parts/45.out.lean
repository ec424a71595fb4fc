/-! ===== a run ends ===== -/
theorem rel_inc {d d' : Nat → Int32} {o : Nat} (h1 : ¬ d o = 2) (h2 : d' o = 2) (h3 : ∀ i, ¬ i = o → d' i = d i) : ∀ k, o < k → rel d' k = rel d k + 1
  | 0, h => absurd h (Nat.not_lt_zero _)
  | k + 1, h => by
    unfold rel
    by_cases e : k = o
    · rw [e, if_pos h2, if_neg h1, rel_cg o (fun i hi => by rw [h3 i (by omega)])]
    · rw [rel_inc h1 h2 h3 k (by omega), h3 k e]; omega
theorem RU_jd {lo ms jd jd' T c o t : Nat} {L : List Bk} {C D : am_M} (hj : o < jd' → o < jd) (h : RU lo ms jd T L C D c o t) : RU lo ms jd' T L C D c o t := by
  obtain ⟨u1, u2, u3, u4, u5, u6, u7⟩ := h
  exact ⟨u1, u2, u3, u4, u5, fun q => u6 (hj q), u7⟩
theorem Rel_out {jd jd' T n o c : Nat} {L : List Bk} {C D C' D' : am_M} (hj : ∀ o', ¬ o' = o → o' < jd' → o' < jd) (h : Rel 1 40 jd T n L C D) (ho : o < n) (hc : c < 10) (e51 : D 51 0 o = i3 c)
    (ck : ∀ k, k ∈ [0, 5, 6, 8, 9, 11, 12, 13, 14, 15, 18, 19, 20, 21] → C' k = C k) (c5 : C' 1 c 5 = -1) (c8 : C' 1 c 8 = 3) (c9 : C' 1 c 9 = 0) (cr : ∀ c' f, ¬ c' = c → C' 1 c' f = C 1 c' f)
    (dk : ∀ k, k ∈ [30, 31, 32, 33, 34, 37, 38, 39, 40, 41, 42, 43, 45, 46, 47, 49, 50, 52, 54, 55, 56] → D' k = D k) (dc : ∀ b x, L[b]? = some x → bcell D' b x) (d36 : D' 10 0 36 = i3 L.length) (d10 : ∀ f, ¬ f = 36 → ¬ f = 40 → D' 10 0 f = D 10 0 f)
    (d59c : D' 59 0 c = 3) (d60c : D' 60 0 c = 0) (d59 : ∀ c', ¬ c' = c → D' 59 0 c' = D 59 0 c') (d60 : ∀ c', ¬ c' = c → D' 60 0 c' = D 60 0 c') (d51o : D' 51 0 o = -1) (d51 : ∀ o', ¬ o' = o → D' 51 0 o' = D 51 0 o')
    (nb : ∀ x, x ∈ L → ¬ x.2.2.2.2 = o) (hP' : RP C' D') (hO' : RO n C' D') (hH' : RH C' D') : Rel 1 40 jd' T n L C' D' := by
  obtain ⟨hP, hS, hF, hQ, hN, hO, hH, hC, hB⟩ := h
  have h40 := hN.2.2.1
  refine ⟨hP', ?_, ?_, ?_, ?_, hO', hH', ?_, ?_⟩
  · exact RS_cg hS (ck 8 (by decide)) (fun k hk => dk k ((by decide : ∀ k, k ∈ [37, 38, 39] → k ∈ [30, 31, 32, 33, 34, 37, 38, 39, 40, 41, 42, 43, 45, 46, 47, 49, 50, 52, 54, 55, 56]) k hk))
  · exact RF_cg hF (ck 21 (by decide)) (dk 43 (by decide))
  · exact RQ_cg hQ (ck 5 (by decide)) (fun k hk => dk k ((by decide : ∀ k, k ∈ [40, 41, 42] → k ∈ [30, 31, 32, 33, 34, 37, 38, 39, 40, 41, 42, 43, 45, 46, 47, 49, 50, 52, 54, 55, 56]) k hk))
  · unfold RN
    rw [ck 9 (by decide), d10 14 (by decide) (by decide), d10 41 (by decide) (by decide), d10 44 (by decide) (by decide), d10 46 (by decide) (by decide), d10 47 (by decide) (by decide), d10 43 (by decide) (by decide), d10 42 (by decide) (by decide)]
    exact hN
  · refine RC_leave hC ho hc h40 e51 c5 c8 c9 cr d59c d60c d59 d60 d51o d51 (dk 46 (by decide)) ?_
    intro o' c' ho' hc' eo ec q u
    refine RU_jd (hj o' eo) ?_
    exact RU_cg u (fun f _ => cr c' f ec) (fun j => by rw [ck 13 (by decide)]) (fun j => by rw [ck 14 (by decide)]) (fun j => by rw [ck 15 (by decide)]) (d59 c' ec) (by rw [dk 52 (by decide)]) (by rw [dk 54 (by decide)]) (by rw [dk 56 (by decide)]) (fun j _ => by rw [dk 55 (by decide)]) (fun f _ => by unfold fd; rw [dk 30 (by decide)]) rfl
  · obtain ⟨b1, b2, b3, b4, b5, b6, b7, b8⟩ := hB
    refine ⟨d36, b2, dc, fun x hx => ?_, fun i hi hi2 => ?_, fun q => ?_, ?_, ?_⟩
    · obtain ⟨a1, a2, a3, a4, a5, a6, c', hc', a7, a8, a9⟩ := b4 x hx
      refine ⟨a1, a2, a3, a4, a5, a6, c', hc', ?_, ?_, ?_⟩
      · rw [d51 _ (nb x hx)]; exact a7
      · rw [ck 20 (by decide)]; exact a8
      · rw [ck 19 (by decide)]; exact a9
    · rw [ck 19 (by decide), ck 20 (by decide)]; exact b5 i hi hi2
    · rw [ck 19 (by decide), d10 37 (by decide) (by decide), d10 38 (by decide) (by decide)]; exact b6 q
    · rw [d10 37 (by decide) (by decide)]; exact b7
    · rw [d10 38 (by decide) (by decide)]; exact b8
theorem RO_out {n o c : Nat} {C D C' D' : am_M} {s : Int32} (hO : RO n C D) (ho : o < n) (h40 : n ≤ 40) (hc : c < 10) (e51 : D 51 0 o = i3 c)
    (c4 : ∀ o' f, ¬ o' = o → C' 4 o' f = C 4 o' f) (k0 : C' 4 o 0 = C 4 o 0) (k1 : C' 4 o 1 = C 4 o 1) (k2 : C' 4 o 2 = C 4 o 2) (k3 : C' 4 o 3 = s) (k4 : C' 4 o 4 = C 4 o 4) (k5 : C' 4 o 5 = C 4 o 5) (k6 : C' 4 o 6 = D' 53 0 o) (k7 : C' 4 o 7 = -1) (k8 : C' 4 o 8 = D' 57 0 o) (k9 : C' 4 o 9 = D' 58 0 o)
    (dk : ∀ k, k ∈ [30, 34, 45, 46, 47, 49, 50] → D' k = D k) (d48 : D' 48 0 o = s) (d48r : ∀ o', ¬ o' = o → D' 48 0 o' = D 48 0 o') (d53 : D' 53 0 o = 0 ∨ D' 53 0 o = 1) (d53r : ∀ o', ¬ o' = o → D' 53 0 o' = D 53 0 o') (d57r : ∀ o', ¬ o' = o → D' 57 0 o' = D 57 0 o') (d58r : ∀ o', ¬ o' = o → D' 58 0 o' = D 58 0 o') (d51o : D' 51 0 o = -1) (d51 : ∀ o', ¬ o' = o → D' 51 0 o' = D 51 0 o')
    (s1 : ¬ s = 1) (s3 : wi s 3) (s0 : s = 0 → D 50 0 o = 1) : RO n C' D' := by
  have run := c_run hO ho hc e51
  obtain ⟨o1, o2, o3, o4, o5, o6, o7, o8, o9, o10⟩ := hO
  have o40 : o < 40 := by omega
  have r1 := o6 o o40 run
  refine ⟨fun o' h' => ?_, fun o' h' => ?_, fun o' h' hn' => ?_, fun o' h' hs => ?_, fun o' h' hs => ?_, fun o' h' hs => ?_, fun o' h' => ?_, fun o' h' hs => ?_, fun o' h' hs => ?_, fun o' h' hs => ?_⟩
  · rw [dk 45 (by decide), dk 46 (by decide), dk 47 (by decide), dk 49 (by decide), dk 50 (by decide)]
    by_cases e : o' = o
    · subst e
      obtain ⟨p0, p1, p2, p3, p4, p5, p6, p8, p9⟩ := o1 o' o40
      rw [k0, k1, k2, k3, k4, k5, k6, k8, k9, d48]
      exact ⟨p0, p1, p2, rfl, p4, p5, rfl, rfl, rfl⟩
    · rw [c4 o' 0 e, c4 o' 1 e, c4 o' 2 e, c4 o' 3 e, c4 o' 4 e, c4 o' 5 e, c4 o' 6 e, c4 o' 8 e, c4 o' 9 e, d48r o' e, d53r o' e, d57r o' e, d58r o' e]
      exact o1 o' h'
  · rw [dk 46 (by decide), dk 47 (by decide), dk 50 (by decide)]
    by_cases e : o' = o
    · subst e
      obtain ⟨p0, p1, _, p3, _⟩ := o2 o' o40
      rw [d48]; exact ⟨p0, p1, s3, p3, d53⟩
    · rw [d48r o' e, d53r o' e]; exact o2 o' h'
  · have e : ¬ o' = o := by omega
    rw [dk 50 (by decide), d48r o' e, c4 o' 7 e]; exact o3 o' h' hn'
  · rw [dk 50 (by decide)] at hs
    by_cases e : o' = o
    · subst e
      rw [hs] at r1
      exact absurd r1.1 (by decide)
    · rw [d53r o' e]; exact o4 o' h' hs
  · rw [dk 50 (by decide)]
    by_cases e : o' = o
    · subst e
      rw [d48] at hs
      rw [s0 hs]; decide
    · rw [d48r o' e] at hs; exact o5 o' h' hs
  · rw [dk 50 (by decide)]
    by_cases e : o' = o
    · subst e; rw [d48] at hs; exact absurd hs s1
    · rw [d48r o' e] at hs
      rw [d53r o' e]; exact o6 o' h' hs
  · rw [dk 45 (by decide)]
    by_cases e : o' = o
    · subst e; rw [k7, d51o]; exact ⟨rfl, (o7 o' h').2⟩
    · rw [c4 o' 7 e, d51 o' e]; exact o7 o' h'
  · by_cases e : o' = o
    · subst e; exact d51o
    · rw [d48r o' e] at hs
      rw [d51 o' e]; exact o8 o' h' hs
  · by_cases e : o' = o
    · subst e; rw [d48] at hs; exact absurd hs s1
    · rw [d48r o' e] at hs
      rw [d51 o' e]; exact o9 o' h' hs
  · rw [dk 46 (by decide)]
    have old : cmpl D (nt (D 46 0 o')) := by
      by_cases e : o' = o
      · subst e; exact o10 o' h' (by rw [run]; decide)
      · rw [d48r o' e] at hs; exact o10 o' h' hs
    exact cmpl_cg old (fun f _ => by unfold fd; rw [dk 30 (by decide)]) (by rw [dk 34 (by decide)])
/-- a row of ten values with one more -/
def ha (s : Nat) (v : Int32) (g : Nat → Int32) (j : Nat) : Int32 := if s = 10 then (if j < 9 then g (j + 1) else v) else (if j = s then v else g j)
theorem sX2_append {t s : Nat} {v : Int32} (M : am_M) (hs : M 2 t 1 = i3 s) (h10 : s ≤ 10) : ∃ M', fX2_append [.inr (2, t), .inl (.int v)] M = am_rV M' ∧ (∀ k, ¬ k = 2 → ¬ k = 16 → M' k = M k) ∧ (∀ t' j, ¬ t' = t → M' 16 t' j = M 16 t' j) ∧ (∀ t' j, ¬ t' = t → M' 2 t' j = M 2 t' j) ∧ M' 2 t 1 = i3 (if s = 10 then 10 else s + 1) ∧ (∀ j, j < 10 → M' 16 t j = ha s v (M 16 t) j) := by
  by_cases e : s = 10
  · have main := lp_do (A := am_M) (r := fun m i M => rX2_append m 11 [.inr (2, t), .inl (.int v), .inl (.int (i3 (i + 1)))] [] M) (N := 9) (c := 100) (I := fun i M1 => (∀ k, ¬ k = 16 → M1 k = M k) ∧ (∀ t' j, ¬ t' = t → M1 16 t' j = M 16 t' j) ∧ (∀ j, M1 16 t j = if j < i then M 16 t (j + 1) else M 16 t j)) ?_ 9 0 M rfl ⟨fun _ _ => rfl, fun _ _ _ => rfl, fun _ => rfl⟩
    · obtain ⟨M1, ⟨h1, h2, h3⟩, h4⟩ := main
      have z : am_put M1 2 t 1 (M1 2 t 1 - 1) 2 t 1 = i3 9 := by
        rw [put_eq ⟨rfl, rfl, rfl⟩, h1 2 (by decide), hs, e]; decide
      have k := qX2_append_11_0 (x1 := v) (x2 := 10) (n := 98900) (j1 := 9) (M := M1) (x0 := t) (by decide) (by decide) z
      rw [z, i3_one] at k
      have k2 := qX2_append_0 (by rw [hs, e]; rfl) (h4 99000 _ k)
      refine ⟨_, k2, fun q a b => ?_, fun t' j q => ?_, fun t' j q => ?_, ?_, fun j hj => ?_⟩
      · rw [← h1 q b]; funext u w; rw [put_ne (fun z => a z.1), put_ne (fun z => b z.1), put_ne (fun z => a z.1)]
      · rw [← h2 t' j q]
        show am_put (am_put M1 2 t 1 _) 16 t 9 v 16 t' j = _
        rw [put_ne (fun z => q z.2.1)]; rfl
      · rw [put_ne (fun z => q z.2.1)]
        show am_put M1 2 t 1 _ 2 t' j = _
        rw [put_ne (fun z => q z.2.1), h1 2 (by decide)]
      · rw [put_eq ⟨rfl, rfl, rfl⟩, if_pos e]
      · show am_put (am_put M1 2 t 1 _) 16 t 9 v 16 t j = _
        unfold ha
        rw [if_pos e]
        by_cases q : j = 9
        · rw [put_eq ⟨rfl, rfl, q⟩, if_neg (by omega)]
        · rw [put_ne (fun z => q z.2.2), if_pos (by omega)]
          show M1 16 t j = _
          rw [h3, if_pos (by omega)]
    · intro i M1 hi h
      obtain ⟨h1, h2, h3⟩ := h
      refine ⟨am_put M1 16 t i (M1 16 t (i + 1)), ⟨fun k q => ?_, fun t' j q => ?_, fun j => ?_⟩, fun m res k => qX2_append_11_1 (hge (n := 10) rfl (by omega) (by decide)) (by omega) (j2 := i) (by omega) (by rw [show (1 : Int32) = i3 1 from rfl, i3_sub (by omega)]; rfl) k⟩
      · rw [← h1 k q]; funext u w; rw [put_ne (fun z => q z.1)]
      · rw [put_ne (fun z => q z.2.1)]; exact h2 t' j q
      · by_cases q : j = i
        · rw [q, put_eq ⟨rfl, rfl, rfl⟩, h3, if_neg (by omega), if_pos (by omega)]
        · rw [put_ne (fun z => q z.2.2), h3]
          by_cases l : j < i
          · rw [if_pos l, if_pos (by omega)]
          · rw [if_neg l, if_neg (by omega)]
  · have k := qX2_append_1 (x1 := v) (M := M) (x0 := t) (j1 := s) (by rw [hs]; exact fun q => e ((i3_inj (b := 10) (by omega) (by decide)).mp q)) (by omega) hs
    refine ⟨_, k, fun q a b => ?_, fun t' j q => ?_, fun t' j q => ?_, ?_, fun j hj => ?_⟩
    · funext u w; rw [put_ne (fun z => a z.1), put_ne (fun z => b z.1)]
    · show am_put M 16 t s v 16 t' j = _
      rw [put_ne (fun z => q z.2.1)]
    · rw [put_ne (fun z => q z.2.1)]; rfl
    · rw [put_eq ⟨rfl, rfl, rfl⟩, if_neg e, hs, i3_one]
    · show am_put M 16 t s v 16 t j = _
      unfold ha
      rw [if_neg e]
      by_cases q : j = s
      · rw [if_pos q, put_eq ⟨rfl, rfl, q⟩]
      · rw [if_neg q, put_ne (fun z => q z.2.2)]
theorem sX10_remember {t s : Nat} {v : Int32} (ht : t < 4) (M : am_M) (hs : M 36 0 t = i3 s) (h10 : s ≤ 10) : ∃ M', fX10_remember [.inr (10, 0), .inl (.int (i3 t)), .inl (.int v)] M = am_rV M' ∧ (∀ k, ¬ k = 35 → ¬ k = 36 → M' k = M k) ∧ (∀ t', ¬ t' = t → M' 36 0 t' = M 36 0 t') ∧ (∀ t' j, ¬ t' = t → j < 10 → M' 35 0 (10 * t' + j) = M 35 0 (10 * t' + j)) ∧ M' 36 0 t = i3 (if s = 10 then 10 else s + 1) ∧ (∀ j, j < 10 → M' 35 0 (10 * t + j) = ha s v (fun j => M 35 0 (10 * t + j)) j) := by
  have e10 : (10 : Int32) * i3 t = i3 (10 * t) := i3_mul 10 t
  by_cases e : s = 10
  · have main := lp_do (A := am_M) (r := fun m i M => rX10_remember m 13 [.inr (10, 0), .inl (.int (i3 t)), .inl (.int v), .inl (.int (i3 (i + 1)))] [] M) (N := 9) (c := 100) (I := fun i M1 => (∀ k, ¬ k = 35 → M1 k = M k) ∧ (∀ t' j, ¬ t' = t → j < 10 → M1 35 0 (10 * t' + j) = M 35 0 (10 * t' + j)) ∧ (∀ j, j < 10 → M1 35 0 (10 * t + j) = if j < i then M 35 0 (10 * t + (j + 1)) else M 35 0 (10 * t + j))) ?_ 9 0 M rfl ⟨fun _ _ => rfl, fun _ _ _ _ => rfl, fun _ _ => rfl⟩
    · obtain ⟨M1, ⟨h1, h2, h3⟩, h4⟩ := main
      have z : am_put M1 36 0 t 9 36 0 t = i3 9 := by rw [put_eq ⟨rfl, rfl, rfl⟩]; rfl
      have k := qX10_remember_13_0 (x2 := v) (x3 := 10) (n := 98900) (j1 := t) (j2 := 10 * t + 9) (M := M1) (by decide) ht rfl (by omega) (by rw [z, e10, i3_add])
      rw [z, i3_one] at k
      have k2 := qX10_remember_0 ht rfl (by rw [hs, e]; rfl) (h4 99000 _ k)
      refine ⟨_, k2, fun q a b => ?_, fun t' q => ?_, fun t' j q hj => ?_, ?_, fun j hj => ?_⟩
      · rw [← h1 q a]; funext u w; rw [put_ne (fun z => b z.1), put_ne (fun z => a z.1), put_ne (fun z => b z.1)]
      · rw [put_ne (fun z => q z.2.2)]
        show am_put M1 36 0 t 9 36 0 t' = _
        rw [put_ne (fun z => q z.2.2), h1 36 (by decide)]
      · rw [← h2 t' j q hj]
        show am_put (am_put M1 36 0 t 9) 35 0 (10 * t + 9) v 35 0 (10 * t' + j) = _
        rw [put_ne (by omega)]; rfl
      · rw [put_eq ⟨rfl, rfl, rfl⟩, if_pos e]
      · show am_put (am_put M1 36 0 t 9) 35 0 (10 * t + 9) v 35 0 (10 * t + j) = _
        unfold ha
        rw [if_pos e]
        by_cases q : j = 9
        · rw [put_eq ⟨rfl, rfl, by omega⟩, if_neg (by omega)]
        · rw [put_ne (by omega), if_pos (by omega)]
          show M1 35 0 (10 * t + j) = _
          rw [h3 j hj, if_pos (by omega)]
    · intro i M1 hi h
      obtain ⟨h1, h2, h3⟩ := h
      refine ⟨am_put M1 35 0 (10 * t + i) (M1 35 0 (10 * t + (i + 1))), ⟨fun k q => ?_, fun t' j q hj => ?_, fun j hj => ?_⟩, fun m res k => qX10_remember_13_1 (hge (n := 10) rfl (by omega) (by decide)) (j3 := 10 * t + (i + 1)) (by omega) (by rw [e10, i3_add]) (j4 := 10 * t + i) (by omega) (by rw [e10, i3_add, show (1 : Int32) = i3 1 from rfl, i3_sub (by omega)]; rfl) k⟩
      · rw [← h1 k q]; funext u w; rw [put_ne (fun z => q z.1)]
      · rw [put_ne (by omega)]; exact h2 t' j q hj
      · by_cases q : j = i
        · rw [q, put_eq ⟨rfl, rfl, rfl⟩, h3 (i + 1) (by omega), if_neg (by omega), if_pos (by omega)]
        · rw [put_ne (by omega), h3 j hj]
          by_cases l : j < i
          · rw [if_pos l, if_pos (by omega)]
          · rw [if_neg l, if_neg (by omega)]
  · have k := qX10_remember_1 (x2 := v) (M := M) (j1 := t) (j2 := 10 * t + s) ht rfl (by rw [hs]; exact fun q => e ((i3_inj (b := 10) (by omega) (by decide)).mp q)) (by omega) (by rw [hs, e10, i3_add])
    refine ⟨_, k, fun q a b => ?_, fun t' q => ?_, fun t' j q hj => ?_, ?_, fun j hj => ?_⟩
    · funext u w; rw [put_ne (fun z => b z.1), put_ne (fun z => a z.1)]
    · rw [put_ne (fun z => q z.2.2)]; rfl
    · show am_put M 35 0 (10 * t + s) v 35 0 (10 * t' + j) = _
      rw [put_ne (by omega)]
    · rw [put_eq ⟨rfl, rfl, rfl⟩, if_neg e, hs, i3_one]
    · show am_put M 35 0 (10 * t + s) v 35 0 (10 * t + j) = _
      unfold ha
      rw [if_neg e]
      by_cases q : j = s
      · rw [if_pos q, put_eq ⟨rfl, rfl, by omega⟩]
      · rw [if_neg q, put_ne (by omega)]
theorem flg (A B E R S : Prop) [Decidable A] [Decidable B] [Decidable E] [Decidable R] [Decidable S] : ((((if A then 0 else 1 : Int32) + (if B then 0 else 2 : Int32)) ||| ((if R then 0 else 8 : Int32) + (if S then 0 else 16 : Int32))) ||| (if E then 0 else 4 : Int32)) = ((((if A then 0 else 1 : Int32) + (if B then 0 else 2 : Int32)) + (if E then 0 else 4 : Int32)) + (if R then 0 else 8 : Int32)) + (if S then 0 else 16 : Int32) := by
  by_cases a : A <;> by_cases b : B <;> by_cases e : E <;> by_cases r : R <;> by_cases s : S <;> simp only [a, b, e, r, s, if_true, if_false] <;> decide
