/-! ===== judging, side by side ===== -/
theorem put_k {A B : am_M} {a b c k : Nat} {v : Int32} (h : A k = B k) : am_put A a b c v k = am_put B a b c v k := by
  funext u w
  unfold am_put
  rw [h]
theorem lmt_a {E : Int64} (h : lg_cmp E 1000000000 ≤ 0) : (if 0 ≤ lg_cmp E (-1000000000) then E.toInt32 else -1000000000 : Int32) = lmt E := by
  unfold lmt
  rw [if_neg (lc_le.mp h)]
  by_cases q : 0 ≤ lg_cmp E (-1000000000)
  · rw [if_pos q, if_neg (lc_ge.mp q)]
  · rw [if_neg q, if_pos (Classical.byContradiction fun r => q (lc_ge.mpr r))]
theorem lmt_b {E : Int64} (h : ¬ lg_cmp E 1000000000 ≤ 0) : (1000000000 : Int32) = lmt E := by
  unfold lmt
  rw [if_pos (Classical.byContradiction fun r => h (lc_le.mpr r))]
theorem J_judge {jd jd' T n o c : Nat} {L : List Bk} {C D : am_M} (h : Rel 1 40 jd T n L C D) (hj : ∀ o', ¬ o' = o → o' < jd' → o' < jd) (ho : o < n) (hc : c < 10) (e51 : D 51 0 o = i3 c) (old : nt (D 52 0 o) = nt (fd D (nt (D 46 0 o)) 8) + 1) : ∃ C' D', fX9_judge [.inr (9, 0), .inl (.int (i3 o)), .inr (1, c)] C = am_rV C' ∧ fX10_judge [.inr (10, 0), .inl (.int (i3 o))] D = am_rV D' ∧ Rel 1 40 jd' T n L C' D' := by
  have h0 := h
  obtain ⟨hP, hS, hF, hQ, hN, hO, hH, hC, hB⟩ := h
  have bl := bk_len hB
  have h40 := hN.2.2.1
  have o40 : o < 40 := by omega
  have hu := hC.2.2 o c ho hc e51
  have run := c_run hO ho hc e51
  have hcm := hO.2.2.2.2.2.2.2.2.2 o ho (by rw [run]; decide)
  have t4 := t4_of hO o40
  have et : D 46 0 o = i3 (nt (D 46 0 o)) := (hO.2.1 o o40).1.1
  have etc : C 4 o 1 = i3 (nt (D 46 0 o)) := (hO.1 o o40).2.1.trans et
  have e50 : C 4 o 5 = D 50 0 o := (hO.1 o o40).2.2.2.2.2.1
  have e53 : C 4 o 6 = D 53 0 o := (hO.1 o o40).2.2.2.2.2.2.1
  have b53 := (hO.2.1 o o40).2.2.2.2
  have r12 := hO.2.2.2.2.2.1 o o40 run
  have w50 := (hO.2.1 o o40).2.2.2.1
  have hP1 := hP.1
  have w9 := RP_wi hP t4 (f := 9) (m := 2) (by decide) rfl rfl (by decide)
  have w8 := (RP_wi hP t4 (f := 8) (m := 12) (by decide) rfl rfl (by decide)).2
  obtain ⟨u1, u2, u3, u4, u5, u6, u7, u8, u9, u10, u11, u12, u13, u14, u15⟩ := hu
  generalize ht : nt (D 46 0 o) = t at *
  -- no booking is left
  have pe : ∀ w, w < 2 → pnd1 T C D c o t w = [] := by
    intro w hw
    unfold pnd1
    refine if_neg (fun q => ?_)
    have a := u14 w hw q.1 q.2
    have kd : ¬ fd D t (1 + 3 * w) = -1 := by
      rcases (u13 w hw).1 with r | r
      · exact absurd r.1 q.2
      · rw [r.2.1]; exact i3_nm (nt_lt _)
    rcases Nat.lt_or_ge w 1 with l | l
    · have w0 : w = 0 := by omega
      subst w0
      have z := (hcm.2.1 kd).2
      have z2 := hcm.2.2.2.2.1
      have a' : nt (D 52 0 o) + 1 ≤ nt (fd D t 3) := a
      omega
    · have w1 : w = 1 := by omega
      subst w1
      have z := (hcm.2.2.1 kd).2
      have z2 := hcm.2.2.2.2.1
      have a' : nt (D 52 0 o) + 1 ≤ nt (fd D t 6) := a
      omega
  have nb : ∀ x, x ∈ L → ¬ x.2.2.2.2 = o := fun x hx e => by
    have m : x ∈ L.filter (fun x => x.2.2.2.2 == o) := List.mem_filter.mpr ⟨hx, by rw [e]; exact beq_self_eq_true o⟩
    have := u15.mem_iff.mp m
    rw [pe 0 (by decide), pe 1 (by decide)] at this
    exact absurd this List.not_mem_nil
  have oL : oth o L = L := by
    unfold oth
    rw [List.filter_eq_self]
    intro x hx
    simpa using nb x hx
  -- the result
  rw [if_pos o40] at u10
  have c5 := hcm.2.2.2.2.1
  have c6 := hcm.2.2.2.2.2.1
  have c7 := hcm.2.2.2.2.2.2.1
  generalize hnr : min (nt (D 52 0 o)) (nt (fd D t 8)) + 1 - nt (fd D t 7) = nr at *
  have nr1 : 1 ≤ nr := by omega
  have nr6 : nr ≤ 6 := by omega
  have nr2 : fd D t 9 = 1 → 2 ≤ nr := fun q => by have := c7 q; omega
  have n56 : nt (D 56 0 o) = nr := by rw [u10]; exact nt_i (by omega)
  have f9 : C 18 t 9 = fd D t 9 := hP1 t 9 t4 (by decide)
  have cForm : fX6_formulaOf [.inr (6, t), .inr (13, c), .inl (.int (C 1 c 1))] C = am_rJ (rslt (fun j => D 55 0 (6 * o + j)) (fd D t 9) nr) C := by
    rw [u9, u10, sX6_formulaOf nr1 nr6 C (fun q => nr2 (f9.symm.trans q)), f9, rslt_cg nr1 (fun j hj => u11 j (by omega))]
  have dForm := sX10_resultOf o40 t4 D et u10 nr1 nr6 nr2 w9
  have cVal0 := sX0_valueAt hP t4 hcm.2.2.2.2.2.2.2 (rslt (fun j => D 55 0 (6 * o + j)) (fd D t 9) nr)
  have dVal := sX10_byCurve hP t4 hcm.2.2.2.2.2.2.2 (rslt (fun j => D 55 0 (6 * o + j)) (fd D t 9) nr)
  rw [← et] at dVal
  generalize hCV : cvr (fun j => D 32 0 (5 * t + j)) (fun j => D 33 0 (5 * t + j)) (rslt (fun j => D 55 0 (6 * o + j)) (fd D t 9) nr) (nt (D 34 0 t) - 2) 1 = CV at *
  generalize hE : (if am_b (D 53 0 o) = 0 then CV else CV * (fd D t 13).toInt64) = E
  have cVal : fX6_valueAt [.inr (6, t), .inl (.long (rslt (fun j => D 55 0 (6 * o + j)) (fd D t 9) nr)), .inl (.int (am_b (C 4 o 6)))] C = am_rJ E C := by
    rw [e53, ← hE]
    by_cases q : am_b (D 53 0 o) = 0
    · rw [if_pos q]; exact qX6_valueAt_0 cVal0 q
    · rw [if_neg q, ← hP1 t 13 t4 (by decide)]; exact qX6_valueAt_1 cVal0 q
  have dStart : ∀ res, rX10_judge 99500 68 [.inr (10, 0), .inl (.int (i3 o)), .inl (.int (D 46 0 o)), .inl (.long E), am_D, am_D, am_D] [.inl (.int (lmt E))] D = some res → fX10_judge [.inr (10, 0), .inl (.int (i3 o))] D = some res := by
    intro res k
    by_cases q : am_b (D 53 0 o) = 0
    · rw [if_pos q] at hE
      have e1 : CV * Int32.toInt64 1 = E := by rw [show Int32.toInt64 1 = 1 from by decide, Int64.mul_one]; exact hE
      have k' := mX10_judge k (show 99500 ≤ 99600 by decide)
      by_cases z : lg_cmp E 1000000000 ≤ 0
      · refine qX10_judge_0 o40 rfl dForm dVal q (by rw [e1]; exact z) ?_
        rw [e1, lmt_a z]; exact k'
      · refine qX10_judge_1 o40 rfl dForm dVal q (by rw [e1]; exact z) ?_
        rw [e1, lmt_b z]; exact k'
    · rw [if_neg q] at hE
      by_cases z : lg_cmp E 1000000000 ≤ 0
      · refine qX10_judge_2 o40 rfl dForm dVal q t4 et (by rw [hE]; exact z) ?_
        rw [hE, lmt_a z]; exact k
      · refine qX10_judge_3 o40 rfl dForm dVal q t4 et (by rw [hE]; exact z) ?_
        rw [hE, lmt_b z]; exact k
  obtain ⟨D1, l0, l1, l2, l3, l4, l5, l6, l7, l8, l9, l10⟩ := sX10_leave o40 hc e51 hB.1 (by omega) hB.2.2.1 (fun x hx => by have := (hB.2.2.2.1 x hx).2.2.2.2.2.1; omega)
  rw [oL] at l1 l2
  generalize hFL : ((((if fd D t 10 ≤ lmt E then 0 else 1 : Int32) + (if lmt E ≤ fd D t 11 then 0 else 2 : Int32)) + (if lg_cmp (lmt E).toInt64 E = 0 then 0 else 4 : Int32)) + (if D 50 0 o = 2 then 8 else 0 : Int32)) + (if am_b (D 53 0 o) = 0 then 0 else 16 : Int32) = FL
  have dGo : ∀ res, rX10_judge 98700 159 [.inr (10, 0), .inl (.int (i3 o)), .inl (.int (D 46 0 o)), .inl (.long E), am_D, .inl (.int (lmt E)), .inl (.int FL)] [] D1 = some res → fX10_judge [.inr (10, 0), .inl (.int (i3 o))] D = some res := by
    intro res k
    refine dStart res (qX10_judge_68_0 (n := 98700) (j2 := t) (j4 := o) t4 et o40 rfl l0 ?_)
    rw [← hFL] at k
    exact k
  have rr : (if D 50 0 o = 2 then 8 else 0 : Int32) = (if C 4 o 5 ≤ 1 then 0 else 8 : Int32) := by
    have a := r12.1
    have b := w50.2
    have ew := w50.1
    by_cases q : D 50 0 o = 2
    · rw [if_pos q, e50, q]; rfl
    · have n1 : nt (D 50 0 o) = 1 := by
        have : ¬ nt (D 50 0 o) = 2 := fun z => q (by rw [ew, z]; rfl)
        omega
      rw [if_neg q, e50, ew, n1]; rfl
  have fl0 : lg_cmp (lmt E).toInt64 E = 0 → ((((if C 18 t 10 ≤ lmt E then 0 else 1 : Int32) + (if lmt E ≤ C 18 t 11 then 0 else 2 : Int32)) ||| ((if C 4 o 5 ≤ 1 then 0 else 8 : Int32) + (if am_b (C 4 o 6) = 0 then 0 else 16 : Int32))) ||| 0) = FL := fun z => by
    have := flg (fd D t 10 ≤ lmt E) (lmt E ≤ fd D t 11) (lg_cmp (lmt E).toInt64 E = 0) (C 4 o 5 ≤ 1) (am_b (D 53 0 o) = 0)
    rw [← rr, hFL, if_pos z] at this
    rw [hP1 t 10 t4 (by decide), hP1 t 11 t4 (by decide), e53, ← rr]
    exact this
  have fl4 : ¬ lg_cmp (lmt E).toInt64 E = 0 → ((((if C 18 t 10 ≤ lmt E then 0 else 1 : Int32) + (if lmt E ≤ C 18 t 11 then 0 else 2 : Int32)) ||| ((if C 4 o 5 ≤ 1 then 0 else 8 : Int32) + (if am_b (C 4 o 6) = 0 then 0 else 16 : Int32))) ||| 4) = FL := fun z => by
    have := flg (fd D t 10 ≤ lmt E) (lmt E ≤ fd D t 11) (lg_cmp (lmt E).toInt64 E = 0) (C 4 o 5 ≤ 1) (am_b (D 53 0 o) = 0)
    rw [← rr, hFL, if_neg z] at this
    rw [hP1 t 10 t4 (by decide), hP1 t 11 t4 (by decide), e53, ← rr]
    exact this
  have f12 : C 18 t 12 = fd D t 12 := hP1 t 12 t4 (by decide)
  have d1k : ∀ k, k ∈ [30, 31, 32, 33, 34, 35, 36, 37, 38, 39, 40, 41, 42, 43, 45, 46, 47, 48, 49, 50, 52, 53, 54, 55, 56, 57, 58, 69] → D1 k = D k := fun k hk => by
    have := (by decide : ∀ k, k ∈ [30, 31, 32, 33, 34, 35, 36, 37, 38, 39, 40, 41, 42, 43, 45, 46, 47, 48, 49, 50, 52, 53, 54, 55, 56, 57, 58, 69] → ¬ k = 10 ∧ ¬ k = 51 ∧ ¬ k = 59 ∧ ¬ k = 60 ∧ ¬ k = 61 ∧ ¬ k = 62 ∧ ¬ k = 63 ∧ ¬ k = 64 ∧ ¬ k = 65) k hk
    obtain ⟨a0, a1, a2, a3, a4, a5, a6, a7, a8⟩ := this
    exact l3 k a0 a1 a2 a3 a4 a5 a6 a7 a8
  have fds1 : ∀ f, D1 30 0 (16 * t + f) = fd D t f := fun f => by rw [d1k 30 (by decide)]
  have hctl : am_b (C 1 c 6) = am_b (D1 54 0 o) := by rw [u7, d1k 54 (by decide)]
  have runs1 : C 4 o 5 = 1 ↔ D1 50 0 o = 1 := by rw [e50, d1k 50 (by decide)]
  -- released
  obtain ⟨hh1, hh2, hh3⟩ := hH
  have hrel := rel_le (D 48 0) 40
  have nrel : ¬ D 48 0 o = 2 := by rw [run]; decide
  have e40 : D 10 0 40 = i3 (nt (D 10 0 40)) := hh2.1
  have hb40 := hh2.2
  have h39 : nt (D 10 0 40) < 40 := by
    have i1 := rel_inc (d' := fun i => if i = o then 2 else D 48 0 i) nrel (if_pos rfl) (fun i q => if_neg q) 40 o40
    have i2 := rel_le (fun i => if i = o then 2 else D 48 0 i) 40
    omega
  generalize hCx : am_put (am_put (am_put (am_put (am_put (am_put (am_put C 1 c 5 (-1)) 1 c 9 0) 1 c 8 3) 4 o 3 2) 4 o 7 (-1)) 4 o 8 (lmt E)) 4 o 9 FL = Cx
  have x31 : Cx 3 0 1 = i3 (nt (D 10 0 40)) := by rw [← hCx]; exact hh1.trans e40
  have app := qX3_append_1 (x1 := i3 o) (M := Cx) (j1 := nt (D 10 0 40)) (by rw [x31]; exact hge (n := 40) rfl h39 (by decide)) h39 x31
  have out : ∀ C' D' : am_M, (∀ k, ¬ k = 2 → ¬ k = 16 → C' k = am_put (am_put Cx 17 0 (nt (D 10 0 40)) (i3 o)) 3 0 1 (Cx 3 0 1 + 1) k) → (∀ k, ¬ k = 35 → ¬ k = 36 → D' k = am_put (am_put (am_put (am_put (am_put D1 48 0 o 2) 57 0 o (lmt E)) 58 0 o FL) 69 0 (nt (D 10 0 40)) (i3 o)) 10 0 40 (D1 10 0 40 + 1) k) → RP C' D' → Rel 1 40 jd' T n L C' D' := by
    intro C' D' qc qd hP'
    have ck : ∀ k, ¬ k = 1 → ¬ k = 2 → ¬ k = 3 → ¬ k = 4 → ¬ k = 16 → ¬ k = 17 → C' k = C k := fun k a1 a2 a3 a4 a16 a17 => by
      rw [qc k a2 a16, ← hCx]; funext u w
      rw [put_ne (fun z => a3 z.1), put_ne (fun z => a17 z.1), put_ne (fun z => a4 z.1), put_ne (fun z => a4 z.1), put_ne (fun z => a4 z.1), put_ne (fun z => a4 z.1), put_ne (fun z => a1 z.1), put_ne (fun z => a1 z.1), put_ne (fun z => a1 z.1)]
    have c1 : C' 1 = am_put (am_put (am_put C 1 c 5 (-1)) 1 c 9 0) 1 c 8 3 1 := by rw [qc 1 (by decide) (by decide), ← hCx]; rfl
    have c4 : C' 4 = am_put (am_put (am_put (am_put C 4 o 3 2) 4 o 7 (-1)) 4 o 8 (lmt E)) 4 o 9 FL 4 := by
      rw [qc 4 (by decide) (by decide), ← hCx]
      show am_put (am_put (am_put (am_put (am_put (am_put (am_put C 1 c 5 (-1)) 1 c 9 0) 1 c 8 3) 4 o 3 2) 4 o 7 (-1)) 4 o 8 (lmt E)) 4 o 9 FL 4 = _
      exact put_k (put_k (put_k (put_k rfl)))
    have dkk : ∀ k, ¬ k = 10 → ¬ k = 35 → ¬ k = 36 → ¬ k = 48 → ¬ k = 57 → ¬ k = 58 → ¬ k = 69 → D' k = D1 k := fun k a0 a1 a2 a3 a4 a5 a6 => by
      rw [qd k a1 a2]; funext u w
      rw [put_ne (fun z => a0 z.1), put_ne (fun z => a6 z.1), put_ne (fun z => a5 z.1), put_ne (fun z => a4 z.1), put_ne (fun z => a3 z.1)]
    have dk2 : ∀ k, k ∈ [30, 31, 32, 33, 34, 37, 38, 39, 40, 41, 42, 43, 45, 46, 47, 49, 50, 52, 53, 54, 55, 56] → D' k = D k := fun k hk => by
      have := (by decide : ∀ k, k ∈ [30, 31, 32, 33, 34, 37, 38, 39, 40, 41, 42, 43, 45, 46, 47, 49, 50, 52, 53, 54, 55, 56] → ¬ k = 10 ∧ ¬ k = 35 ∧ ¬ k = 36 ∧ ¬ k = 48 ∧ ¬ k = 57 ∧ ¬ k = 58 ∧ ¬ k = 69 ∧ k ∈ [30, 31, 32, 33, 34, 35, 36, 37, 38, 39, 40, 41, 42, 43, 45, 46, 47, 48, 49, 50, 52, 53, 54, 55, 56, 57, 58, 69]) k hk
      obtain ⟨a0, a1, a2, a3, a4, a5, a6, a7⟩ := this
      rw [dkk k a0 a1 a2 a3 a4 a5 a6, d1k k a7]
    have d48 : D' 48 0 o = 2 := by
      rw [qd 48 (by decide) (by decide)]
      show am_put D1 48 0 o 2 48 0 o = 2
      rw [put_eq ⟨rfl, rfl, rfl⟩]
    have d48r : ∀ o', ¬ o' = o → D' 48 0 o' = D 48 0 o' := fun o' q => by
      rw [qd 48 (by decide) (by decide)]
      show am_put D1 48 0 o 2 48 0 o' = _
      rw [put_ne (fun z => q z.2.2), d1k 48 (by decide)]
    have d57 : D' 57 0 o = lmt E := by
      rw [qd 57 (by decide) (by decide)]
      show am_put (am_put D1 48 0 o 2) 57 0 o (lmt E) 57 0 o = _
      rw [put_eq ⟨rfl, rfl, rfl⟩]
    have d57r : ∀ o', ¬ o' = o → D' 57 0 o' = D 57 0 o' := fun o' q => by
      rw [qd 57 (by decide) (by decide)]
      show am_put (am_put D1 48 0 o 2) 57 0 o (lmt E) 57 0 o' = _
      rw [put_ne (fun z => q z.2.2)]
      show D1 57 0 o' = _
      rw [d1k 57 (by decide)]
    have d58 : D' 58 0 o = FL := by
      rw [qd 58 (by decide) (by decide)]
      show am_put (am_put (am_put D1 48 0 o 2) 57 0 o (lmt E)) 58 0 o FL 58 0 o = _
      rw [put_eq ⟨rfl, rfl, rfl⟩]
    have d58r : ∀ o', ¬ o' = o → D' 58 0 o' = D 58 0 o' := fun o' q => by
      rw [qd 58 (by decide) (by decide)]
      show am_put (am_put (am_put D1 48 0 o 2) 57 0 o (lmt E)) 58 0 o FL 58 0 o' = _
      rw [put_ne (fun z => q z.2.2)]
      show D1 58 0 o' = _
      rw [d1k 58 (by decide)]
    have d10 : ∀ f, ¬ f = 36 → ¬ f = 40 → D' 10 0 f = D 10 0 f := fun f a b => by
      rw [qd 10 (by decide) (by decide), put_ne (fun z => b z.2.2)]
      show D1 10 0 f = _
      exact l4 f a
    have d51 : D' 51 = D1 51 := dkk 51 (by decide) (by decide) (by decide) (by decide) (by decide) (by decide) (by decide)
    have d59 : D' 59 = D1 59 := dkk 59 (by decide) (by decide) (by decide) (by decide) (by decide) (by decide) (by decide)
    have d60 : D' 60 = D1 60 := dkk 60 (by decide) (by decide) (by decide) (by decide) (by decide) (by decide) (by decide)
    refine Rel_out hj h0 ho hc e51 (fun k hk => ?_) ?_ ?_ ?_ (fun c' f q => ?_) (fun k hk => dk2 k ((by decide : ∀ k, k ∈ [30, 31, 32, 33, 34, 37, 38, 39, 40, 41, 42, 43, 45, 46, 47, 49, 50, 52, 54, 55, 56] → k ∈ [30, 31, 32, 33, 34, 37, 38, 39, 40, 41, 42, 43, 45, 46, 47, 49, 50, 52, 53, 54, 55, 56]) k hk)) (fun b x hx => ?_) ?_ d10 (by rw [d59]; exact l5) (by rw [d60]; exact l6) (fun c' q => by rw [d59]; exact l7 c' q) (fun c' q => by rw [d60]; exact l8 c' q) (by rw [d51]; exact l9) (fun o' q => by rw [d51]; exact l10 o' q) nb hP' ?_ ?_
    · have := (by decide : ∀ k, k ∈ [0, 5, 6, 8, 9, 11, 12, 13, 14, 15, 18, 19, 20, 21] → ¬ k = 1 ∧ ¬ k = 2 ∧ ¬ k = 3 ∧ ¬ k = 4 ∧ ¬ k = 16 ∧ ¬ k = 17) k hk
      obtain ⟨a1, a2, a3, a4, a5, a6⟩ := this
      exact ck k a1 a2 a3 a4 a5 a6
    · rw [c1, put_ne (by omega), put_ne (by omega), put_eq ⟨rfl, rfl, rfl⟩]
    · rw [c1, put_eq ⟨rfl, rfl, rfl⟩]
    · rw [c1, put_ne (by omega), put_eq ⟨rfl, rfl, rfl⟩]
    · rw [c1, put_ne (fun z => q z.2.1), put_ne (fun z => q z.2.1), put_ne (fun z => q z.2.1)]
    · have := l1 b x hx
      unfold bcell at this ⊢
      rw [dkk 61 (by decide) (by decide) (by decide) (by decide) (by decide) (by decide) (by decide), dkk 62 (by decide) (by decide) (by decide) (by decide) (by decide) (by decide) (by decide), dkk 63 (by decide) (by decide) (by decide) (by decide) (by decide) (by decide) (by decide), dkk 64 (by decide) (by decide) (by decide) (by decide) (by decide) (by decide) (by decide), dkk 65 (by decide) (by decide) (by decide) (by decide) (by decide) (by decide) (by decide)]
      exact this
    · rw [qd 10 (by decide) (by decide)]
      show D1 10 0 36 = _
      exact l2
    · refine RO_out (s := 2) hO ho h40 hc e51 (fun o' f q => ?_) ?_ ?_ ?_ ?_ ?_ ?_ ?_ ?_ ?_ ?_ (fun k hk => dk2 k ((by decide : ∀ k, k ∈ [30, 34, 45, 46, 47, 49, 50] → k ∈ [30, 31, 32, 33, 34, 37, 38, 39, 40, 41, 42, 43, 45, 46, 47, 49, 50, 52, 53, 54, 55, 56]) k hk)) d48 d48r (by rw [dk2 53 (by decide)]; exact b53) (fun o' _ => by rw [dk2 53 (by decide)]) d57r d58r (by rw [d51]; exact l9) (fun o' q => by rw [d51]; exact l10 o' q) (by decide) (wi_of (k := 2) (by decide) (by decide)) (fun z => absurd z (by decide))
      · rw [c4, put_ne (fun z => q z.2.1), put_ne (fun z => q z.2.1), put_ne (fun z => q z.2.1), put_ne (fun z => q z.2.1)]
      · rw [c4, put_ne (by omega), put_ne (by omega), put_ne (by omega), put_ne (by omega)]
      · rw [c4, put_ne (by omega), put_ne (by omega), put_ne (by omega), put_ne (by omega)]
      · rw [c4, put_ne (by omega), put_ne (by omega), put_ne (by omega), put_ne (by omega)]
      · rw [c4, put_ne (by omega), put_ne (by omega), put_ne (by omega), put_eq ⟨rfl, rfl, rfl⟩]
      · rw [c4, put_ne (by omega), put_ne (by omega), put_ne (by omega), put_ne (by omega)]
      · rw [c4, put_ne (by omega), put_ne (by omega), put_ne (by omega), put_ne (by omega)]
      · rw [c4, put_ne (by omega), put_ne (by omega), put_ne (by omega), put_ne (by omega), dk2 53 (by decide)]; exact e53
      · rw [c4, put_ne (by omega), put_ne (by omega), put_eq ⟨rfl, rfl, rfl⟩]
      · rw [c4, put_ne (by omega), put_eq ⟨rfl, rfl, rfl⟩, d57]
      · rw [c4, put_eq ⟨rfl, rfl, rfl⟩, d58]
    · have ri := rel_inc (d := D 48 0) (d' := D' 48 0) nrel d48 d48r 40 o40
      have e1 : D' 10 0 40 = i3 (nt (D 10 0 40) + 1) := by
        rw [qd 10 (by decide) (by decide), put_eq ⟨rfl, rfl, rfl⟩, l4 40 (by decide), e40, nt_i (nt_lt _), i3_one]
      refine ⟨?_, ?_, fun i hi => ?_⟩
      · rw [qc 3 (by decide) (by decide), put_eq ⟨rfl, rfl, rfl⟩, x31, e1, i3_one]
      · rw [e1, ri]; exact wi_of (by omega) (by omega)
      · rw [qc 17 (by decide) (by decide), qd 69 (by decide) (by decide)]
        show am_put Cx 17 0 (nt (D 10 0 40)) (i3 o) 17 0 i = am_put (am_put (am_put (am_put D1 48 0 o 2) 57 0 o (lmt E)) 58 0 o FL) 69 0 (nt (D 10 0 40)) (i3 o) 69 0 i
        by_cases q : i = nt (D 10 0 40)
        · rw [put_eq ⟨rfl, rfl, q⟩, put_eq ⟨rfl, rfl, q⟩]
        · rw [put_ne (fun z => q z.2.2), put_ne (fun z => q z.2.2)]
          show Cx 17 0 i = D1 69 0 i
          rw [d1k 69 (by decide), ← hCx]
          exact hh3 i hi
  have e40' : D1 10 0 40 = i3 (nt (D 10 0 40)) := (l4 40 (by decide)).trans e40
  have plain : RP (am_put (am_put Cx 17 0 (nt (D 10 0 40)) (i3 o)) 3 0 1 (Cx 3 0 1 + 1)) (am_put (am_put (am_put (am_put (am_put D1 48 0 o 2) 57 0 o (lmt E)) 58 0 o FL) 69 0 (nt (D 10 0 40)) (i3 o)) 10 0 40 (D1 10 0 40 + 1)) := by
    refine RP_cg hP (fun k hk => ?_) (fun k hk => ?_)
    · have := (by decide : ∀ k, k ∈ [18, 6, 0, 11, 12, 2, 16] → ¬ k = 1 ∧ ¬ k = 3 ∧ ¬ k = 4 ∧ ¬ k = 17) k hk
      obtain ⟨a1, a3, a4, a17⟩ := this
      rw [← hCx]; funext u w
      rw [put_ne (fun z => a3 z.1), put_ne (fun z => a17 z.1), put_ne (fun z => a4 z.1), put_ne (fun z => a4 z.1), put_ne (fun z => a4 z.1), put_ne (fun z => a4 z.1), put_ne (fun z => a1 z.1), put_ne (fun z => a1 z.1), put_ne (fun z => a1 z.1)]
    · have := (by decide : ∀ k, k ∈ [30, 31, 32, 33, 34, 35, 36] → ¬ k = 10 ∧ ¬ k = 48 ∧ ¬ k = 57 ∧ ¬ k = 58 ∧ ¬ k = 69 ∧ k ∈ [30, 31, 32, 33, 34, 35, 36, 37, 38, 39, 40, 41, 42, 43, 45, 46, 47, 48, 49, 50, 52, 53, 54, 55, 56, 57, 58, 69]) k hk
      obtain ⟨a0, a3, a4, a5, a6, a7⟩ := this
      rw [← d1k k a7]; funext u w
      rw [put_ne (fun z => a0 z.1), put_ne (fun z => a6 z.1), put_ne (fun z => a5 z.1), put_ne (fun z => a4 z.1), put_ne (fun z => a3 z.1)]
  by_cases ctl : am_b (D1 54 0 o) = 0
  case neg =>
    -- a control
    obtain ⟨e21, w36⟩ := hP.2.2.2.2.2.2.2.1 t t4
    have s10 := w36.2
    have m21 : am_put (am_put Cx 17 0 (nt (D 10 0 40)) (i3 o)) 3 0 1 (Cx 3 0 1 + 1) 2 t 1 = i3 (nt (D 36 0 t)) := by
      rw [← hCx]; exact e21.trans w36.1
    obtain ⟨C', g0, g1, g2, g3, g4, g5⟩ := sX2_append (v := lmt E) _ m21 s10
    obtain ⟨D2, r0, r1, r2, r3, r4, r5⟩ := sX10_remember (v := lmt E) t4 D1 (by rw [d1k 36 (by decide)]; exact w36.1) s10
    have rls := qX10_release_0 (x2 := lmt E) (x3 := FL) (M := D2) (j1 := o) (j2 := nt (D 10 0 40)) o40 rfl h39 (by rw [r1 10 (by decide) (by decide)]; exact e40')
    have cls : fX9_judge [.inr (9, 0), .inl (.int (i3 o)), .inr (1, c)] C = am_rV C' := by
      by_cases z : lg_cmp (lmt E).toInt64 E = 0
      · refine qX9_judge_3 o40 rfl t4 etc cForm cVal z (by rw [hctl]; exact ctl) (M5 := am_put (am_put Cx 17 0 (nt (D 10 0 40)) (i3 o)) 3 0 1 (Cx 3 0 1 + 1)) ?_ g0
        rw [fl0 z, hCx]; exact app
      · refine qX9_judge_7 o40 rfl t4 etc cForm cVal z (by rw [hctl]; exact ctl) (M5 := am_put (am_put Cx 17 0 (nt (D 10 0 40)) (i3 o)) 3 0 1 (Cx 3 0 1 + 1)) ?_ g0
        rw [fl4 z, hCx]; exact app
    refine ⟨C', _, cls, dGo _ (qX10_judge_159_8 (n := 98300) (j1 := o) o40 rfl ctl (by rw [et]; exact r0) rls), out _ _ g1 (fun k a b => ?_) ?_⟩
    · have d10e : D2 10 0 40 = D1 10 0 40 := by rw [r1 10 (by decide) (by decide)]
      rw [d10e]
      exact put_k (put_k (put_k (put_k (put_k (r1 k a b)))))
    · have CR : ∀ k, k ∈ [18, 6, 0, 11, 12] → C' k = C k := fun k hk => by
        have := (by decide : ∀ k, k ∈ [18, 6, 0, 11, 12] → ¬ k = 1 ∧ ¬ k = 2 ∧ ¬ k = 3 ∧ ¬ k = 4 ∧ ¬ k = 16 ∧ ¬ k = 17) k hk
        obtain ⟨a1, a2, a3, a4, a16, a17⟩ := this
        rw [g1 k a2 a16, ← hCx]; funext u w
        rw [put_ne (fun z => a3 z.1), put_ne (fun z => a17 z.1), put_ne (fun z => a4 z.1), put_ne (fun z => a4 z.1), put_ne (fun z => a4 z.1), put_ne (fun z => a4 z.1), put_ne (fun z => a1 z.1), put_ne (fun z => a1 z.1), put_ne (fun z => a1 z.1)]
      have DR : ∀ k, k ∈ [30, 31, 32, 33, 34] → am_put (am_put (am_put (am_put (am_put D2 48 0 o 2) 57 0 o (lmt E)) 58 0 o FL) 69 0 (nt (D 10 0 40)) (i3 o)) 10 0 40 (D2 10 0 40 + 1) k = D k := fun k hk => by
        have := (by decide : ∀ k, k ∈ [30, 31, 32, 33, 34] → ¬ k = 10 ∧ ¬ k = 48 ∧ ¬ k = 57 ∧ ¬ k = 58 ∧ ¬ k = 69 ∧ ¬ k = 35 ∧ ¬ k = 36 ∧ k ∈ [30, 31, 32, 33, 34, 35, 36, 37, 38, 39, 40, 41, 42, 43, 45, 46, 47, 48, 49, 50, 52, 53, 54, 55, 56, 57, 58, 69]) k hk
        obtain ⟨a0, a3, a4, a5, a6, a7, a8, a9⟩ := this
        rw [← d1k k a9, ← r1 k a7 a8]; funext u w
        rw [put_ne (fun z => a0 z.1), put_ne (fun z => a6 z.1), put_ne (fun z => a5 z.1), put_ne (fun z => a4 z.1), put_ne (fun z => a3 z.1)]
      have x2 : ∀ t' j, am_put (am_put Cx 17 0 (nt (D 10 0 40)) (i3 o)) 3 0 1 (Cx 3 0 1 + 1) 2 t' j = C 2 t' j := fun t' j => by rw [← hCx]; rfl
      have x16 : ∀ t' j, am_put (am_put Cx 17 0 (nt (D 10 0 40)) (i3 o)) 3 0 1 (Cx 3 0 1 + 1) 16 t' j = C 16 t' j := fun t' j => by rw [← hCx]; rfl
      obtain ⟨p1, p2, p3, p4, p5, p6, p7, p8, p9, p10⟩ := hP
      unfold RP cmpl fd
      rw [CR 18 (by decide), CR 6 (by decide), CR 0 (by decide), CR 11 (by decide), CR 12 (by decide), DR 30 (by decide), DR 31 (by decide), DR 32 (by decide), DR 33 (by decide), DR 34 (by decide)]
      refine ⟨p1, p2, p3, p4, p5, p6, p7, fun t' h' => ?_, fun t' j h' hj => ?_, p10⟩
      · show C' 2 t' 1 = D2 36 0 t' ∧ wi (D2 36 0 t') 10
        by_cases e : t' = t
        · rw [e, g4, r4]
          refine ⟨rfl, ?_⟩
          by_cases z : nt (D 36 0 t) = 10
          · rw [if_pos z]; exact wi_of (by decide) (by decide)
          · rw [if_neg z]; exact wi_of (by omega) (by decide)
        · rw [g3 t' 1 e, x2, r2 t' e, d1k 36 (by decide)]; exact p8 t' h'
      · show C' 16 t' j = D2 35 0 (10 * t' + j)
        by_cases e : t' = t
        · rw [e, g5 j hj, r5 j hj]
          unfold ha
          by_cases z : nt (D 36 0 t) = 10
          · rw [if_pos z, if_pos z]
            by_cases l : j < 9
            · rw [if_pos l, if_pos l, x16, d1k 35 (by decide)]; exact p9 t (j + 1) t4 (by omega)
            · rw [if_neg l, if_neg l]
          · rw [if_neg z, if_neg z]
            by_cases l : j = nt (D 36 0 t)
            · rw [if_pos l, if_pos l]
            · rw [if_neg l, if_neg l, x16, d1k 35 (by decide)]; exact p9 t j t4 hj
        · rw [g2 t' j e, x16, r3 t' j e hj, d1k 35 (by decide)]; exact p9 t' j h' hj
  have ctl' : am_b (C 1 c 6) = 0 := by rw [hctl]; exact ctl
  have rls := qX10_release_0 (x2 := lmt E) (x3 := FL) (M := D1) (j1 := o) (j2 := nt (D 10 0 40)) o40 rfl h39 e40'
  have fin := out _ _ (fun _ _ _ => rfl) (fun _ _ _ => rfl) plain
  by_cases r1 : C 4 o 5 = 1
  case neg =>
    have cls : fX9_judge [.inr (9, 0), .inl (.int (i3 o)), .inr (1, c)] C = am_rV (am_put (am_put Cx 17 0 (nt (D 10 0 40)) (i3 o)) 3 0 1 (Cx 3 0 1 + 1)) := by
      by_cases z : lg_cmp (lmt E).toInt64 E = 0
      · refine qX9_judge_2 o40 rfl t4 etc cForm cVal z ctl' r1 ?_
        rw [fl0 z, hCx]; exact app
      · refine qX9_judge_6 o40 rfl t4 etc cForm cVal z ctl' r1 ?_
        rw [fl4 z, hCx]; exact app
    exact ⟨_, _, cls, dGo _ (qX10_judge_159_7 (n := 98500) (j1 := o) o40 rfl ctl (fun q => r1 (runs1.mpr q)) rls), fin⟩
  by_cases ask : fd D t 12 = 2 ∧ ¬ (FL &&& 2) = 0 ∨ fd D t 12 = 1 ∧ ¬ (FL &&& 3) = 0
  case neg =>
    have cls : fX9_judge [.inr (9, 0), .inl (.int (i3 o)), .inr (1, c)] C = am_rV (am_put (am_put Cx 17 0 (nt (D 10 0 40)) (i3 o)) 3 0 1 (Cx 3 0 1 + 1)) := by
      by_cases z : lg_cmp (lmt E).toInt64 E = 0
      · refine qX9_judge_0 o40 rfl t4 etc cForm cVal z ctl' r1 (by rw [fl0 z, f12]; exact ask) ?_
        rw [fl0 z, hCx]; exact app
      · refine qX9_judge_4 o40 rfl t4 etc cForm cVal z ctl' r1 (by rw [fl4 z, f12]; exact ask) ?_
        rw [fl4 z, hCx]; exact app
    refine ⟨_, _, cls, ?_, fin⟩
    by_cases a : fd D t 12 = 2
    · have a2 : FL &&& 2 = 0 := Classical.byContradiction fun q => ask (Or.inl ⟨a, q⟩)
      exact dGo _ (qX10_judge_159_2 (n := 98300) (j1 := o) (j4 := t) o40 rfl ctl (runs1.mp r1) t4 et ((fds1 12).trans a) a2 (by rw [fds1, a]; decide) rls)
    · by_cases b : fd D t 12 = 1
      · have b2 : FL &&& 3 = 0 := Classical.byContradiction fun q => ask (Or.inr ⟨b, q⟩)
        exact dGo _ (qX10_judge_159_4 (n := 98300) (j1 := o) (j4 := t) o40 rfl ctl (runs1.mp r1) t4 et (by rw [fds1]; exact a) ((fds1 12).trans b) b2 rls)
      · exact dGo _ (qX10_judge_159_6 (n := 98300) (j1 := o) (j4 := t) o40 rfl ctl (runs1.mp r1) t4 et (by rw [fds1]; exact a) (by rw [fds1]; exact b) rls)
  -- once more
  have bb : am_b (if fd D t 12 = 2 then 1 else 0 : Int32) = (if fd D t 12 = 2 then 1 else 0 : Int32) := by
    by_cases q : fd D t 12 = 2
    · rw [if_pos q]; rfl
    · rw [if_neg q]; rfl
  have bie : bi (C 18 t 12 = 2) = (if fd D t 12 = 2 then 1 else 0 : Int32) := by
    rw [f12]
    by_cases q : fd D t 12 = 2
    · rw [if_pos q, bi_t q]
    · rw [if_neg q, bi_f q]
  have wa := qX4_waitAgain_0 (x0 := o) (x1 := bi (C 18 t 12 = 2)) (M := am_put (am_put (am_put C 1 c 5 (-1)) 1 c 9 0) 1 c 8 3) (bi_b _)
  have cls : fX9_judge [.inr (9, 0), .inl (.int (i3 o)), .inr (1, c)] C = am_rV (am_put (am_put (am_put (am_put (am_put (am_put C 1 c 5 (-1)) 1 c 9 0) 1 c 8 3) 4 o 3 0) 4 o 7 (-1)) 4 o 6 (bi (C 18 t 12 = 2))) := by
    by_cases z : lg_cmp (lmt E).toInt64 E = 0
    · exact qX9_judge_1 o40 rfl t4 etc cForm cVal z ctl' r1 (by rw [fl0 z, f12]; exact ask) wa
    · exact qX9_judge_5 o40 rfl t4 etc cForm cVal z ctl' r1 (by rw [fl4 z, f12]; exact ask) wa
  rw [bie] at cls
  have ref : fX10_judge [.inr (10, 0), .inl (.int (i3 o))] D = am_rV (am_put (am_put D1 48 0 o 0) 53 0 o (if fd D t 12 = 2 then 1 else 0 : Int32)) := by
    rcases ask with ⟨a, a2⟩ | ⟨a, a2⟩
    · have k := qX10_judge_159_3 (n := 98200) (j1 := o) (j4 := t) (x1 := i3 o) (x2 := D 46 0 o) (x3 := E) (x5 := lmt E) (x6 := FL) o40 rfl ctl (runs1.mp r1) t4 et ((fds1 12).trans a) a2 (by rw [fds1]; exact bb)
      rw [fds1] at k
      exact dGo _ k
    · have k := qX10_judge_159_5 (n := 98100) (j1 := o) (j4 := t) (x1 := i3 o) (x2 := D 46 0 o) (x3 := E) (x5 := lmt E) (x6 := FL) o40 rfl ctl (runs1.mp r1) t4 et (by rw [fds1, a]; decide) ((fds1 12).trans a) a2 (by rw [fds1]; exact bb)
      rw [fds1] at k
      exact dGo _ k
  generalize hdl : (if fd D t 12 = 2 then 1 else 0 : Int32) = dl at *
  have dl01 : dl = 0 ∨ dl = 1 := by
    rw [← hdl]
    by_cases q : fd D t 12 = 2
    · rw [if_pos q]; exact Or.inr rfl
    · rw [if_neg q]; exact Or.inl rfl
  refine ⟨_, _, cls, ref, ?_⟩
  have dk2 : ∀ k, ¬ k = 48 → ¬ k = 53 → am_put (am_put D1 48 0 o 0) 53 0 o dl k = D1 k := fun k a b => by
    funext u w; rw [put_ne (fun z => b z.1), put_ne (fun z => a z.1)]
  have dk3 : ∀ k, k ∈ [30, 31, 32, 33, 34, 35, 36, 37, 38, 39, 40, 41, 42, 43, 45, 46, 47, 49, 50, 52, 54, 55, 56, 57, 58, 69] → am_put (am_put D1 48 0 o 0) 53 0 o dl k = D k := fun k hk => by
    have := (by decide : ∀ k, k ∈ [30, 31, 32, 33, 34, 35, 36, 37, 38, 39, 40, 41, 42, 43, 45, 46, 47, 49, 50, 52, 54, 55, 56, 57, 58, 69] → ¬ k = 48 ∧ ¬ k = 53 ∧ k ∈ [30, 31, 32, 33, 34, 35, 36, 37, 38, 39, 40, 41, 42, 43, 45, 46, 47, 48, 49, 50, 52, 53, 54, 55, 56, 57, 58, 69]) k hk
    rw [dk2 k this.1 this.2.1, d1k k this.2.2]
  have ck : ∀ k, ¬ k = 1 → ¬ k = 4 → am_put (am_put (am_put (am_put (am_put (am_put C 1 c 5 (-1)) 1 c 9 0) 1 c 8 3) 4 o 3 0) 4 o 7 (-1)) 4 o 6 dl k = C k := fun k a b => by
    funext u w; rw [put_ne (fun z => b z.1), put_ne (fun z => b z.1), put_ne (fun z => b z.1), put_ne (fun z => a z.1), put_ne (fun z => a z.1), put_ne (fun z => a z.1)]
  have c4 : am_put (am_put (am_put (am_put (am_put (am_put C 1 c 5 (-1)) 1 c 9 0) 1 c 8 3) 4 o 3 0) 4 o 7 (-1)) 4 o 6 dl 4 = am_put (am_put (am_put C 4 o 3 0) 4 o 7 (-1)) 4 o 6 dl 4 := put_k (put_k (put_k rfl))
  have d48 : am_put (am_put D1 48 0 o 0) 53 0 o dl 48 0 o = 0 := by
    show am_put D1 48 0 o 0 48 0 o = 0
    rw [put_eq ⟨rfl, rfl, rfl⟩]
  have d48r : ∀ o', ¬ o' = o → am_put (am_put D1 48 0 o 0) 53 0 o dl 48 0 o' = D 48 0 o' := fun o' q => by
    show am_put D1 48 0 o 0 48 0 o' = _
    rw [put_ne (fun z => q z.2.2), d1k 48 (by decide)]
  have d53 : am_put (am_put D1 48 0 o 0) 53 0 o dl 53 0 o = dl := put_eq ⟨rfl, rfl, rfl⟩
  have d53r : ∀ o', ¬ o' = o → am_put (am_put D1 48 0 o 0) 53 0 o dl 53 0 o' = D 53 0 o' := fun o' q => by
    rw [put_ne (fun z => q z.2.2)]
    show D1 53 0 o' = _
    rw [d1k 53 (by decide)]
  refine Rel_out hj h0 ho hc e51 (fun k hk => ?_) ?_ ?_ ?_ (fun c' f q => ?_) (fun k hk => dk3 k ((by decide : ∀ k, k ∈ [30, 31, 32, 33, 34, 37, 38, 39, 40, 41, 42, 43, 45, 46, 47, 49, 50, 52, 54, 55, 56] → k ∈ [30, 31, 32, 33, 34, 35, 36, 37, 38, 39, 40, 41, 42, 43, 45, 46, 47, 49, 50, 52, 54, 55, 56, 57, 58, 69]) k hk)) (fun b x hx => l1 b x hx) l2 (fun f a _ => l4 f a) l5 l6 l7 l8 l9 l10 nb ?_ ?_ ?_
  · have := (by decide : ∀ k, k ∈ [0, 5, 6, 8, 9, 11, 12, 13, 14, 15, 18, 19, 20, 21] → ¬ k = 1 ∧ ¬ k = 4) k hk
    exact ck k this.1 this.2
  · show am_put (am_put (am_put C 1 c 5 (-1)) 1 c 9 0) 1 c 8 3 1 c 5 = -1
    rw [put_ne (by omega), put_ne (by omega), put_eq ⟨rfl, rfl, rfl⟩]
  · show am_put (am_put (am_put C 1 c 5 (-1)) 1 c 9 0) 1 c 8 3 1 c 8 = 3
    rw [put_eq ⟨rfl, rfl, rfl⟩]
  · show am_put (am_put (am_put C 1 c 5 (-1)) 1 c 9 0) 1 c 8 3 1 c 9 = 0
    rw [put_ne (by omega), put_eq ⟨rfl, rfl, rfl⟩]
  · show am_put (am_put (am_put C 1 c 5 (-1)) 1 c 9 0) 1 c 8 3 1 c' f = _
    rw [put_ne (fun z => q z.2.1), put_ne (fun z => q z.2.1), put_ne (fun z => q z.2.1)]
  · exact RP_cg hP (fun k hk => by
      have := (by decide : ∀ k, k ∈ [18, 6, 0, 11, 12, 2, 16] → ¬ k = 1 ∧ ¬ k = 4) k hk
      exact ck k this.1 this.2) (fun k hk => dk3 k ((by decide : ∀ k, k ∈ [30, 31, 32, 33, 34, 35, 36] → k ∈ [30, 31, 32, 33, 34, 35, 36, 37, 38, 39, 40, 41, 42, 43, 45, 46, 47, 49, 50, 52, 54, 55, 56, 57, 58, 69]) k hk))
  · refine RO_out (s := 0) hO ho h40 hc e51 (fun o' f q => ?_) ?_ ?_ ?_ ?_ ?_ ?_ ?_ ?_ ?_ ?_ (fun k hk => dk3 k ((by decide : ∀ k, k ∈ [30, 34, 45, 46, 47, 49, 50] → k ∈ [30, 31, 32, 33, 34, 35, 36, 37, 38, 39, 40, 41, 42, 43, 45, 46, 47, 49, 50, 52, 54, 55, 56, 57, 58, 69]) k hk)) d48 d48r (by rw [d53]; exact dl01) d53r (fun o' _ => by rw [dk3 57 (by decide)]) (fun o' _ => by rw [dk3 58 (by decide)]) l9 l10 (by decide) (wi_of (k := 0) (by decide) (by decide)) (fun _ => e50.symm.trans r1)
    · rw [c4, put_ne (fun z => q z.2.1), put_ne (fun z => q z.2.1), put_ne (fun z => q z.2.1)]
    · rw [c4, put_ne (by omega), put_ne (by omega), put_ne (by omega)]
    · rw [c4, put_ne (by omega), put_ne (by omega), put_ne (by omega)]
    · rw [c4, put_ne (by omega), put_ne (by omega), put_ne (by omega)]
    · rw [c4, put_ne (by omega), put_ne (by omega), put_eq ⟨rfl, rfl, rfl⟩]
    · rw [c4, put_ne (by omega), put_ne (by omega), put_ne (by omega)]
    · rw [c4, put_ne (by omega), put_ne (by omega), put_ne (by omega)]
    · rw [c4, put_eq ⟨rfl, rfl, rfl⟩, d53]
    · rw [c4, put_ne (by omega), put_eq ⟨rfl, rfl, rfl⟩]
    · rw [c4, put_ne (by omega), put_ne (by omega), put_ne (by omega), dk3 57 (by decide)]; exact (hO.1 o o40).2.2.2.2.2.2.2.1
    · rw [c4, put_ne (by omega), put_ne (by omega), put_ne (by omega), dk3 58 (by decide)]; exact (hO.1 o o40).2.2.2.2.2.2.2.2
  · have e40'' : am_put (am_put D1 48 0 o 0) 53 0 o dl 10 0 40 = D 10 0 40 := l4 40 (by decide)
    have er : rel (am_put (am_put D1 48 0 o 0) 53 0 o dl 48 0) 40 = rel (D 48 0) 40 := rel_cg 40 (fun i _ => by
      by_cases q : i = o
      · rw [q, d48]; exact ⟨fun z => absurd z (by decide), fun z => absurd z nrel⟩
      · rw [d48r i q])
    refine ⟨?_, ?_, fun i hi => ?_⟩
    · rw [e40'']; exact hh1
    · rw [e40'', er]; exact hh2
    · rw [dk3 69 (by decide)]; exact hh3 i hi
