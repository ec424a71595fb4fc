/-! ===== the light's measure ===== -/
def tp (x : Int32) : Nat → Nat
  | 0 => 0
  | e + 1 => if (x >>> (i3 (e + 1) &&& 31)) = 0 then tp x e else e + 1
def itn : Nat → Int64 × Int32 → Int64 × Int32
  | 0, s => s
  | k + 1, s => itn k (if lg_cmp (s.1 * s.1 / 32768) 65536 < 0 then (s.1 * s.1 / 32768, s.2 * 2) else (s.1 * s.1 / 32768 / 2, s.2 * 2 + 1))
def ab (x : Int32) : Int32 := 16384 - (1024 * i3 (tp x 15) + (itn 10 (x.toInt64 <<< ((15 - i3 (tp x 15) : Int32).toInt64 &&& 63), 0)).2)
theorem sX9_absorbanceOf (x : Int32) (M : am_M) : fX9_absorbanceOf [.inl (.int x)] M = am_rI (ab x) M := by
  have two : ∀ (k i : Nat) (s : Int64 × Int32) (y : Int32) (m : Nat), i + k = 10 → 100 * (k + 1) ≤ m → rX9_absorbanceOf m 38 [.inl (.int x), .inl (.int y), .inl (.long s.1), am_D, .inl (.int s.2), .inl (.int (i3 i))] [] M = am_rI (16384 - (1024 * y + (itn k s).2)) M := by
    intro k
    induction k with
    | zero =>
      intro i s y m hi hm
      rw [show m = (m - 100) + 100 by omega, show i = 10 by omega]
      exact qX9_absorbanceOf_38_0 (by decide)
    | succ k ih =>
      intro i s y m hi hm
      rw [show m = (m - 100) + 100 by omega]
      have g := hge (X := 10) (n := 10) (i := i) rfl (by omega) (by decide)
      show _ = am_rI (16384 - (1024 * y + (itn k _).2)) M
      by_cases q : lg_cmp (s.1 * s.1 / 32768) 65536 < 0
      · rw [if_pos q]
        exact qX9_absorbanceOf_38_1 g q (ih (i + 1) (s.1 * s.1 / 32768, s.2 * 2) y (m - 100) (by omega) (by omega))
      · rw [if_neg q]
        exact qX9_absorbanceOf_38_2 g q (ih (i + 1) (s.1 * s.1 / 32768 / 2, s.2 * 2 + 1) y (m - 100) (by omega) (by omega))
  refine qX9_absorbanceOf_0 ?_
  obtain ⟨a, ha, h⟩ := lp_do (A := Int32) (r := fun m i a => rX9_absorbanceOf m 4 [.inl (.int x), .inl (.int a), .inl (.int (i3 (i + 1))), am_D, am_D, am_D] [] M) (N := 15) (c := 100) (I := fun i a => a = i3 (tp x i)) (by
    intro i a hi ha
    have g := hge (X := 16) (n := 16) (i := i + 1) rfl (by omega) (by decide)
    by_cases q : (x >>> (i3 (i + 1) &&& 31)) = 0
    · refine ⟨a, ?_, fun m res k => qX9_absorbanceOf_4_1 g q k⟩
      show a = i3 (if _ then _ else _)
      rw [if_pos q]; exact ha
    · refine ⟨i3 (i + 1), ?_, fun m res k => qX9_absorbanceOf_4_2 g q k⟩
      show i3 (i + 1) = i3 (if _ then _ else _)
      rw [if_neg q]) 15 0 0 rfl rfl
  refine h 98400 _ ?_
  rw [ha]
  refine qX9_absorbanceOf_4_0 (n := 98300) (by decide) ?_
  exact two 10 0 (x.toInt64 <<< ((15 - i3 (tp x 15) : Int32).toInt64 &&& 63), 0) (i3 (tp x 15)) 98300 rfl (by decide)
theorem sX10_absorbance (x : Int32) (hx : ¬ x = 0) (M : am_M) : fX10_absorbance [.inl (.int x)] M = am_rI (ab x) M := by
  have two : ∀ (k i : Nat) (s : Int64 × Int32) (y : Int32) (m : Nat), i + k = 10 → 100 * (k + 1) ≤ m → rX10_absorbance m 29 [.inl (.int x), .inl (.int y), .inl (.long s.1), am_D, .inl (.int s.2), .inl (.int (i3 i))] [] M = am_rI (16384 - (1024 * y + (itn k s).2)) M := by
    intro k
    induction k with
    | zero =>
      intro i s y m hi hm
      rw [show m = (m - 100) + 100 by omega, show i = 10 by omega]
      exact qX10_absorbance_29_0 (by decide)
    | succ k ih =>
      intro i s y m hi hm
      rw [show m = (m - 100) + 100 by omega]
      have g := hge (X := 10) (n := 10) (i := i) rfl (by omega) (by decide)
      show _ = am_rI (16384 - (1024 * y + (itn k _).2)) M
      by_cases q : lg_cmp (s.1 * s.1 / 32768) 65536 < 0
      · rw [if_pos q, Int32.mul_comm s.2 2]
        exact qX10_absorbance_29_1 g q (ih (i + 1) (s.1 * s.1 / 32768, 2 * s.2) y (m - 100) (by omega) (by omega))
      · rw [if_neg q, Int32.mul_comm s.2 2]
        exact qX10_absorbance_29_2 g q (ih (i + 1) (s.1 * s.1 / 32768 / 2, 2 * s.2 + 1) y (m - 100) (by omega) (by omega))
  have one : ∀ (e m : Nat), e ≤ 15 → 2000 + 100 * e ≤ m → rX10_absorbance m 3 [.inl (.int x), .inl (.int (i3 e)), am_D, am_D, am_D, am_D] [] M = am_rI (16384 - (1024 * i3 (tp x e) + (itn 10 (x.toInt64 <<< ((15 - i3 (tp x e) : Int32).toInt64 &&& 63), 0)).2)) M := by
    intro e
    induction e with
    | zero =>
      intro m _ hm
      rw [show m = (m - 100) + 100 by omega]
      have q : ¬ (x >>> (i3 0 &&& 31)) = 0 := by
        rw [show (i3 0 &&& 31) = 0 from by decide, Int32.shiftRight_zero]
        exact hx
      exact qX10_absorbance_3_1 q (two 10 0 (_, 0) _ _ rfl (by omega))
    | succ e ih =>
      intro m he hm
      rw [show m = (m - 100) + 100 by omega]
      by_cases q : (x >>> (i3 (e + 1) &&& 31)) = 0
      · have t : tp x (e + 1) = tp x e := by
          show (if _ then _ else _) = _
          rw [if_pos q]
        rw [t]
        refine qX10_absorbance_3_0 q ?_
        have d : i3 (e + 1) + -1 = i3 e := by
          rw [← i3_one, Int32.add_assoc, show (1 : Int32) + -1 = 0 from by decide, Int32.add_zero]
        rw [d]
        exact ih (m - 100) (by omega) (by omega)
      · have t : tp x (e + 1) = e + 1 := by
          show (if _ then _ else _) = _
          rw [if_neg q]
        rw [t]
        exact qX10_absorbance_3_1 q (two 10 0 (_, 0) _ _ rfl (by omega))
  exact qX10_absorbance_0 (one 15 99900 (Nat.le_refl _) (by decide))
/-! ===== readings are taken ===== -/
theorem RU_ms {lo i jd T c o t : Nat} {L : List Bk} {C D : am_M} (h : RU lo i jd T L C D c o t) (hne : ¬ o = i) : RU lo (i + 1) jd T L C D c o t := by
  obtain ⟨u1, u2, u3, u4, u5, u6, u7, u8, u9, u10, u11, u12, u13, u14, u15⟩ := h
  refine ⟨u1, u2, u3, u4, u5, u6, u7, u8, u9, ?_, u11, u12, u13, u14, u15⟩
  rw [u10]
  by_cases q : o < i
  · rw [if_pos q, if_pos (by omega)]
  · rw [if_neg q, if_neg (by omega)]
theorem cnt6 {lo ms jd T c o t : Nat} {L : List Bk} {C D : am_M} (h : RU lo ms jd T L C D c o t) (hcm : cmpl D t) : nt (D 56 0 o) ≤ 6 := by
  obtain ⟨u1, u2, u3, u4, u5, u6, u7, u8, u9, u10, _⟩ := h
  have c1 := hcm.2.2.2.2.1
  have c2 := hcm.2.2.2.2.2.1
  rw [u10]
  have w := nt_lt (D 52 0 o)
  by_cases q : o < ms
  · rw [if_pos q]
    have : min (nt (D 52 0 o)) (nt (fd D t 8)) + 1 - nt (fd D t 7) ≤ 6 := by omega
    rw [nt_i (by omega)]; exact this
  · rw [if_neg q]
    have : nt (D 52 0 o) - nt (fd D t 7) ≤ 6 := by omega
    rw [nt_i (by omega)]; exact this
theorem J_meas {T n : Nat} {L : List Bk} {C D : am_M} (h : Rel 1 0 0 T n L C D) : ∃ C' D', fX9_takeReadings [.inr (9, 0)] C = am_rV C' ∧ fX10_measure [.inr (10, 0)] D = am_rV D' ∧ Rel 1 40 0 T n L C' D' := by
  have hN0 := h.2.2.2.2.1
  have h40 := hN0.2.2.1
  have ec : C 9 0 9 = D 10 0 44 := hN0.2.2.2.2.1
  have ex0 : ¬ D 10 0 44 = 0 := fun q => by
    have := hN0.2.2.2.2.2.1
    rw [q] at this
    exact absurd this (by decide)
  have abc := sX9_absorbanceOf (C 9 0 9) C
  have main := lp_do2 (A := am_V × am_M) (B := am_M) (r := fun m i a => rX9_takeReadings m 10 [.inr (9, 0), .inl (.int (ab (C 9 0 9))), .inl (.int (i3 i)), a.1] [] a.2) (s := fun m i b => rX10_measure m 2 [.inr (10, 0), .inl (.int (i3 i))] [] b) (N := n) (c := 400) (d := 400) (I := fun i a b => Rel 1 i 0 T n L a.2 b ∧ b 10 0 44 = D 10 0 44) ?_ n 0 (am_D, C) D (Nat.zero_add n) ⟨h, rfl⟩
  · obtain ⟨a, D', ⟨hr, _⟩, r1, r2⟩ := main
    have hNf := hr.2.2.2.2.1
    have k1 := r1 (99800 - 400 * n) _ (mX9_takeReadings (qX9_takeReadings_10_0 (n := 0) (x1 := ab (C 9 0 9)) (x3 := a.1) (hen hNf.1 (by omega))) (by omega))
    have k2 := r2 (99900 - 400 * n) _ (mX10_measure (qX10_measure_2_0 (n := 0) (hen hNf.2.1 (by omega))) (by omega))
    rw [show 99800 - 400 * n + 400 * n = 99800 by omega] at k1
    rw [show 99900 - 400 * n + 400 * n = 99900 by omega] at k2
    refine ⟨a.2, D', qX9_takeReadings_0 abc k1, qX10_measure_0 k2, ?_⟩
    obtain ⟨hP, hS, hF, hQ, hN, hO, hH, hC, hB⟩ := hr
    refine ⟨hP, hS, hF, hQ, hN, hO, hH, ⟨hC.1, hC.2.1, fun o c ho hc q => ?_⟩, hB⟩
    obtain ⟨u1, u2, u3, u4, u5, u6, u7, u8, u9, u10, u11, u12, u13, u14, u15⟩ := hC.2.2 o c ho hc q
    rw [if_pos ho] at u10
    exact ⟨u1, u2, u3, u4, u5, u6, u7, u8, u9, by rw [if_pos (by omega)]; exact u10, u11, u12, u13, u14, u15⟩
  · intro i a D1 hi hI
    obtain ⟨hr, e44⟩ := hI
    obtain ⟨x3, C1⟩ := a
    have hr' : Rel 1 i 0 T n L C1 D1 := hr
    obtain ⟨hP, hS, hF, hQ, hN, hO, hH, hC, hB⟩ := hr'
    have i40 : i < 40 := by omega
    have g1 := hge (X := C1 9 0 7) hN.1 hi (by omega)
    have g2 := hge (X := D1 10 0 14) hN.2.1 hi (by omega)
    have et : C1 4 i 1 = i3 (nt (D1 46 0 i)) := (hO.1 i i40).2.1.trans (hO.2.1 i i40).1.1
    have et' : D1 46 0 i = i3 (nt (D1 46 0 i)) := (hO.2.1 i i40).1.1
    have t4 := t4_of hO i40
    have e7 := (hO.2.2.2.2.2.2.1 i hi).1
    by_cases run : D1 48 0 i = 1
    · obtain ⟨c, hc, e51⟩ := run_c (lo := 1) (ms := 0) (jd := 0) (T := T) (L := L) hO hi run
      have hu := hC.2.2 i c hi hc e51
      have hcm := hO.2.2.2.2.2.2.2.2.2 i hi (by rw [run]; decide)
      have cv := sX9_cuvetteOf1 i C1 (e7.trans e51) hc
      have w7 := RP_wi hP t4 (f := 7) (m := 12) (by decide) rfl rfl (by decide)
      have w8 := RP_wi hP t4 (f := 8) (m := 12) (by decide) rfl rfl (by decide)
      have q7 : C1 18 (nt (D1 46 0 i)) 7 = fd D1 (nt (D1 46 0 i)) 7 := hP.1 _ 7 t4 (by decide)
      have q8 : C1 18 (nt (D1 46 0 i)) 8 = fd D1 (nt (D1 46 0 i)) 8 := hP.1 _ 8 t4 (by decide)
      have c1 := hcm.2.2.2.2.1
      have c2 := hcm.2.2.2.2.2.1
      obtain ⟨u1, u2, u3, u4, u5, u6, u7, u8, u9, u10, u11, u12, u13, u14, u15⟩ := hu
      have w8' := w8.2
      have ea : C1 1 c 7 = i3 (nt (D1 52 0 i)) := u3.trans u4
      have le7 : fd D1 (nt (D1 46 0 i)) 7 ≤ D1 52 0 i ↔ nt (fd D1 (nt (D1 46 0 i)) 7) ≤ nt (D1 52 0 i) := by
        have z := i3_le (nt_lt (fd D1 (nt (D1 46 0 i)) 7)) (nt_lt (D1 52 0 i))
        rw [← w7.1, ← u4] at z; exact z
      have le8 : D1 52 0 i ≤ fd D1 (nt (D1 46 0 i)) 8 ↔ nt (D1 52 0 i) ≤ nt (fd D1 (nt (D1 46 0 i)) 8) := by
        have z := i3_le (nt_lt (D1 52 0 i)) (nt_lt (fd D1 (nt (D1 46 0 i)) 8))
        rw [← w8.1, ← u4] at z; exact z
      have p7 : C1 18 (nt (D1 46 0 i)) 7 ≤ C1 1 c 7 ↔ nt (fd D1 (nt (D1 46 0 i)) 7) ≤ nt (D1 52 0 i) := by rw [q7, u3]; exact le7
      have p8 : C1 1 c 7 ≤ C1 18 (nt (D1 46 0 i)) 8 ↔ nt (D1 52 0 i) ≤ nt (fd D1 (nt (D1 46 0 i)) 8) := by rw [q8, u3]; exact le8
      rw [if_neg (Nat.lt_irrefl i)] at u10
      have same : ∀ x4, ¬ (nt (fd D1 (nt (D1 46 0 i)) 7) ≤ nt (D1 52 0 i) ∧ nt (D1 52 0 i) ≤ nt (fd D1 (nt (D1 46 0 i)) 8)) → Rel 1 (i + 1) 0 T n L ((x4, C1) : am_V × am_M).2 D1 := by
        intro x4 nq
        refine ⟨hP, hS, hF, hQ, hN, hO, hH, ⟨hC.1, hC.2.1, fun o' c' ho' hc' q => ?_⟩, hB⟩
        by_cases e : o' = i
        · subst e
          have ecc : c' = c := by
            rw [e51] at q
            exact ((i3_inj (by omega) (by omega)).mp q).symm
          subst ecc
          refine ⟨u1, u2, u3, u4, u5, u6, u7, u8, u9, ?_, u11, u12, u13, u14, u15⟩
          rw [if_pos (by omega), u10]
          congr 1
          omega
        · exact RU_ms (hC.2.2 o' c' ho' hc' q) e
      by_cases q1 : nt (fd D1 (nt (D1 46 0 i)) 7) ≤ nt (D1 52 0 i)
      · by_cases q2 : nt (D1 52 0 i) ≤ nt (fd D1 (nt (D1 46 0 i)) 8)
        · -- a reading
          have cnt : D1 56 0 i = i3 (nt (D1 52 0 i) - nt (fd D1 (nt (D1 46 0 i)) 7)) := u10
          have cb : nt (D1 52 0 i) - nt (fd D1 (nt (D1 46 0 i)) 7) < 6 := by omega
          have cntc : C1 1 c 1 = i3 (nt (D1 52 0 i) - nt (fd D1 (nt (D1 46 0 i)) 7)) := u9.trans cnt
          have ncnt : nt (D1 56 0 i) = nt (D1 52 0 i) - nt (fd D1 (nt (D1 46 0 i)) 7) := by rw [cnt]; exact nt_i (by omega)
          generalize hk : nt (D1 52 0 i) - nt (fd D1 (nt (D1 46 0 i)) 7) = k at *
          have add := qX1_addReading_1 (x0 := c) (x1 := ab (C 9 0 9)) (M := C1) (by rw [cntc]; exact hge (n := 6) rfl cb (by decide)) cb cntc
          have abd := sX10_absorbance (D1 10 0 44) (by rw [e44]; exact ex0) D1
          rw [e44, ← ec] at abd
          have ix : 6 * i3 i + D1 56 0 i = i3 (6 * i + k) := by
            rw [cnt]; show i3 6 * i3 i + i3 k = _; rw [i3_mul, i3_add]
          refine ⟨(.inr (1, c), am_put (am_put C1 13 c k (ab (C 9 0 9))) 1 c 1 (C1 1 c 1 + 1)), am_put (am_put D1 55 0 (6 * i + k) (ab (C 9 0 9))) 56 0 i (D1 56 0 i + 1), ⟨?_, e44⟩, fun m res kk => ?_, fun m res kk => ?_⟩
          · show Rel 1 (i + 1) 0 T n L (am_put (am_put C1 13 c k (ab (C 9 0 9))) 1 c 1 (C1 1 c 1 + 1)) (am_put (am_put D1 55 0 (6 * i + k) (ab (C 9 0 9))) 56 0 i (D1 56 0 i + 1))
            have cr : ∀ c' f, ¬ (c' = c ∧ f = 1) → am_put (am_put C1 13 c k (ab (C 9 0 9))) 1 c 1 (C1 1 c 1 + 1) 1 c' f = C1 1 c' f := fun c' f z => by
              rw [put_ne (fun e => z ⟨e.2.1, e.2.2⟩)]; rfl
            refine ⟨hP, hS, hF, hQ, hN, hO, hH, ⟨fun c' hc' => ?_, fun c' hc' => ?_, fun o' c' ho' hc' q => ?_⟩, hB⟩
            · rw [cr c' 8 (by omega), cr c' 9 (by omega)]; exact hC.1 c' hc'
            · rw [cr c' 5 (by omega)]; exact hC.2.1 c' hc'
            · have q' : D1 51 0 o' = i3 c' := q
              by_cases e : o' = i
              · subst e
                have ecc : c' = c := by
                  rw [e51] at q'
                  exact ((i3_inj (by omega) (by omega)).mp q').symm
                subst ecc
                have d56 : am_put (am_put D1 55 0 (6 * o' + k) (ab (C 9 0 9))) 56 0 o' (D1 56 0 o' + 1) 56 0 o' = i3 (k + 1) := by
                  rw [put_eq ⟨rfl, rfl, rfl⟩, cnt, i3_one]
                have pn : ∀ w, w < 2 → pnd1 T (am_put (am_put C1 13 c' k (ab (C 9 0 9))) 1 c' 1 (C1 1 c' 1 + 1)) (am_put (am_put D1 55 0 (6 * o' + k) (ab (C 9 0 9))) 56 0 o' (D1 56 0 o' + 1)) c' o' (nt (D1 46 0 o')) w = pnd1 T C1 D1 c' o' (nt (D1 46 0 o')) w := fun w hw => pnd1_cg hw (cr c' 4 (by omega)) rfl rfl rfl (fun _ _ => rfl)
                refine ⟨by rw [cr c' 5 (by omega)]; exact u1, u2, by rw [cr c' 7 (by omega)]; exact u3, u4, u5, u6, by rw [cr c' 6 (by omega)]; exact u7, u8, ?_, ?_, ?_, by rw [cr c' 4 (by omega)]; exact u12, u13, ?_, ?_⟩
                · rw [d56, put_eq ⟨rfl, rfl, rfl⟩, cntc, i3_one]
                · rw [d56, if_pos (by omega)]
                  show i3 (k + 1) = i3 (min (nt (D1 52 0 o')) (nt (fd D1 (nt (D1 46 0 o')) 8)) + 1 - nt (fd D1 (nt (D1 46 0 o')) 7))
                  congr 1; omega
                · rw [d56, nt_i (by omega)]
                  intro j hj
                  show am_put C1 13 c' k (ab (C 9 0 9)) 13 c' j = am_put D1 55 0 (6 * o' + k) (ab (C 9 0 9)) 55 0 (6 * o' + j)
                  by_cases ej : j = k
                  · rw [put_eq ⟨rfl, rfl, ej⟩, put_eq ⟨rfl, rfl, by omega⟩]
                  · rw [put_ne (fun z => ej z.2.2), put_ne (by omega)]
                    exact u11 j (by omega)
                · intro w hw
                  rw [cr c' 4 (by omega)]; exact u14 w hw
                · show (List.filter (fun x => x.2.2.2.2 == o') L).Perm (pnd1 T _ _ c' o' (nt (D1 46 0 o')) 0 ++ pnd1 T _ _ c' o' (nt (D1 46 0 o')) 1)
                  rw [pn 0 (by decide), pn 1 (by decide)]; exact u15
              · have u := RU_ms (hC.2.2 o' c' ho' hc' q') e
                have ecc : ¬ c' = c := fun z => by
                  rw [z] at u
                  have := u.1
                  rw [u1] at this
                  exact e ((i3_inj (by omega) (by omega)).mp this.symm)
                have run' := c_run hO ho' hc' q'
                have c6 := cnt6 u (hO.2.2.2.2.2.2.2.2.2 o' ho' (by rw [run']; decide))
                refine RU_cg u (fun f _ => cr c' f (by omega)) (fun j => ?_) (fun j => rfl) (fun j => rfl) rfl rfl rfl ?_ (fun j hj => ?_) (fun f _ => rfl) rfl
                · show am_put C1 13 c k (ab (C 9 0 9)) 13 c' j = _
                  rw [put_ne (fun z => ecc z.2.1)]
                · rw [put_ne (fun z => e z.2.2)]; rfl
                · show am_put D1 55 0 (6 * i + k) (ab (C 9 0 9)) 55 0 (6 * o' + j) = _
                  rw [put_ne (by omega)]
          · exact qX9_takeReadings_10_2 g1 i40 cv hc t4 et ⟨p7.mpr q1, p8.mpr q2⟩ add kk
          · exact qX10_measure_2_3 g2 i40 run t4 et' (i3_nlt.mpr (le7.mpr q1)) (i3_nlt.mpr (le8.mpr q2)) (by rw [e44, ← ec]; exact abd) (j4 := 6 * i + k) (by omega) ix kk
        · refine ⟨(.inr (1, c), C1), D1, ⟨same _ (fun z => q2 z.2), e44⟩, fun m res kk => qX9_takeReadings_10_1 g1 i40 cv hc t4 et (fun z => q2 (p8.mp z.2)) kk, fun m res kk => mX10_measure (qX10_measure_2_2 g2 i40 run t4 et' (i3_nlt.mpr (le7.mpr q1)) (i3_nle.mp (fun z => q2 (le8.mp z))) kk) (by omega)⟩
      · refine ⟨(.inr (1, c), C1), D1, ⟨same _ (fun z => q1 z.1), e44⟩, fun m res kk => qX9_takeReadings_10_1 g1 i40 cv hc t4 et (fun z => q1 (p7.mp z.1)) kk, fun m res kk => mX10_measure (qX10_measure_2_1 g2 i40 run t4 et' (i3_nle.mp (fun z => q1 (le7.mp z))) kk) (by omega)⟩
    · have e51 := hO.2.2.2.2.2.2.2.1 i hi run
      refine ⟨(.inl .null, C1), D1, ⟨⟨hP, hS, hF, hQ, hN, hO, hH, ⟨hC.1, hC.2.1, fun o' c' ho' hc' q => RU_ms (hC.2.2 o' c' ho' hc' q) (fun e => ?_)⟩, hB⟩, e44⟩, fun m res kk => mX9_takeReadings (qX9_takeReadings_10_3 g1 i40 (sX9_cuvetteOf0 i C1 (e7.trans e51)) kk) (by omega), fun m res kk => mX10_measure (qX10_measure_2_4 g2 i40 run kk) (by omega)⟩
      rw [e, e51] at q
      exact i3_nm (by omega) q.symm
