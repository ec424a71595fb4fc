/-! ===== an order leaves its cuvette ===== -/
theorem RC_leave {lo lo' ms ms' jd jd' T n o c : Nat} {L L' : List Bk} {C D C' D' : am_M} (hC : RC lo ms jd T n L C D) (ho : o < n) (hc : c < 10) (h40 : n ≤ 40) (e51 : D 51 0 o = i3 c)
    (c5 : C' 1 c 5 = -1) (c8 : C' 1 c 8 = 3) (c9 : C' 1 c 9 = 0) (cr : ∀ c' f, ¬ c' = c → C' 1 c' f = C 1 c' f)
    (d59c : D' 59 0 c = 3) (d60c : D' 60 0 c = 0) (d59 : ∀ c', ¬ c' = c → D' 59 0 c' = D 59 0 c') (d60 : ∀ c', ¬ c' = c → D' 60 0 c' = D 60 0 c')
    (d51o : D' 51 0 o = -1) (d51 : ∀ o', ¬ o' = o → D' 51 0 o' = D 51 0 o') (d46 : D' 46 = D 46)
    (hU : ∀ o' c', o' < n → c' < 10 → ¬ o' = o → ¬ c' = c → D 51 0 o' = i3 c' → RU lo ms jd T L C D c' o' (nt (D 46 0 o')) → RU lo' ms' jd' T L' C' D' c' o' (nt (D 46 0 o'))) : RC lo' ms' jd' T n L' C' D' := by
  have u0 := (hC.2.2 o c ho hc e51).1
  refine ⟨fun c' hc' => ?_, fun c' hc' => ?_, fun o' c' ho' hc' q => ?_⟩
  · by_cases e : c' = c
    · subst e
      rw [c8, c9, d59c, d60c]
      exact ⟨rfl, wi_of (k := 3) (by decide) (by decide), rfl⟩
    · rw [cr c' 8 e, cr c' 9 e, d59 c' e, d60 c' e]; exact hC.1 c' hc'
  · by_cases e : c' = c
    · subst e; exact Or.inl c5
    · rw [cr c' 5 e]
      rcases hC.2.1 c' hc' with q | ⟨o', ho', q1, q2⟩
      · exact Or.inl q
      · refine Or.inr ⟨o', ho', q1, ?_⟩
        have : ¬ o' = o := fun eo => by
          rw [eo, e51] at q2
          exact e ((i3_inj (by omega) (by omega)).mp q2.symm)
        rw [d51 o' this]; exact q2
  · by_cases eo : o' = o
    · rw [eo, d51o] at q
      exact absurd q.symm (i3_nm (by omega))
    · rw [d51 o' eo] at q
      have u := hC.2.2 o' c' ho' hc' q
      have ec : ¬ c' = c := fun e => by
        rw [e] at u
        have := u.1
        rw [u0] at this
        exact eo ((i3_inj (by omega) (by omega)).mp this.symm)
      rw [d46]
      exact hU o' c' ho' hc' eo ec q u
theorem pnd_mem {lo ms jd T c o t w : Nat} {L : List Bk} {C D : am_M} (h : RU lo ms jd T L C D c o t) (hw : w < 2) (h1 : nt (C 1 c 4) ≤ w) (h2 : ¬ C 14 c w = -1) : (T + nt (fd D t (3 + 3 * w)) - nt (D 52 0 o), nt (fd D t (1 + 3 * w)), nt (C 14 c w), nt (C 15 c w), o) ∈ L := by
  have u15 := h.2.2.2.2.2.2.2.2.2.2.2.2.2.2
  have m : (T + nt (fd D t (3 + 3 * w)) - nt (D 52 0 o), nt (fd D t (1 + 3 * w)), nt (C 14 c w), nt (C 15 c w), o) ∈ pnd1 T C D c o t w := by
    unfold pnd1
    rw [if_pos ⟨h1, h2⟩]
    exact List.mem_singleton.mpr rfl
  have m2 : (T + nt (fd D t (3 + 3 * w)) - nt (D 52 0 o), nt (fd D t (1 + 3 * w)), nt (C 14 c w), nt (C 15 c w), o) ∈ pnd1 T C D c o t 0 ++ pnd1 T C D c o t 1 := by
    rcases Nat.lt_or_ge w 1 with l | l
    · rw [show w = 0 by omega] at m ⊢; exact List.mem_append_left _ m
    · rw [show w = 1 by omega] at m ⊢; exact List.mem_append_right _ m
  exact (List.mem_filter.mp (u15.mem_iff.mpr m2)).1
theorem RU_lo {lo ms jd T c o t : Nat} {L : List Bk} {C D : am_M} (h : RU lo ms jd T L C D c o t) (hs : ∀ x, x ∈ L → x.2.2.2.2 = o → T + 1 ≤ x.1) : RU 1 ms jd T L C D c o t := by
  have pm := fun w hw h1 h2 => hs _ (pnd_mem h (w := w) hw h1 h2) rfl
  obtain ⟨u1, u2, u3, u4, u5, u6, u7, u8, u9, u10, u11, u12, u13, u14, u15⟩ := h
  refine ⟨u1, u2, u3, u4, u5, u6, u7, u8, u9, u10, u11, u12, u13, fun w hw h1 h2 => ?_, u15⟩
  have a := u14 w hw h1 h2
  have b : T + 1 ≤ T + nt (fd D t (3 + 3 * w)) - nt (D 52 0 o) := pm w hw h1 h2
  omega
theorem rel_cg {d d' : Nat → Int32} : ∀ k, (∀ i, i < k → (d' i = 2 ↔ d i = 2)) → rel d' k = rel d k
  | 0, _ => rfl
  | k + 1, h => by
    unfold rel
    rw [rel_cg k (fun i hi => h i (by omega))]
    by_cases e : d k = 2
    · rw [if_pos e, if_pos ((h k (by omega)).mpr e)]
    · rw [if_neg e, if_neg (fun q => e ((h k (by omega)).mp q))]
theorem sub_aux {x : Int32} (h : x = i3 (nt x)) (q : Nat) : i3 (nt x + q) - x = i3 q := by
  have : i3 (nt x + q) - i3 (nt x) = i3 q := by
    rw [i3_sub (by omega)]
    congr 1; omega
  rw [← h] at this
  exact this
/-- one round of the class's giving back of what is reserved -/
theorem brk_w {lo ms jd T c o t w n : Nat} {L : List Bk} {C D M : am_M} {x1 x2 : Int32} (hu : RU lo ms jd T L C D c o t) (hw : w < 2) (hg : nt (C 1 c 4) ≤ w) (e14 : M 14 = C 14) (e15 : M 15 = C 15) : ∃ M', (∀ k, ¬ k = 5 → M' k = M k) ∧ (∀ p f, ¬ f = 2 → M' 5 p f = M 5 p f) ∧ (∀ Q : List Bk, (∀ p, p < 8 → M 5 p 2 = i3 (rsv (pnd1 T C D c o t w ++ Q) p)) → wi (C 15 c w) 2000 → ∀ p, p < 8 → M' 5 p 2 = i3 (rsv Q p)) ∧ ∀ m res, rX9_breakOff m 13 [.inr (9, 0), .inl (.int x1), .inl (.int x2), .inr (1, c), .inl (.int (i3 (w + 1)))] [] M' = some res → rX9_breakOff (m + 200) 13 [.inr (9, 0), .inl (.int x1), .inl (.int x2), .inr (1, c), .inl (.int (i3 w))] [] M = some res := by
  have hs := (hu.2.2.2.2.2.2.2.2.2.2.2.2.1 w hw).1
  have g2 : ¬ (2 : Int32) ≤ i3 w := hge (n := 2) rfl hw (by decide)
  rcases hs with ⟨s1, _⟩ | ⟨s1, _⟩
  · refine ⟨M, fun _ _ => rfl, fun _ _ _ => rfl, fun Q hQ _ p hp => ?_, fun m res k => ?_⟩
    · have e : pnd1 T C D c o t w = [] := by unfold pnd1; rw [if_neg (fun q => q.2 s1)]
      have := hQ p hp
      rw [e] at this
      exact this
    · refine qX9_breakOff_13_2 g2 hw rfl (fun q => ?_) (by rw [i3_one]; exact k)
      rw [e14, s1] at q
      exact absurd q.1 (by decide)
  · have es : C 14 c w = i3 (nt (C 14 c w)) := s1.1
    have ns : ¬ C 14 c w = -1 := by rw [es]; exact i3_nm (nt_lt _)
    have p8 : nt (C 14 c w) < 8 := by have := s1.2; omega
    refine ⟨am_put M 5 (nt (C 14 c w)) 2 (M 5 (nt (C 14 c w)) 2 - M 15 c w), fun k q => ?_, fun p f q => put_ne (fun e => q e.2.2), fun Q hQ wd p hp => ?_, fun m res k => ?_⟩
    · funext u v; rw [put_ne (fun e => q e.1)]
    · have e : pnd1 T C D c o t w = [(T + nt (fd D t (3 + 3 * w)) - nt (D 52 0 o), nt (fd D t (1 + 3 * w)), nt (C 14 c w), nt (C 15 c w), o)] := by unfold pnd1; rw [if_pos ⟨hg, ns⟩]
      have hq := hQ p hp
      rw [e, rsv_app] at hq
      by_cases ep : p = nt (C 14 c w)
      · rw [ep, put_eq ⟨rfl, rfl, rfl⟩, ← ep, hq, e15]
        have r1 : rsv [(T + nt (fd D t (3 + 3 * w)) - nt (D 52 0 o), nt (fd D t (1 + 3 * w)), nt (C 14 c w), nt (C 15 c w), o)] p = nt (C 15 c w) := by
          show (if nt (C 14 c w) = p then nt (C 15 c w) else 0) + 0 = _
          rw [if_pos ep.symm]; rfl
        rw [r1]
        exact sub_aux wd.1 _
      · rw [put_ne (fun q => ep q.2.1), hq]
        have r1 : rsv [(T + nt (fd D t (3 + 3 * w)) - nt (D 52 0 o), nt (fd D t (1 + 3 * w)), nt (C 14 c w), nt (C 15 c w), o)] p = 0 := by
          show (if nt (C 14 c w) = p then nt (C 15 c w) else 0) + 0 = _
          rw [if_neg (fun q => ep q.symm)]
        rw [r1, Nat.zero_add]
    · refine qX9_breakOff_13_3 (j3 := nt (C 14 c w)) g2 hw rfl ?_ p8 (by rw [e14]; exact es) (by rw [i3_one]; exact k)
      rw [e14, es]
      exact ⟨i3_ge (nt_lt _), (i3_le (b := 7) (nt_lt _) (by decide)).mpr (by omega)⟩
theorem sX9_breakOff {lo ms jd T c o t n : Nat} {L : List Bk} {C D : am_M} {x2 : Int32} (hu : RU lo ms jd T L C D c o t) (hc : c < 10) (ho : o < n) (h40 : n ≤ 40) (e97 : C 9 0 7 = i3 n) (w0 : wi (C 15 c 0) 2000) (w1 : wi (C 15 c 1) 2000) (hQ : ∀ p, p < 8 → C 5 p 2 = i3 (rsv L p)) : ∃ C', fX9_breakOff [.inr (9, 0), .inl (.int (i3 c)), .inl (.int x2)] C = am_rV C' ∧ (∀ k, ¬ k = 1 → ¬ k = 4 → ¬ k = 5 → ¬ k = 19 → ¬ k = 20 → C' k = C k) ∧ (∀ p f, ¬ f = 2 → C' 5 p f = C 5 p f) ∧ (∀ p, p < 8 → C' 5 p 2 = i3 (rsv (oth o L) p)) ∧ (∀ i, C' 19 0 i = if 1 ≤ i ∧ i < 13 ∧ C 20 0 i = i3 c then -1 else C 19 0 i) ∧ (∀ i, C' 20 0 i = if 1 ≤ i ∧ i < 13 ∧ C 20 0 i = i3 c then -1 else C 20 0 i) ∧ C' 1 c 5 = -1 ∧ C' 1 c 8 = 3 ∧ C' 1 c 9 = 0 ∧ (∀ c' f, ¬ c' = c → C' 1 c' f = C 1 c' f) ∧ (∀ o' f, ¬ o' = o → C' 4 o' f = C 4 o' f) ∧
    (C 4 o 5 = 1 → ∀ f, C' 4 o f = if f = 3 then 0 else if f = 7 then -1 else if f = 6 then 0 else C 4 o f) ∧ (¬ C 4 o 5 = 1 → ∀ f, C' 4 o f = if f = 3 then 3 else if f = 4 then x2 else if f = 7 then -1 else C 4 o f) := by
  have eg : C 1 c 4 = i3 (nt (C 1 c 4)) := hu.2.2.2.2.2.2.2.2.2.2.2.1.1
  have g2 : nt (C 1 c 4) ≤ 2 := hu.2.2.2.2.2.2.2.2.2.2.2.1.2
  have pm := hu.2.2.2.2.2.2.2.2.2.2.2.2.2.2
  have sp : ∀ p, rsv L p = rsv (pnd1 T C D c o t 0 ++ (pnd1 T C D c o t 1 ++ oth o L)) p := by
    intro p
    rw [rsv_split p o L, rsv_perm p pm, rsv_app, rsv_app, rsv_app, Nat.add_assoc]
  have tail : ∀ M0 : am_M, (∀ k, ¬ k = 5 → M0 k = C k) → (∀ p f, ¬ f = 2 → M0 5 p f = C 5 p f) → (∀ p, p < 8 → M0 5 p 2 = i3 (rsv (oth o L) p)) → ∃ C', (∀ m, rX9_breakOff (m + 400) 13 [.inr (9, 0), .inl (.int (i3 c)), .inl (.int x2), .inr (1, c), .inl (.int (i3 2))] [] M0 = am_rV C') ∧ (∀ k, ¬ k = 1 → ¬ k = 4 → ¬ k = 5 → ¬ k = 19 → ¬ k = 20 → C' k = C k) ∧ (∀ p f, ¬ f = 2 → C' 5 p f = C 5 p f) ∧ (∀ p, p < 8 → C' 5 p 2 = i3 (rsv (oth o L) p)) ∧ (∀ i, C' 19 0 i = if 1 ≤ i ∧ i < 13 ∧ C 20 0 i = i3 c then -1 else C 19 0 i) ∧ (∀ i, C' 20 0 i = if 1 ≤ i ∧ i < 13 ∧ C 20 0 i = i3 c then -1 else C 20 0 i) ∧ C' 1 c 5 = -1 ∧ C' 1 c 8 = 3 ∧ C' 1 c 9 = 0 ∧ (∀ c' f, ¬ c' = c → C' 1 c' f = C 1 c' f) ∧ (∀ o' f, ¬ o' = o → C' 4 o' f = C 4 o' f) ∧
    (C 4 o 5 = 1 → ∀ f, C' 4 o f = if f = 3 then 0 else if f = 7 then -1 else if f = 6 then 0 else C 4 o f) ∧ (¬ C 4 o 5 = 1 → ∀ f, C' 4 o f = if f = 3 then 3 else if f = 4 then x2 else if f = 7 then -1 else C 4 o f) := by
    intro M0 m1 m2 m3
    obtain ⟨M1, k1, k2, k3, k4⟩ := sX7_cancel M0 c
    rw [m1 20 (by decide), m1 19 (by decide)] at k3
    rw [m1 20 (by decide)] at k4
    have r15 : M1 1 c 5 = i3 o := by rw [k2 1 (by decide) (by decide), m1 1 (by decide)]; exact hu.1
    have r97 : M1 9 0 7 = i3 n := by rw [k2 9 (by decide) (by decide), m1 9 (by decide)]; exact e97
    have r4 : M1 4 = C 4 := by rw [k2 4 (by decide) (by decide), m1 4 (by decide)]
    have rg : 0 ≤ M1 1 c 5 ∧ M1 1 c 5 ≤ M1 9 0 7 - 1 := by
      rw [r15, r97, show (1 : Int32) = i3 1 from rfl, i3_sub (by omega)]
      exact ⟨i3_ge (by omega), (i3_le (by omega) (by omega)).mpr (by omega)⟩
    have ns : ∀ M3 : am_M, (∀ k, ¬ k = 4 → M3 k = M1 k) → ∀ k, ¬ k = 1 → ¬ k = 4 → ¬ k = 5 → ¬ k = 19 → ¬ k = 20 → (am_put (am_put (am_put M3 1 c 5 (-1)) 1 c 9 0) 1 c 8 3) k = C k := by
      intro M3 q k a b d e f
      rw [← m1 k d, ← k2 k e f, ← q k b]
      funext u v
      rw [put_ne (fun e => a e.1), put_ne (fun e => a e.1), put_ne (fun e => a e.1)]
    have fin : ∀ M3 : am_M, fX4_breakOff [.inr (4, o), .inl (.int x2)] M1 = am_rV M3 → (∀ k, ¬ k = 4 → M3 k = M1 k) → (∀ o' f, ¬ o' = o → M3 4 o' f = C 4 o' f) → (C 4 o 5 = 1 → ∀ f, M3 4 o f = if f = 3 then 0 else if f = 7 then -1 else if f = 6 then 0 else C 4 o f) → (¬ C 4 o 5 = 1 → ∀ f, M3 4 o f = if f = 3 then 3 else if f = 4 then x2 else if f = 7 then -1 else C 4 o f) → _ := fun M3 hb q1 q2 q3 q4 =>
      (⟨am_put (am_put (am_put M3 1 c 5 (-1)) 1 c 9 0) 1 c 8 3, fun m => qX9_breakOff_13_1 (x1 := i3 c) (x2 := x2) (x4 := i3 2) (by decide) k1 rg (by omega) r15 hb, ns M3 q1,
        fun p f hf => (congrFun (congrFun (q1 5 (by decide)) p) f).trans ((congrFun (congrFun (k2 5 (by decide) (by decide)) p) f).trans (m2 p f hf)),
        fun p hp => (congrFun (congrFun (q1 5 (by decide)) p) 2).trans ((congrFun (congrFun (k2 5 (by decide) (by decide)) p) 2).trans (m3 p hp)),
        fun i => (congrFun (congrFun (q1 19 (by decide)) 0) i).trans (k3 i), fun i => (congrFun (congrFun (q1 20 (by decide)) 0) i).trans (k4 i),
        by rw [put_ne (by omega), put_ne (by omega), put_eq ⟨rfl, rfl, rfl⟩], put_eq ⟨rfl, rfl, rfl⟩, by rw [put_ne (by omega), put_eq ⟨rfl, rfl, rfl⟩],
        fun c' f hc' => by rw [put_ne (fun e => hc' e.2.1), put_ne (fun e => hc' e.2.1), put_ne (fun e => hc' e.2.1), q1 1 (by decide), k2 1 (by decide) (by decide), m1 1 (by decide)],
        q2, q3, q4⟩ : ∃ C', (∀ m, rX9_breakOff (m + 400) 13 [.inr (9, 0), .inl (.int (i3 c)), .inl (.int x2), .inr (1, c), .inl (.int (i3 2))] [] M0 = am_rV C') ∧ (∀ k, ¬ k = 1 → ¬ k = 4 → ¬ k = 5 → ¬ k = 19 → ¬ k = 20 → C' k = C k) ∧ (∀ p f, ¬ f = 2 → C' 5 p f = C 5 p f) ∧ (∀ p, p < 8 → C' 5 p 2 = i3 (rsv (oth o L) p)) ∧ (∀ i, C' 19 0 i = if 1 ≤ i ∧ i < 13 ∧ C 20 0 i = i3 c then -1 else C 19 0 i) ∧ (∀ i, C' 20 0 i = if 1 ≤ i ∧ i < 13 ∧ C 20 0 i = i3 c then -1 else C 20 0 i) ∧ C' 1 c 5 = -1 ∧ C' 1 c 8 = 3 ∧ C' 1 c 9 = 0 ∧ (∀ c' f, ¬ c' = c → C' 1 c' f = C 1 c' f) ∧ (∀ o' f, ¬ o' = o → C' 4 o' f = C 4 o' f) ∧
    (C 4 o 5 = 1 → ∀ f, C' 4 o f = if f = 3 then 0 else if f = 7 then -1 else if f = 6 then 0 else C 4 o f) ∧ (¬ C 4 o 5 = 1 → ∀ f, C' 4 o f = if f = 3 then 3 else if f = 4 then x2 else if f = 7 then -1 else C 4 o f))
    by_cases e : C 4 o 5 = 1
    · refine fin _ (qX4_breakOff_0 (by rw [r4]; exact e)) (fun k q => ?_) (fun o' f q => ?_) (fun _ f => ?_) (fun q => absurd e q)
      · funext u v; rw [put_ne (fun e => q e.1), put_ne (fun e => q e.1), put_ne (fun e => q e.1)]
      · rw [put_ne (fun e => q e.2.1), put_ne (fun e => q e.2.1), put_ne (fun e => q e.2.1), r4]
      · by_cases f3 : f = 3
        · rw [f3, put_ne (by omega), put_ne (by omega), put_eq ⟨rfl, rfl, rfl⟩]; rfl
        · rw [if_neg f3]
          by_cases f7 : f = 7
          · rw [f7, put_ne (by omega), put_eq ⟨rfl, rfl, rfl⟩]; rfl
          · rw [if_neg f7]
            by_cases f6 : f = 6
            · rw [f6, put_eq ⟨rfl, rfl, rfl⟩]; rfl
            · rw [if_neg f6, put_ne (by omega), put_ne (by omega), put_ne (by omega), r4]
    · refine fin _ (qX4_breakOff_1 (by rw [r4]; exact e)) (fun k q => ?_) (fun o' f q => ?_) (fun q => absurd q e) (fun _ f => ?_)
      · funext u v; rw [put_ne (fun e => q e.1), put_ne (fun e => q e.1), put_ne (fun e => q e.1)]
      · rw [put_ne (fun e => q e.2.1), put_ne (fun e => q e.2.1), put_ne (fun e => q e.2.1), r4]
      · by_cases f3 : f = 3
        · rw [f3, put_ne (by omega), put_ne (by omega), put_eq ⟨rfl, rfl, rfl⟩]; rfl
        · rw [if_neg f3]
          by_cases f4 : f = 4
          · rw [f4, put_ne (by omega), put_eq ⟨rfl, rfl, rfl⟩]; rfl
          · rw [if_neg f4]
            by_cases f7 : f = 7
            · rw [f7, put_eq ⟨rfl, rfl, rfl⟩]; rfl
            · rw [if_neg f7, put_ne (by omega), put_ne (by omega), put_ne (by omega), r4]
  have go : ∀ C', rX9_breakOff 99900 13 [.inr (9, 0), .inl (.int (i3 c)), .inl (.int x2), .inr (1, c), .inl (.int (C 1 c 4))] [] C = am_rV C' → fX9_breakOff [.inr (9, 0), .inl (.int (i3 c)), .inl (.int x2)] C = am_rV C' := fun C' k => qX9_breakOff_0 hc rfl k
  have p1e : ∀ w, ¬ nt (C 1 c 4) ≤ w → pnd1 T C D c o t w = [] := fun w q => by unfold pnd1; rw [if_neg (fun r => q r.1)]
  rcases Nat.lt_or_ge (nt (C 1 c 4)) 1 with g0 | g0
  · obtain ⟨Ma, a1, a2, a3, a4⟩ := brk_w (x1 := i3 c) (x2 := x2) (n := n) (w := 0) (M := C) hu (by decide) (by omega) rfl rfl
    obtain ⟨Mb, b1, b2, b3, b4⟩ := brk_w (x1 := i3 c) (x2 := x2) (n := n) (w := 1) (M := Ma) hu (by decide) (by omega) (a1 14 (by decide)) (a1 15 (by decide))
    obtain ⟨C', t0, t⟩ := tail Mb (fun k q => (b1 k q).trans (a1 k q)) (fun p f q => (b2 p f q).trans (a2 p f q)) (b3 _ (a3 _ (fun p hp => by rw [hQ p hp, sp p]) w0) w1)
    refine ⟨C', go C' ?_, t⟩
    rw [eg, show nt (C 1 c 4) = 0 by omega]
    exact a4 99700 _ (b4 99500 _ (t0 99100))
  · rcases Nat.lt_or_ge (nt (C 1 c 4)) 2 with g1 | g1
    · obtain ⟨Mb, b1, b2, b3, b4⟩ := brk_w (x1 := i3 c) (x2 := x2) (n := n) (w := 1) (M := C) hu (by decide) (by omega) rfl rfl
      obtain ⟨C', t0, t⟩ := tail Mb b1 b2 (b3 _ (fun p hp => by
        rw [hQ p hp, sp p, p1e 0 (by omega)]; rfl) w1)
      refine ⟨C', go C' ?_, t⟩
      rw [eg, show nt (C 1 c 4) = 1 by omega]
      exact b4 99700 _ (t0 99300)
    · obtain ⟨C', t0, t⟩ := tail C (fun _ _ => rfl) (fun _ _ _ => rfl) (fun p hp => by
        rw [hQ p hp, sp p, p1e 0 (by omega), p1e 1 (by omega)]; rfl)
      refine ⟨C', go C' ?_, t⟩
      rw [eg, show nt (C 1 c 4) = 2 by omega]
      exact t0 99500
