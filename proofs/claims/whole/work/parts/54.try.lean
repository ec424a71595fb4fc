/-! ===== the try of one order ===== -/
theorem sX9_reserve {c w : Nat} {v x : Int32} (M : am_M) (hw : w < 2) (hv : v = -1 ∨ wi v 7) :
    ∃ M', fX9_reserve [.inr (9, 0), .inr (1, c), .inl (.int (i3 w)), .inl (.int v), .inl (.int x)] M = am_rV M' ∧ (∀ k, ¬ k = 5 → ¬ k = 14 → ¬ k = 15 → M' k = M k) ∧ M' 14 c w = v ∧ M' 15 c w = x ∧
      (∀ c' j, ¬ (c' = c ∧ j = w) → M' 14 c' j = M 14 c' j ∧ M' 15 c' j = M 15 c' j) ∧ (∀ p f, ¬ f = 2 → M' 5 p f = M 5 p f) ∧ (∀ p, p < 8 → M' 5 p 2 = if v = i3 p then M 5 p 2 + x else M 5 p 2) := by
  rcases hv with e | e
  · refine ⟨_, qX9_reserve_0 hw rfl e, fun k h1 h2 h3 => ?_, ?_, ?_, fun c' j hn => ⟨?_, ?_⟩, fun p f hf => ?_, fun p hp => ?_⟩
    · funext i f; rw [am_put_nk h3, am_put_nk h2]
    · rw [am_put_nk (by decide), am_put_i]
    · rw [am_put_i]
    · rw [am_put_nk (by decide), put_ne (fun q => hn q.2)]
    · rw [put_ne (fun q => hn q.2), am_put_nk (by decide)]
    · rw [am_put_nk (by decide), am_put_nk (by decide)]
    · rw [am_put_nk (by decide), am_put_nk (by decide), if_neg (by rw [e]; exact fun q => i3_nm (by omega) q.symm)]
  · have e7 := e.2
    refine ⟨_, qX9_reserve_1 (j2 := nt v) hw rfl (by rw [e.1]; exact i3_nm (nt_lt _)) (by omega) e.1, fun k h1 h2 h3 => ?_, ?_, ?_, fun c' j hn => ⟨?_, ?_⟩, fun p f hf => ?_, fun p hp => ?_⟩
    · funext i f; rw [am_put_nk h1, am_put_nk h3, am_put_nk h2]
    · rw [am_put_nk (by decide), am_put_nk (by decide), am_put_i]
    · rw [am_put_nk (by decide), am_put_i]
    · rw [am_put_nk (by decide), am_put_nk (by decide), put_ne (fun q => hn q.2)]
    · rw [am_put_nk (by decide), put_ne (fun q => hn q.2), am_put_nk (by decide)]
    · rw [am_put_nf hf, am_put_nk (by decide), am_put_nk (by decide)]
    · by_cases q : v = i3 p
      · have en : nt v = p := by rw [q]; exact nt_i (by omega)
        rw [if_pos q, en, am_put_i]
      · have ne : ¬ p = nt v := fun z => q (by rw [z]; exact e.1)
        rw [if_neg q, am_put_ni ne, am_put_nk (by decide), am_put_nk (by decide)]
/-- the reference's memory after a run began -/
def bg (D : am_M) (o c : Nat) (ct : Int32) : am_M := am_put (am_put (am_put (am_put (am_put (am_put D 48 0 o 1) 50 0 o (D 50 0 o + 1)) 51 0 o (i3 c)) 52 0 o 0) 56 0 o 0) 54 0 o ct
theorem sX10_start {o s c : Nat} {vol : Int32} (D : am_M) (ho : o < 40) (hs : s < 6) (hc : c < 10) (hct : D 38 0 s = 0 ∨ D 38 0 s = 1) :
    (am_b (D 10 0 46) = 0 → fX10_start [.inr (10, 0), .inl (.int (i3 o)), .inl (.int (i3 s)), .inl (.int (i3 c)), .inl (.int vol)] D = am_rV (am_put (am_put (bg D o c (D 38 0 s)) 39 0 s (D 39 0 s - vol)) 60 0 c vol)) ∧
    (¬ am_b (D 10 0 46) = 0 → ∀ M3, fX10_breaksOff [.inr (10, 0), .inl (.int (i3 o)), .inl (.int 3)] (am_put (bg D o c (D 38 0 s)) 10 0 46 0) = am_rV M3 → fX10_start [.inr (10, 0), .inl (.int (i3 o)), .inl (.int (i3 s)), .inl (.int (i3 c)), .inl (.int vol)] D = am_rV M3) := by
  rcases hct with e | e
  · have ne : ¬ D 38 0 s = 1 := by rw [e]; decide
    rw [e]
    exact ⟨fun h => qX10_start_2 ho rfl hs rfl ne h hc rfl, fun h M3 k => qX10_start_3 ho rfl hs rfl ne h k⟩
  · rw [e]
    exact ⟨fun h => qX10_start_0 ho rfl hs rfl e h hc rfl, fun h M3 k => qX10_start_1 ho rfl hs rfl e h k⟩
theorem bg_k {D : am_M} {o c : Nat} {ct : Int32} : (∀ k, ¬ k = 48 → ¬ k = 50 → ¬ k = 51 → ¬ k = 52 → ¬ k = 54 → ¬ k = 56 → bg D o c ct k = D k) ∧ bg D o c ct 48 0 o = 1 ∧ bg D o c ct 50 0 o = D 50 0 o + 1 ∧ bg D o c ct 51 0 o = i3 c ∧ bg D o c ct 52 0 o = 0 ∧ bg D o c ct 54 0 o = ct ∧ bg D o c ct 56 0 o = 0 ∧
    (∀ o', ¬ o' = o → ∀ k, bg D o c ct k 0 o' = D k 0 o') := by
  unfold bg
  refine ⟨fun k h1 h2 h3 h4 h5 h6 => ?_, ?_, ?_, ?_, ?_, ?_, ?_, fun o' ne k => ?_⟩
  · funext i f; rw [am_put_nk h5, am_put_nk h6, am_put_nk h4, am_put_nk h3, am_put_nk h2, am_put_nk h1]
  · rw [am_put_nk (by decide), am_put_nk (by decide), am_put_nk (by decide), am_put_nk (by decide), am_put_nk (by decide), am_put_i]
  · rw [am_put_nk (by decide), am_put_nk (by decide), am_put_nk (by decide), am_put_nk (by decide), am_put_i]
  · rw [am_put_nk (by decide), am_put_nk (by decide), am_put_nk (by decide), am_put_i]
  · rw [am_put_nk (by decide), am_put_nk (by decide), am_put_i]
  · rw [am_put_i]
  · rw [am_put_nk (by decide), am_put_i]
  · rw [am_put_nf ne, am_put_nf ne, am_put_nf ne, am_put_nf ne, am_put_nf ne, am_put_nf ne]
/-- the sample is taken -/
theorem Rel_vol {T n s c : Nat} {L : List Bk} {C D : am_M} {vol : Int32} (h : Rel 1 40 40 T n L C D) (hs : s < 6) (hc : c < 10) (hv : 0 ≤ vol) (hle : vol ≤ D 39 0 s) :
    Rel 1 40 40 T n L (am_put (am_put C 8 s 2 (C 8 s 2 - vol)) 1 c 9 vol) (am_put (am_put D 39 0 s (D 39 0 s - vol)) 60 0 c vol) := by
  obtain ⟨hP, hS, hF, hQ, hN, hO, hH, hC, hB⟩ := h
  refine ⟨hP, ?_, hF, hQ, hN, hO, hH, ?_, hB⟩
  · intro s' hs'
    have q := hS s' hs'
    have c0 : ∀ f, ¬ f = 2 → am_put (am_put C 8 s 2 (C 8 s 2 - vol)) 1 c 9 vol 8 s' f = C 8 s' f := fun f hf => by rw [am_put_nk (by decide), am_put_nf hf]
    rw [c0 0 (by decide), c0 1 (by decide)]
    refine ⟨q.1, q.2.1, q.2.2.1, ?_, ?_⟩
    · rw [am_put_nk (by decide), am_put_nk (k' := 39) (by decide)]
      by_cases e : s' = s
      · subst e; rw [am_put_i, am_put_i, q.2.2.2.1]
      · rw [am_put_ni e, am_put_nf e]; exact q.2.2.2.1
    · rw [am_put_nk (by decide)]
      by_cases e : s' = s
      · subst e; rw [am_put_i]
        have w := q.2.2.2.2
        have vw := i3_of hv
        have hle' : i3 vol.toNatClampNeg ≤ i3 (nt (D 39 0 s')) := by rw [← vw, ← w.1]; exact hle
        have l := (i3_le (Int32.toNatClampNeg_lt _) (nt_lt _)).1 hle'
        rw [vw, w.1, i3_sub l]
        exact wi_of (by have := w.2; omega) (by decide)
      · rw [am_put_nf e]; exact q.2.2.2.2
  · obtain ⟨r1, r2, r3⟩ := hC
    have c0 : ∀ c' f, ¬ f = 9 → am_put (am_put C 8 s 2 (C 8 s 2 - vol)) 1 c 9 vol 1 c' f = C 1 c' f := fun c' f hf => by rw [am_put_nf hf, am_put_nk (by decide)]
    refine ⟨fun c' h' => ?_, fun c' h' => ?_, fun o' c' ho' hc' e => ?_⟩
    · have q := r1 c' h'
      rw [c0 c' 8 (by decide)]
      refine ⟨q.1, q.2.1, ?_⟩
      by_cases e : c' = c
      · subst e; rw [am_put_i, am_put_i]
      · rw [am_put_ni e, am_put_nf e, am_put_nk (by decide), am_put_nk (by decide)]; exact q.2.2
    · rw [c0 c' 5 (by decide)]; exact r2 c' h'
    · exact RU_cg (r3 o' c' ho' hc' e) (fun f hf => c0 c' f (by omega)) (fun _ => rfl) (fun _ => rfl) (fun _ => rfl) rfl rfl rfl rfl (fun _ _ => rfl) (fun _ _ => rfl) rfl
theorem oth_back {o : Nat} {L L1 : List Bk} (h1 : ∀ x, x ∈ L → ¬ x.2.2.2.2 = o) (h2 : ∀ x, x ∈ L1 → x.2.2.2.2 = o) : oth o (L ++ L1) = L := by
  have a : ∀ (l : List Bk), (∀ x, x ∈ l → ¬ x.2.2.2.2 = o) → oth o l = l := by
    intro l h
    exact List.filter_eq_self.2 (fun x hx => by
      have : ¬ (x.2.2.2.2 == o) = true := fun q => h x hx (eq_of_beq q)
      cases hb : (x.2.2.2.2 == o)
      · rfl
      · exact absurd hb this)
  have b : ∀ (l : List Bk), (∀ x, x ∈ l → x.2.2.2.2 = o) → oth o l = [] := by
    intro l h
    exact List.filter_eq_nil_iff.2 (fun x hx => by
      have : (x.2.2.2.2 == o) = true := by rw [h x hx]; exact beq_self_eq_true o
      rw [this]; decide)
  show List.filter _ _ = _
  rw [List.filter_append]
  show oth o L ++ oth o L1 = L
  rw [a L h1, b L1 h2, List.append_nil]
theorem div_wi {x y : Int32} {m : Nat} (hx : wi x m) (hm : m < 2147483648) (hy : 0 < y) : wi (x / y) m := by
  have x0 : 0 ≤ x.toInt := Int32.le_iff_toInt_le.1 (wi_ge hx)
  have xm : x.toInt ≤ m := by rw [hx.1, i3_toInt (nt_lt _)]; exact Int.ofNat_le.2 hx.2
  have y0 : 0 < y.toInt := Int32.lt_iff_toInt_lt.1 hy
  have d0 : 0 ≤ x.toInt.tdiv y.toInt := Int.tdiv_nonneg x0 (Int.le_of_lt y0)
  have d1 : x.toInt.tdiv y.toInt ≤ x.toInt := Int.tdiv_le_self y.toInt x0
  have e : (x / y).toInt = x.toInt.tdiv y.toInt := by
    rw [Int32.toInt_div, Int.bmod_eq_of_le (by omega) (by omega)]
  refine wi_le hm (Int32.le_iff_toInt_le.2 ?_) (Int32.le_iff_toInt_le.2 ?_)
  · rw [e]; exact d0
  · rw [e, i3_toInt hm]; omega
