/-! ===== rules ===== -/
noncomputable def cnt (P : Nat → Prop) : Nat → Nat
  | 0 => 0
  | k + 1 => cnt P k + @ite _ (P k) (Classical.propDecidable _) 1 0
theorem cnt_le (P : Nat → Prop) : ∀ k, cnt P k ≤ k
  | 0 => Nat.le_refl 0
  | k + 1 => by
    have := cnt_le P k
    unfold cnt
    by_cases h : P k
    · rw [if_pos h]; omega
    · rw [if_neg h]; omega
theorem cnt_t {P : Nat → Prop} {k : Nat} (h : P k) : cnt P (k + 1) = cnt P k + 1 := by
  show cnt P k + _ = _
  rw [if_pos h]
theorem cnt_f {P : Nat → Prop} {k : Nat} (h : ¬ P k) : cnt P (k + 1) = cnt P k := by
  show cnt P k + _ = _
  rw [if_neg h]; rfl
theorem cnt_cg {P Q : Nat → Prop} : ∀ k, (∀ i, i < k → (P i ↔ Q i)) → cnt P k = cnt Q k
  | 0, _ => rfl
  | k + 1, h => by
    unfold cnt
    rw [cnt_cg k (fun i hi => h i (by omega)), propext (h k (by omega))]
/-- a test's i-th value from the latest -/
def hv (D : am_M) (t i : Nat) : Int32 := D 35 0 (10 * t + (nt (D 36 0 t) - 1 - i))
theorem sX2_fromLatest {C D : am_M} (hP : RP C D) {t i : Nat} (ht : t < 4) (hi : i < nt (D 36 0 t)) : fX2_fromLatest [.inr (2, t), .inl (.int (i3 i))] C = am_rI (hv D t i) C := by
  obtain ⟨e1, w⟩ := hP.2.2.2.2.2.2.2.1 t ht
  have e2 : C 2 t 1 = i3 (nt (D 36 0 t)) := e1.trans w.1
  have hb := w.2
  have e3 : C 2 t 1 - 1 = i3 (nt (D 36 0 t) - 1) := by rw [e2, show (1 : Int32) = i3 1 from rfl, i3_sub (by omega)]
  unfold hv
  rw [← hP.2.2.2.2.2.2.2.2.1 t _ ht (by omega)]
  refine qX2_fromLatest_1 ⟨i3_ge (by omega), ?_⟩ (by omega) ?_
  · rw [e3]; exact (i3_le (by omega) (by omega)).mpr (by omega)
  · rw [e3, i3_sub (by omega)]
theorem sX2_above {C D : am_M} (hP : RP C D) {t l : Nat} (ht : t < 4) (hl : l ≤ 10) (b : Int64) : fX2_above [.inr (2, t), .inl (.long b), .inl (.int (i3 l))] C = am_rI (i3 (cnt (fun i => b < (hv D t i).toInt64) (min l (nt (D 36 0 t))))) C := by
  obtain ⟨e1, w⟩ := hP.2.2.2.2.2.2.2.1 t ht
  have e2 : C 2 t 1 = i3 (nt (D 36 0 t)) := e1.trans w.1
  have hb := w.2
  refine qX2_above_0 ?_
  have main := lp_do (A := Int32) (r := fun m i a => rX2_above m 6 [.inr (2, t), .inl (.long b), am_D, .inl (.int (i3 l)), .inl (.int a), .inl (.int (i3 i))] [] C) (N := min l (nt (D 36 0 t))) (c := 200) (I := fun i a => a = i3 (cnt (fun i => b < (hv D t i).toInt64) i)) ?_ (min l (nt (D 36 0 t))) 0 0 (Nat.zero_add _) rfl
  · obtain ⟨a, ha, h⟩ := main
    have := h (99900 - 200 * min l (nt (D 36 0 t))) (.inl (some (.inl (.int a))), C) (by
      by_cases q : l ≤ nt (D 36 0 t)
      · rw [show min l (nt (D 36 0 t)) = l by omega]
        exact mX2_above (qX2_above_6_0 (n := 0) (hen rfl (by omega))) (by omega)
      · rw [show min l (nt (D 36 0 t)) = nt (D 36 0 t) by omega]
        exact mX2_above (qX2_above_6_1 (n := 0) (hge rfl (by omega) (by omega)) (hen e2 (by omega))) (by omega))
    rw [show 99900 - 200 * min l (nt (D 36 0 t)) + 200 * min l (nt (D 36 0 t)) = 99900 by omega] at this
    rw [ha] at this
    exact this
  · intro i a hi ha
    have fl := sX2_fromLatest hP ht (i := i) (by omega)
    by_cases q : b < (hv D t i).toInt64
    · refine ⟨i3 (cnt (fun i => b < (hv D t i).toInt64) (i + 1)), rfl, fun m res k => ?_⟩
      rw [cnt_t (P := fun i => b < (hv D t i).toInt64) q, ← i3_one, ← ha] at k
      exact qX2_above_6_3 (hge rfl (by omega) (by omega)) (hge e2 (by omega) (by omega)) fl (fun r => lc_le.mp r q) k
    · refine ⟨i3 (cnt (fun i => b < (hv D t i).toInt64) (i + 1)), rfl, fun m res k => ?_⟩
      rw [cnt_f (P := fun i => b < (hv D t i).toInt64) q, ← ha] at k
      refine qX2_above_6_2 (hge rfl (by omega) (by omega)) (hge e2 (by omega) (by omega)) fl (lc_le.mpr q) ?_
      rw [Int32.add_zero]; exact k
theorem sX2_below {C D : am_M} (hP : RP C D) {t l : Nat} (ht : t < 4) (hl : l ≤ 10) (b : Int64) : fX2_below [.inr (2, t), .inl (.long b), .inl (.int (i3 l))] C = am_rI (i3 (cnt (fun i => (hv D t i).toInt64 < b) (min l (nt (D 36 0 t))))) C := by
  obtain ⟨e1, w⟩ := hP.2.2.2.2.2.2.2.1 t ht
  have e2 : C 2 t 1 = i3 (nt (D 36 0 t)) := e1.trans w.1
  have hb := w.2
  refine qX2_below_0 ?_
  have main := lp_do (A := Int32) (r := fun m i a => rX2_below m 6 [.inr (2, t), .inl (.long b), am_D, .inl (.int (i3 l)), .inl (.int a), .inl (.int (i3 i))] [] C) (N := min l (nt (D 36 0 t))) (c := 200) (I := fun i a => a = i3 (cnt (fun i => (hv D t i).toInt64 < b) i)) ?_ (min l (nt (D 36 0 t))) 0 0 (Nat.zero_add _) rfl
  · obtain ⟨a, ha, h⟩ := main
    have := h (99900 - 200 * min l (nt (D 36 0 t))) (.inl (some (.inl (.int a))), C) (by
      by_cases q : l ≤ nt (D 36 0 t)
      · rw [show min l (nt (D 36 0 t)) = l by omega]
        exact mX2_below (qX2_below_6_0 (n := 0) (hen rfl (by omega))) (by omega)
      · rw [show min l (nt (D 36 0 t)) = nt (D 36 0 t) by omega]
        exact mX2_below (qX2_below_6_1 (n := 0) (hge rfl (by omega) (by omega)) (hen e2 (by omega))) (by omega))
    rw [show 99900 - 200 * min l (nt (D 36 0 t)) + 200 * min l (nt (D 36 0 t)) = 99900 by omega] at this
    rw [ha] at this
    exact this
  · intro i a hi ha
    have fl := sX2_fromLatest hP ht (i := i) (by omega)
    by_cases q : (hv D t i).toInt64 < b
    · refine ⟨i3 (cnt (fun i => (hv D t i).toInt64 < b) (i + 1)), rfl, fun m res k => ?_⟩
      rw [cnt_t (P := fun i => (hv D t i).toInt64 < b) q, ← i3_one, ← ha] at k
      exact qX2_below_6_3 (hge rfl (by omega) (by omega)) (hge e2 (by omega) (by omega)) fl (fun r => lc_ge.mp r q) k
    · refine ⟨i3 (cnt (fun i => (hv D t i).toInt64 < b) (i + 1)), rfl, fun m res k => ?_⟩
      rw [cnt_f (P := fun i => (hv D t i).toInt64 < b) q, ← ha] at k
      refine qX2_below_6_2 (hge rfl (by omega) (by omega)) (hge e2 (by omega) (by omega)) fl (lc_ge.mpr q) ?_
      rw [Int32.add_zero]; exact k
theorem sX10_above {C D : am_M} (hP : RP C D) {t i : Nat} (ht : t < 4) (hi : i < nt (D 36 0 t)) : fX10_above [.inr (10, 0), .inl (.int (i3 t)), .inl (.int (i3 i))] D = am_rJ ((hv D t i).toInt64 - (fd D t 14).toInt64) D := by
  obtain ⟨_, w⟩ := hP.2.2.2.2.2.2.2.1 t ht
  have hb := w.2
  have e36 : D 36 0 t = i3 (nt (D 36 0 t)) := w.1
  refine qX10_above_0 (j2 := 10 * t + (nt (D 36 0 t) - 1 - i)) ht rfl (by omega) ?_
  have e : (10 : Int32) * i3 t + i3 (nt (D 36 0 t)) = i3 (10 * t + nt (D 36 0 t)) := by
    show i3 10 * i3 t + _ = _
    rw [i3_mul, i3_add]
  rw [e36, nt_i (nt_lt _), e, show (1 : Int32) = i3 1 from rfl, i3_sub (by omega), i3_sub (by omega)]
  congr 1; omega
theorem j_bd (x : Int32) : -2147483648 ≤ x.toInt64.toInt ∧ x.toInt64.toInt < 2147483648 := by
  rw [Int32.toInt_toInt64]
  exact ⟨x.le_toInt, x.toInt_lt⟩
theorem j_add {a b : Int64} (h1 : -9223372036854775808 ≤ a.toInt + b.toInt) (h2 : a.toInt + b.toInt < 9223372036854775808) : (a + b).toInt = a.toInt + b.toInt := by
  rw [Int64.toInt_add]; exact Int.bmod_eq_of_le (by omega) (by omega)
theorem j_sub {a b : Int64} (h1 : -9223372036854775808 ≤ a.toInt - b.toInt) (h2 : a.toInt - b.toInt < 9223372036854775808) : (a - b).toInt = a.toInt - b.toInt := by
  rw [Int64.toInt_sub]; exact Int.bmod_eq_of_le (by omega) (by omega)
theorem j_mul {a b : Int64} {k : Int} (hk : a.toInt = k) (h1 : -9223372036854775808 ≤ k * b.toInt) (h2 : k * b.toInt < 9223372036854775808) : (a * b).toInt = k * b.toInt := by
  rw [Int64.toInt_mul, hk]; exact Int.bmod_eq_of_le (by omega) (by omega)
theorem up_eq {h m d : Int32} {k : Int64} {j : Int} (hk : k.toInt = j) (h0 : 0 ≤ j) (h9 : j ≤ 9) : m.toInt64 + k * d.toInt64 < h.toInt64 ↔ k * d.toInt64 < h.toInt64 - m.toInt64 := by
  have a := j_bd h
  have b := j_bd m
  have c := j_bd d
  have p1 : -2147483648 * j ≤ j * d.toInt64.toInt := by rw [Int.mul_comm]; exact Int.mul_le_mul_of_nonneg_left c.1 h0
  have p2 : j * d.toInt64.toInt ≤ j * 2147483648 := Int.mul_le_mul_of_nonneg_left (by omega) h0
  have e := j_mul (b := d.toInt64) hk (by omega) (by omega)
  rw [Int64.lt_iff_toInt_lt, Int64.lt_iff_toInt_lt, j_add (by omega) (by omega), j_sub (by omega) (by omega), e]
  omega
theorem dn_eq {h m d : Int32} {k k' : Int64} {j : Int} (hk : k.toInt = j) (hk' : k'.toInt = -j) (h0 : 0 ≤ j) (h9 : j ≤ 9) : h.toInt64 < m.toInt64 - k * d.toInt64 ↔ h.toInt64 - m.toInt64 < k' * d.toInt64 := by
  have a := j_bd h
  have b := j_bd m
  have c := j_bd d
  have p1 : -2147483648 * j ≤ j * d.toInt64.toInt := by rw [Int.mul_comm]; exact Int.mul_le_mul_of_nonneg_left c.1 h0
  have p2 : j * d.toInt64.toInt ≤ j * 2147483648 := Int.mul_le_mul_of_nonneg_left (by omega) h0
  have e := j_mul (b := d.toInt64) hk (by omega) (by omega)
  have n : -j * d.toInt64.toInt = -(j * d.toInt64.toInt) := Int.neg_mul _ _
  have e' := j_mul (b := d.toInt64) hk' (by omega) (by omega)
  rw [Int64.lt_iff_toInt_lt, Int64.lt_iff_toInt_lt, j_sub (a := m.toInt64) (by omega) (by omega), j_sub (a := h.toInt64) (by omega) (by omega), e, e', n]
  omega
theorem z_up {h m : Int32} : m.toInt64 < h.toInt64 ↔ 0 < h.toInt64 - m.toInt64 := by
  have a := j_bd h
  have b := j_bd m
  rw [Int64.lt_iff_toInt_lt, Int64.lt_iff_toInt_lt, j_sub (by omega) (by omega), show (0 : Int64).toInt = 0 by decide]
  omega
theorem z_dn {h m : Int32} : h.toInt64 < m.toInt64 ↔ h.toInt64 - m.toInt64 < 0 := by
  have a := j_bd h
  have b := j_bd m
  rw [Int64.lt_iff_toInt_lt, Int64.lt_iff_toInt_lt, j_sub (by omega) (by omega), show (0 : Int64).toInt = 0 by decide]
  omega
def one1 (D : am_M) (t : Nat) : Prop := 1 ≤ nt (D 36 0 t) ∧ (3 * (fd D t 15).toInt64 < (hv D t 0).toInt64 - (fd D t 14).toInt64 ∨ (hv D t 0).toInt64 - (fd D t 14).toInt64 < -3 * (fd D t 15).toInt64)
def u2 (D : am_M) (t i : Nat) : Prop := 2 * (fd D t 15).toInt64 < (hv D t i).toInt64 - (fd D t 14).toInt64
def l2 (D : am_M) (t i : Nat) : Prop := (hv D t i).toInt64 - (fd D t 14).toInt64 < -2 * (fd D t 15).toInt64
def u0 (D : am_M) (t i : Nat) : Prop := 0 < (hv D t i).toInt64 - (fd D t 14).toInt64
def l0 (D : am_M) (t i : Nat) : Prop := (hv D t i).toInt64 - (fd D t 14).toInt64 < 0
def two2 (D : am_M) (t : Nat) : Prop := 2 ≤ cnt (u2 D t) (min 3 (nt (D 36 0 t))) ∨ 2 ≤ cnt (l2 D t) (min 3 (nt (D 36 0 t)))
def ten4 (D : am_M) (t : Nat) : Prop := cnt (u0 D t) (nt (D 36 0 t)) = 10 ∨ cnt (l0 D t) (nt (D 36 0 t)) = 10
noncomputable def rvv (p q r : Prop) : Int32 := bi p + 2 * bi q + 4 * bi r
theorem sX6_brokenRules {C D : am_M} (hP : RP C D) {t : Nat} (ht : t < 4) : fX6_brokenRules [.inr (6, t)] C = am_rI (rvv (one1 D t) (two2 D t) (ten4 D t)) C := by
  obtain ⟨_, w⟩ := hP.2.2.2.2.2.2.2.1 t ht
  have hb := w.2
  have em : C 18 t 14 = fd D t 14 := hP.1 t 14 ht (by decide)
  have ed : C 18 t 15 = fd D t 15 := hP.1 t 15 ht (by decide)
  have A1 := sX2_above hP ht (l := 1) (by decide) ((fd D t 14).toInt64 + 3 * (fd D t 15).toInt64)
  have B1 := sX2_below hP ht (l := 1) (by decide) ((fd D t 14).toInt64 - 3 * (fd D t 15).toInt64)
  have A3 := sX2_above hP ht (l := 3) (by decide) ((fd D t 14).toInt64 + 2 * (fd D t 15).toInt64)
  have B3 := sX2_below hP ht (l := 3) (by decide) ((fd D t 14).toInt64 - 2 * (fd D t 15).toInt64)
  have A10 := sX2_above hP ht (l := 10) (by decide) ((fd D t 14).toInt64)
  have B10 := sX2_below hP ht (l := 10) (by decide) ((fd D t 14).toInt64)
  rw [cnt_cg (Q := fun i => 3 * (fd D t 15).toInt64 < (hv D t i).toInt64 - (fd D t 14).toInt64) _ (fun i _ => up_eq (j := 3) (by decide) (by decide) (by decide))] at A1
  rw [cnt_cg (Q := fun i => (hv D t i).toInt64 - (fd D t 14).toInt64 < -3 * (fd D t 15).toInt64) _ (fun i _ => dn_eq (j := 3) (by decide) (by decide) (by decide) (by decide))] at B1
  rw [cnt_cg (Q := u2 D t) _ (fun i _ => up_eq (j := 2) (by decide) (by decide) (by decide))] at A3
  rw [cnt_cg (Q := l2 D t) _ (fun i _ => dn_eq (j := 2) (by decide) (by decide) (by decide) (by decide))] at B3
  rw [cnt_cg (Q := u0 D t) _ (fun i _ => z_up), show min 10 (nt (D 36 0 t)) = nt (D 36 0 t) by omega] at A10
  rw [cnt_cg (Q := l0 D t) _ (fun i _ => z_dn), show min 10 (nt (D 36 0 t)) = nt (D 36 0 t) by omega] at B10
  have A1' : fX2_above [.inr (2, t), .inl (.long ((C 18 t 14).toInt64 + 3 * (C 18 t 15).toInt64)), .inl (.int 1)] C = am_rI (i3 (cnt (fun i => 3 * (fd D t 15).toInt64 < (hv D t i).toInt64 - (fd D t 14).toInt64) (min 1 (nt (D 36 0 t))))) C := by rw [em, ed]; exact A1
  have B1' : fX2_below [.inr (2, t), .inl (.long ((C 18 t 14).toInt64 - 3 * (C 18 t 15).toInt64)), .inl (.int 1)] C = am_rI (i3 (cnt (fun i => (hv D t i).toInt64 - (fd D t 14).toInt64 < -3 * (fd D t 15).toInt64) (min 1 (nt (D 36 0 t))))) C := by rw [em, ed]; exact B1
  have A3' : fX2_above [.inr (2, t), .inl (.long ((C 18 t 14).toInt64 + 2 * (C 18 t 15).toInt64)), .inl (.int 3)] C = am_rI (i3 (cnt (u2 D t) (min 3 (nt (D 36 0 t))))) C := by rw [em, ed]; exact A3
  have f118 : ∀ m : Nat, rX6_brokenRules (m + 200) 118 [.inr (6, t), .inl (.long (fd D t 14).toInt64), am_D, .inl (.long (fd D t 15).toInt64), am_D, .inl (.int (bi (one1 D t))), .inl (.int (bi (two2 D t))), am_D] [.inl (.int (i3 (cnt (u0 D t) (nt (D 36 0 t)))))] C = am_rI (rvv (one1 D t) (two2 D t) (ten4 D t)) C := by
    intro m
    have cu := cnt_le (u0 D t) (nt (D 36 0 t))
    have cl := cnt_le (l0 D t) (nt (D 36 0 t))
    unfold rvv
    by_cases a : cnt (u0 D t) (nt (D 36 0 t)) = 10
    · have k : ten4 D t := Or.inl a
      have a' : i3 (cnt (u0 D t) (nt (D 36 0 t))) = 10 := by rw [a]; rfl
      rw [bi_t k]
      by_cases o : one1 D t
      · by_cases q : two2 D t
        · rw [bi_t o, bi_t q]; exact qX6_brokenRules_118_3 (n := m + 100) a' (by decide) (by decide)
        · rw [bi_t o, bi_f q]; exact qX6_brokenRules_118_2 (n := m + 100) a' (by decide) rfl
      · by_cases q : two2 D t
        · rw [bi_f o, bi_t q]; exact qX6_brokenRules_118_1 (n := m + 100) a' rfl (by decide)
        · rw [bi_f o, bi_f q]; exact qX6_brokenRules_118_0 (n := m + 100) a' rfl rfl
    · have a' : ¬ i3 (cnt (u0 D t) (nt (D 36 0 t))) = 10 := fun q => a ((i3_inj (b := 10) (by omega) (by decide)).mp q)
      by_cases b : cnt (l0 D t) (nt (D 36 0 t)) = 10
      · have k : ten4 D t := Or.inr b
        have b' : i3 (cnt (l0 D t) (nt (D 36 0 t))) = 10 := by rw [b]; rfl
        rw [bi_t k]
        by_cases o : one1 D t
        · by_cases q : two2 D t
          · rw [bi_t o, bi_t q]; exact qX6_brokenRules_118_7 a' B10 b' (by decide) (by decide)
          · rw [bi_t o, bi_f q]; exact qX6_brokenRules_118_6 a' B10 b' (by decide) rfl
        · by_cases q : two2 D t
          · rw [bi_f o, bi_t q]; exact qX6_brokenRules_118_5 a' B10 b' rfl (by decide)
          · rw [bi_f o, bi_f q]; exact qX6_brokenRules_118_4 a' B10 b' rfl rfl
      · have b' : ¬ i3 (cnt (l0 D t) (nt (D 36 0 t))) = 10 := fun q => b ((i3_inj (b := 10) (by omega) (by decide)).mp q)
        have k : ¬ ten4 D t := fun q => q.elim a b
        rw [bi_f k]
        by_cases o : one1 D t
        · by_cases q : two2 D t
          · rw [bi_t o, bi_t q]; exact qX6_brokenRules_118_11 a' B10 b' (by decide) (by decide)
          · rw [bi_t o, bi_f q]; exact qX6_brokenRules_118_10 a' B10 b' (by decide) rfl
        · by_cases q : two2 D t
          · rw [bi_f o, bi_t q]; exact qX6_brokenRules_118_9 a' B10 b' rfl (by decide)
          · rw [bi_f o, bi_f q]; exact qX6_brokenRules_118_8 a' B10 b' rfl rfl
  have f78 : ∀ m : Nat, rX6_brokenRules (m + 400) 78 [.inr (6, t), .inl (.long (fd D t 14).toInt64), am_D, .inl (.long (fd D t 15).toInt64), am_D, .inl (.int (bi (one1 D t))), am_D, am_D] [.inl (.int (i3 (cnt (u2 D t) (min 3 (nt (D 36 0 t))))))] C = am_rI (rvv (one1 D t) (two2 D t) (ten4 D t)) C := by
    intro m
    have cu := cnt_le (u2 D t) (min 3 (nt (D 36 0 t)))
    have cl := cnt_le (l2 D t) (min 3 (nt (D 36 0 t)))
    by_cases a : 2 ≤ cnt (u2 D t) (min 3 (nt (D 36 0 t)))
    · have k : two2 D t := Or.inl a
      refine qX6_brokenRules_78_0 (n := m + 300) ((i3_le (a := 2) (by decide) (by omega)).mpr a) A10 ?_
      have := f118 (m + 100)
      rw [bi_t k] at this
      exact this
    · have a' : ¬ (2 : Int32) ≤ i3 (cnt (u2 D t) (min 3 (nt (D 36 0 t)))) := fun q => a ((i3_le (a := 2) (by decide) (by omega)).mp q)
      by_cases b : 2 ≤ cnt (l2 D t) (min 3 (nt (D 36 0 t)))
      · have k : two2 D t := Or.inr b
        refine qX6_brokenRules_78_2 (n := m + 200) a' B3 (fun q => ?_) A10 ?_
        · have := (i3_lt (b := 2) (by omega) (by decide)).mp q
          omega
        · have := f118 m
          rw [bi_t k] at this
          exact this
      · have k : ¬ two2 D t := fun q => q.elim a b
        refine qX6_brokenRules_78_1 (n := m + 200) a' B3 ((i3_lt (b := 2) (by omega) (by decide)).mpr (by omega)) A10 ?_
        have := f118 m
        rw [bi_f k] at this
        exact this
  rw [← em, ← ed] at f78
  have c1 : ∀ P : Nat → Prop, i3 (cnt P (min 1 (nt (D 36 0 t)))) = 1 ↔ 1 ≤ nt (D 36 0 t) ∧ P 0 := by
    intro P
    rcases Nat.eq_zero_or_pos (nt (D 36 0 t)) with z | z
    · rw [z]
      exact ⟨fun q => absurd q (show ¬ i3 0 = 1 by decide), fun q => absurd q.1 (by decide)⟩
    · rw [show min 1 (nt (D 36 0 t)) = 0 + 1 by omega]
      by_cases q : P 0
      · rw [cnt_t q]; exact ⟨fun _ => ⟨z, q⟩, fun _ => rfl⟩
      · rw [cnt_f q]; exact ⟨fun r => absurd r (show ¬ i3 0 = 1 by decide), fun r => absurd r.2 q⟩
  by_cases a : i3 (cnt (fun i => 3 * (fd D t 15).toInt64 < (hv D t i).toInt64 - (fd D t 14).toInt64) (min 1 (nt (D 36 0 t)))) = 1
  · have k : one1 D t := ⟨((c1 _).mp a).1, Or.inl ((c1 _).mp a).2⟩
    refine qX6_brokenRules_0 A1' a A3' ?_
    have := f78 99400
    rw [bi_t k] at this
    exact this
  · by_cases b : i3 (cnt (fun i => (hv D t i).toInt64 - (fd D t 14).toInt64 < -3 * (fd D t 15).toInt64) (min 1 (nt (D 36 0 t)))) = 1
    · have k : one1 D t := ⟨((c1 _).mp b).1, Or.inr ((c1 _).mp b).2⟩
      refine qX6_brokenRules_1 A1' a B1' b A3' ?_
      have := f78 99300
      rw [bi_t k] at this
      exact this
    · have k : ¬ one1 D t := fun q => q.2.elim (fun r => a ((c1 _).mpr ⟨q.1, r⟩)) (fun r => b ((c1 _).mpr ⟨q.1, r⟩))
      refine qX6_brokenRules_2 A1' a B1' b A3' ?_
      have := f78 99300
      rw [bi_f k] at this
      exact this
theorem sX10_rules {C D : am_M} (hP : RP C D) {t : Nat} (ht : t < 4) (h03 : 0 ≤ i3 t ∧ i3 t ≤ 3) : fX10_rules [.inr (10, 0), .inl (.int (i3 t))] D = am_rI (rvv (one1 D t) (two2 D t) (ten4 D t)) (am_put D 10 0 45 0) := by
  obtain ⟨_, w⟩ := hP.2.2.2.2.2.2.2.1 t ht
  have hb := w.2
  have e36 : D 36 0 t = i3 (nt (D 36 0 t)) := w.1
  rcases Nat.eq_zero_or_pos (nt (D 36 0 t)) with z | z
  · have o : ¬ one1 D t := fun q => by have := q.1; omega
    have w2 : ¬ two2 D t := fun q => by
      unfold two2 at q
      rw [z] at q
      rcases q with q | q
      · exact absurd q (show ¬ 2 ≤ 0 by decide)
      · exact absurd q (show ¬ 2 ≤ 0 by decide)
    have w4 : ¬ ten4 D t := fun q => by
      unfold ten4 at q
      rw [z] at q
      rcases q with q | q
      · exact absurd q (show ¬ 0 = 10 by decide)
      · exact absurd q (show ¬ 0 = 10 by decide)
    unfold rvv
    rw [bi_f o, bi_f w2, bi_f w4]
    exact qX10_rules_1 h03 ht rfl (by rw [e36, z]; rfl)
  have ab := fun (i : Nat) (hi : i < nt (D 36 0 t)) => sX10_above (D := am_put D 10 0 45 0) (C := C) hP ht hi
  have nz : ¬ D 36 0 t = 0 := by
    rw [e36]; exact fun q => by
      have := (i3_inj (b := 0) (by omega) (by decide)).mp q
      omega
  have f174 : ∀ (x4 x5 x6 : Int32) (p q : Prop), x4 = bi p + 2 * bi q → ∀ m, 6000 ≤ m → rX10_rules m 174 [.inr (10, 0), .inl (.int (i3 t)), .inl (.long (fd D t 15).toInt64), am_D, .inl (.int x4), .inl (.int x5), .inl (.int x6), .inl (.int 0), .inl (.int 0), .inl (.int 0)] [] (am_put D 10 0 45 0) = am_rI (rvv p q (ten4 D t)) (am_put D 10 0 45 0) := by
    intro x4 x5 x6 p q e4 m hm
    have main := lp_do (A := Int32 × Int32) (r := fun m i a => rX10_rules m 174 [.inr (10, 0), .inl (.int (i3 t)), .inl (.long (fd D t 15).toInt64), am_D, .inl (.int x4), .inl (.int x5), .inl (.int x6), .inl (.int a.1), .inl (.int a.2), .inl (.int (i3 i))] [] (am_put D 10 0 45 0)) (N := nt (D 36 0 t)) (c := 300) (I := fun i a => a.1 = i3 (cnt (u0 D t) i) ∧ a.2 = i3 (cnt (l0 D t) i)) ?_ (nt (D 36 0 t)) 0 (0, 0) (Nat.zero_add _) ⟨rfl, rfl⟩
    · obtain ⟨a, ⟨ha1, ha2⟩, h⟩ := main
      have cu := cnt_le (u0 D t) (nt (D 36 0 t))
      have cl := cnt_le (l0 D t) (nt (D 36 0 t))
      have := h (m - 300 * nt (D 36 0 t)) (.inl (some (.inl (.int (rvv p q (ten4 D t))))), am_put D 10 0 45 0) (by
        unfold rvv
        by_cases k : cnt (u0 D t) (nt (D 36 0 t)) = 10
        · rw [bi_t (show ten4 D t from Or.inl k), ← e4]
          exact mX10_rules (qX10_rules_174_0 (n := 0) ht rfl (hen e36 (by omega)) (by rw [ha1, k]; rfl)) (by omega)
        · have k' : ¬ a.1 = 10 := by rw [ha1]; exact fun r => k ((i3_inj (b := 10) (by omega) (by decide)).mp r)
          by_cases k2 : cnt (l0 D t) (nt (D 36 0 t)) = 10
          · rw [bi_t (show ten4 D t from Or.inr k2), ← e4]
            exact mX10_rules (qX10_rules_174_1 (n := 0) ht rfl (hen e36 (by omega)) k' (by rw [ha2, k2]; rfl)) (by omega)
          · have k2' : ¬ a.2 = 10 := by rw [ha2]; exact fun r => k2 ((i3_inj (b := 10) (by omega) (by decide)).mp r)
            rw [bi_f (show ¬ ten4 D t from fun r => r.elim k k2), ← e4, show x4 + 4 * 0 = x4 from by rw [show (4 : Int32) * 0 = 0 from by decide, Int32.add_zero]]
            exact mX10_rules (qX10_rules_174_2 (n := 0) ht rfl (hen e36 (by omega)) k' k2') (by omega))
      rw [show m - 300 * nt (D 36 0 t) + 300 * nt (D 36 0 t) = m by omega] at this
      exact this
    · intro i a hi ha
      obtain ⟨ha1, ha2⟩ := ha
      by_cases c1 : u0 D t i
      · by_cases c2 : l0 D t i
        · refine ⟨(a.1 + 1, a.2 + 1), ⟨by rw [cnt_t c1, ← i3_one, ha1], by rw [cnt_t c2, ← i3_one, ha2]⟩, fun m res k => qX10_rules_174_6 ht rfl (hge e36 hi (by omega)) (ab i hi) (fun r => lc_le.mp r c1) (ab i hi) (fun r => lc_ge.mp r c2) k⟩
        · refine ⟨(a.1 + 1, a.2), ⟨by rw [cnt_t c1, ← i3_one, ha1], by rw [cnt_f c2, ha2]⟩, fun m res k => qX10_rules_174_5 ht rfl (hge e36 hi (by omega)) (ab i hi) (fun r => lc_le.mp r c1) (ab i hi) (lc_ge.mpr c2) k⟩
      · by_cases c2 : l0 D t i
        · refine ⟨(a.1, a.2 + 1), ⟨by rw [cnt_f c1, ha1], by rw [cnt_t c2, ← i3_one, ha2]⟩, fun m res k => qX10_rules_174_4 ht rfl (hge e36 hi (by omega)) (ab i hi) (lc_le.mpr c1) (ab i hi) (fun r => lc_ge.mp r c2) k⟩
        · refine ⟨(a.1, a.2), ⟨by rw [cnt_f c1, ha1], by rw [cnt_f c2, ha2]⟩, fun m res k => qX10_rules_174_3 ht rfl (hge e36 hi (by omega)) (ab i hi) (lc_le.mpr c1) (ab i hi) (lc_ge.mpr c2) k⟩
  have f89 : ∀ (p : Prop) (m : Nat), 9000 ≤ m → rX10_rules m 89 [.inr (10, 0), .inl (.int (i3 t)), .inl (.long (fd D t 15).toInt64), am_D, .inl (.int (bi p)), .inl (.int 0), .inl (.int 0), .inl (.int 0), am_D, am_D] [] (am_put D 10 0 45 0) = am_rI (rvv p (two2 D t) (ten4 D t)) (am_put D 10 0 45 0) := by
    intro p m hm
    have main := lp_do (A := Int32 × Int32) (r := fun m i a => rX10_rules m 89 [.inr (10, 0), .inl (.int (i3 t)), .inl (.long (fd D t 15).toInt64), am_D, .inl (.int (bi p)), .inl (.int a.1), .inl (.int a.2), .inl (.int (i3 i)), am_D, am_D] [] (am_put D 10 0 45 0)) (N := min 3 (nt (D 36 0 t))) (c := 300) (I := fun i a => a.1 = i3 (cnt (u2 D t) i) ∧ a.2 = i3 (cnt (l2 D t) i)) ?_ (min 3 (nt (D 36 0 t))) 0 (0, 0) (Nat.zero_add _) ⟨rfl, rfl⟩
    · obtain ⟨a, ⟨ha1, ha2⟩, h⟩ := main
      have cu := cnt_le (u2 D t) (min 3 (nt (D 36 0 t)))
      have cl := cnt_le (l2 D t) (min 3 (nt (D 36 0 t)))
      have go := h (m - 300 * min 3 (nt (D 36 0 t))) (.inl (some (.inl (.int (rvv p (two2 D t) (ten4 D t))))), am_put D 10 0 45 0) (by
        rw [show m - 300 * min 3 (nt (D 36 0 t)) = (m - 300 * min 3 (nt (D 36 0 t)) - 100) + 100 by omega]
        have hm' : 6000 ≤ m - 300 * min 3 (nt (D 36 0 t)) - 100 := by omega
        by_cases k : 2 ≤ cnt (u2 D t) (min 3 (nt (D 36 0 t)))
        · have k1 : (2 : Int32) ≤ a.1 := by rw [ha1]; exact (i3_le (a := 2) (by decide) (by omega)).mpr k
          have tt : two2 D t := Or.inl k
          have fin := f174 (bi p + 2) a.1 a.2 p (two2 D t) (by rw [bi_t tt]; rfl) _ hm'
          by_cases q : 3 ≤ nt (D 36 0 t)
          · exact qX10_rules_89_0 (by rw [show min 3 (nt (D 36 0 t)) = 3 by omega]; decide) k1 fin
          · exact qX10_rules_89_3 (hge (n := 3) rfl (by omega) (by decide)) ht rfl (by rw [show min 3 (nt (D 36 0 t)) = nt (D 36 0 t) by omega]; exact hen e36 (by omega)) k1 fin
        · have k1 : ¬ (2 : Int32) ≤ a.1 := by rw [ha1]; exact fun r => k ((i3_le (a := 2) (by decide) (by omega)).mp r)
          by_cases l : 2 ≤ cnt (l2 D t) (min 3 (nt (D 36 0 t)))
          · have l1 : ¬ a.2 < 2 := by
              rw [ha2]; intro r
              have := (i3_lt (b := 2) (by omega) (by decide)).mp r
              omega
            have tt : two2 D t := Or.inr l
            have fin := f174 (bi p + 2) a.1 a.2 p (two2 D t) (by rw [bi_t tt]; rfl) _ hm'
            by_cases q : 3 ≤ nt (D 36 0 t)
            · exact qX10_rules_89_2 (by rw [show min 3 (nt (D 36 0 t)) = 3 by omega]; decide) k1 l1 fin
            · exact qX10_rules_89_5 (hge (n := 3) rfl (by omega) (by decide)) ht rfl (by rw [show min 3 (nt (D 36 0 t)) = nt (D 36 0 t) by omega]; exact hen e36 (by omega)) k1 l1 fin
          · have l1 : a.2 < 2 := by rw [ha2]; exact (i3_lt (b := 2) (by omega) (by decide)).mpr (by omega)
            have tt : ¬ two2 D t := fun r => r.elim k l
            have fin := f174 (bi p) a.1 a.2 p (two2 D t) (by rw [bi_f tt, show (2 : Int32) * 0 = 0 from by decide, Int32.add_zero]) _ hm'
            by_cases q : 3 ≤ nt (D 36 0 t)
            · exact qX10_rules_89_1 (by rw [show min 3 (nt (D 36 0 t)) = 3 by omega]; decide) k1 l1 fin
            · exact qX10_rules_89_4 (hge (n := 3) rfl (by omega) (by decide)) ht rfl (by rw [show min 3 (nt (D 36 0 t)) = nt (D 36 0 t) by omega]; exact hen e36 (by omega)) k1 l1 fin)
      rw [show m - 300 * min 3 (nt (D 36 0 t)) + 300 * min 3 (nt (D 36 0 t)) = m by omega] at go
      exact go
    · intro i a hi ha
      obtain ⟨ha1, ha2⟩ := ha
      have hi3 : i < 3 := by omega
      have his : i < nt (D 36 0 t) := by omega
      have g1 : ¬ (3 : Int32) ≤ i3 i := hge (n := 3) rfl hi3 (by decide)
      have g2 := hge e36 his (by omega)
      by_cases c1 : u2 D t i
      · by_cases c2 : l2 D t i
        · exact ⟨(a.1 + 1, a.2 + 1), ⟨by rw [cnt_t c1, ← i3_one, ha1], by rw [cnt_t c2, ← i3_one, ha2]⟩, fun m res k => qX10_rules_89_9 g1 ht rfl g2 (ab i his) (fun r => lc_le.mp r c1) (ab i his) (fun r => lc_ge.mp r c2) k⟩
        · exact ⟨(a.1 + 1, a.2), ⟨by rw [cnt_t c1, ← i3_one, ha1], by rw [cnt_f c2, ha2]⟩, fun m res k => qX10_rules_89_8 g1 ht rfl g2 (ab i his) (fun r => lc_le.mp r c1) (ab i his) (lc_ge.mpr c2) k⟩
      · by_cases c2 : l2 D t i
        · exact ⟨(a.1, a.2 + 1), ⟨by rw [cnt_f c1, ha1], by rw [cnt_t c2, ← i3_one, ha2]⟩, fun m res k => qX10_rules_89_7 g1 ht rfl g2 (ab i his) (lc_le.mpr c1) (ab i his) (fun r => lc_ge.mp r c2) k⟩
        · exact ⟨(a.1, a.2), ⟨by rw [cnt_f c1, ha1], by rw [cnt_f c2, ha2]⟩, fun m res k => qX10_rules_89_6 g1 ht rfl g2 (ab i his) (lc_le.mpr c1) (ab i his) (lc_ge.mpr c2) k⟩
  have fin := fun m (hm : 9000 ≤ m) => f89 (one1 D t) m hm
  by_cases a : 3 * (fd D t 15).toInt64 < (hv D t 0).toInt64 - (fd D t 14).toInt64
  · have k : one1 D t := ⟨z, Or.inl a⟩
    refine qX10_rules_2 h03 ht rfl nz (ab 0 z) (lc_gt.mpr a) ?_
    have := fin 99600 (by decide)
    rw [bi_t k] at this
    exact this
  · by_cases b : (hv D t 0).toInt64 - (fd D t 14).toInt64 < -3 * (fd D t 15).toInt64
    · have k : one1 D t := ⟨z, Or.inr b⟩
      refine qX10_rules_4 h03 ht rfl nz (ab 0 z) (fun r => a (lc_gt.mp r)) (ab 0 z) (fun r => lc_ge.mp r b) ?_
      have := fin 99500 (by decide)
      rw [bi_t k] at this
      exact this
    · have k : ¬ one1 D t := fun q => q.2.elim a b
      refine qX10_rules_3 h03 ht rfl nz (ab 0 z) (fun r => a (lc_gt.mp r)) (ab 0 z) (lc_ge.mpr b) ?_
      have := fin 99500 (by decide)
      rw [bi_f k] at this
      exact this
theorem J_rules {T : Nat} {C D : am_M} (h : St T C D) (x1 : Int32) : JO T (fL_rules [.inr (9, 0), .inl (.int x1), .inr (80, 0)] C) (fX10_rules [.inr (10, 0), .inl (.int x1)] D) := by
  obtain ⟨n, L, h⟩ := h
  by_cases h1 : 0 ≤ x1 ∧ x1 ≤ 3
  case neg => exact JO_no h (qL_rules_0 (qX9_rules_0 h1)) (qX10_rules_0 h1) (by decide)
  obtain ⟨t, ht, et⟩ := pl (m := 3) (by decide) h1
  have h03 := h1
  rw [et] at h03
  have d1 := sX10_rules h.1 ht h03
  rw [← et] at d1
  exact JO_ok (Rel_thr h) (qL_rules_1 (qX9_rules_1 h1 ht et (sX6_brokenRules h.1 ht))) d1 rfl
