/-! ===== numbers: rounding, formulas, curves ===== -/
def fdv (x y : Int64) : Int64 := if 0 ≤ lg_cmp (x ^^^ y) 0 then x / y else if lg_cmp (x / y * y) x = 0 then x / y else x / y - 1
def rnd (a b : Int64) : Int64 := fdv (2 * a + b) (2 * b)
theorem xor_neg (x y : Int64) : x ^^^ y < 0 ↔ ¬ (x < 0 ↔ y < 0) := by
  have h : ∀ z : Int64, z < 0 ↔ z.toBitVec.msb = true := fun z => by
    rw [Int64.lt_iff_toBitVec_slt]
    exact BitVec.slt_zero_iff_msb_cond
  rw [h, h, h, Int64.toBitVec_xor, BitVec.msb_xor]
  cases x.toBitVec.msb <;> cases y.toBitVec.msb <;> simp
theorem sub_z {x y : Int64} : x - y = 0 ↔ y = x := by
  refine ⟨fun h => ?_, fun h => ?_⟩
  · have := congrArg (· + y) h
    simp only [Int64.sub_add_cancel, Int64.zero_add] at this
    exact this.symm
  · rw [h, Int64.sub_self]
theorem sJ9_floorDiv {x y : Int64} (hy : ¬ y = 0) (M : am_M) : fJ9_floorDiv_f86c9 [.inl (.long x), .inl (.long y)] M = am_rJ (fdv x y) M := by
  unfold fdv
  by_cases a : 0 ≤ lg_cmp (x ^^^ y) 0
  · rw [if_pos a]; exact qJ9_floorDiv_f86c9_0 hy a
  · rw [if_neg a]
    by_cases b : lg_cmp (x / y * y) x = 0
    · rw [if_pos b]; exact qJ9_floorDiv_f86c9_1 hy a b
    · rw [if_neg b]; exact qJ9_floorDiv_f86c9_2 hy a b
theorem sX10_floor {x y : Int64} (hy : ¬ y = 0) (M : am_M) : fX10_floor [.inl (.long x), .inl (.long y)] M = am_rJ (fdv x y) M := by
  have sg : 0 ≤ lg_cmp (x ^^^ y) 0 ↔ (x < 0 ↔ y < 0) := by
    rw [lc_ge, xor_neg]; exact Classical.not_not
  have z : lg_cmp (x - x / y * y) 0 = 0 ↔ lg_cmp (x / y * y) x = 0 := by rw [lc_eq, lc_eq, sub_z]
  unfold fdv
  by_cases b : lg_cmp (x - x / y * y) 0 = 0
  · have b' := z.mp b
    by_cases a : 0 ≤ lg_cmp (x ^^^ y) 0
    · rw [if_pos a]; exact qX10_floor_0 hy b
    · rw [if_neg a, if_pos b']; exact qX10_floor_0 hy b
  · have b' : ¬ lg_cmp (x / y * y) x = 0 := fun q => b (z.mpr q)
    by_cases c : 0 ≤ lg_cmp x 0
    · have c' := lc_ge.mp c
      by_cases d : 0 ≤ lg_cmp y 0
      · have d' := lc_ge.mp d
        rw [if_pos (sg.mpr ⟨fun q => absurd q c', fun q => absurd q d'⟩)]; exact qX10_floor_1 hy b c d
      · have d' : y < 0 := Classical.byContradiction fun q => d (lc_ge.mpr q)
        rw [if_neg (fun q => c' ((sg.mp q).mpr d')), if_neg b']; exact qX10_floor_2 hy b c d
    · have c' : x < 0 := Classical.byContradiction fun q => c (lc_ge.mpr q)
      by_cases d : 0 ≤ lg_cmp y 0
      · have d' := lc_ge.mp d
        rw [if_neg (fun q => d' ((sg.mp q).mp c')), if_neg b']; exact qX10_floor_3 hy b c d
      · have d' : y < 0 := Classical.byContradiction fun q => d (lc_ge.mpr q)
        rw [if_pos (sg.mpr ⟨fun _ => d', fun _ => c'⟩)]; exact qX10_floor_4 hy b c d
theorem sX9_rounded {a b : Int64} (hb : 0 < b) (h2 : ¬ 2 * b = 0) (M : am_M) : fX9_rounded [.inl (.long a), .inl (.long b)] M = am_rJ (rnd a b) M := qX9_rounded_1 (fun q => lc_le.mp q hb) (sJ9_floorDiv h2 M)
theorem sX10_rounded {a b : Int64} (hb : 0 < b) (h2 : ¬ 2 * b = 0) (M : am_M) : fX10_rounded [.inl (.long a), .inl (.long b)] M = am_rJ (rnd a b) M := qX10_rounded_1 (fun q => lc_le.mp q hb) (sX10_floor h2 M)
theorem pos2 {b : Int64} (h1 : 0 < b.toInt) (h2 : b.toInt < 1000000000000) : 0 < b ∧ ¬ 2 * b = 0 := by
  refine ⟨Int64.lt_iff_toInt_lt.mpr (by rw [show (0 : Int64).toInt = 0 by decide]; exact h1), fun q => ?_⟩
  have e := j_mul (a := 2) (b := b) (k := 2) (by decide) (by omega) (by omega)
  rw [q, show (0 : Int64).toInt = 0 by decide] at e
  omega
/-! the rate -/
def sI : Nat → Int64
  | 0 => 0
  | k + 1 => sI k + (i3 k).toInt64
def sII : Nat → Int64
  | 0 => 0
  | k + 1 => sII k + (i3 k).toInt64 * (i3 k).toInt64
def sA (R : Nat → Int32) : Nat → Int64
  | 0 => 0
  | k + 1 => sA R k + (R k).toInt64
def sIA (R : Nat → Int32) : Nat → Int64
  | 0 => 0
  | k + 1 => sIA R k + (i3 k).toInt64 * (R k).toInt64
def rate (R : Nat → Int32) (n : Nat) : Int64 := rnd (1000 * ((i3 n).toInt64 * sIA R n - sI n * sA R n)) ((i3 n).toInt64 * sII n - sI n * sI n)
theorem dv_pos {n : Nat} (h2 : 2 ≤ n) (h6 : n ≤ 6) : 0 < (i3 n).toInt64 * sII n - sI n * sI n ∧ ¬ 2 * ((i3 n).toInt64 * sII n - sI n * sI n) = 0 := by
  have : n = 2 ∨ n = 3 ∨ n = 4 ∨ n = 5 ∨ n = 6 := by omega
  rcases this with rfl | rfl | rfl | rfl | rfl <;> exact ⟨by decide, by decide⟩
theorem sq_eq {i : Nat} (h : i < 6) : (i3 i * i3 i).toInt64 = (i3 i).toInt64 * (i3 i).toInt64 := by
  have : i = 0 ∨ i = 1 ∨ i = 2 ∨ i = 3 ∨ i = 4 ∨ i = 5 := by omega
  rcases this with rfl | rfl | rfl | rfl | rfl | rfl <;> decide
theorem s_cg {R R' : Nat → Int32} : ∀ n, (∀ j, j < n → R j = R' j) → sA R n = sA R' n ∧ sIA R n = sIA R' n
  | 0, _ => ⟨rfl, rfl⟩
  | n + 1, h => by
    obtain ⟨a, b⟩ := s_cg n (fun j hj => h j (by omega))
    unfold sA sIA
    rw [a, b, h n (by omega)]
    exact ⟨rfl, rfl⟩
theorem sX6_rateOf {c n : Nat} (h2 : 2 ≤ n) (h6 : n ≤ 6) (M : am_M) : fX6_rateOf [.inr (13, c), .inl (.int (i3 n))] M = am_rJ (rate (M 13 c) n) M := by
  have main := lp_do (A := Unit) (r := fun m i _ => rX6_rateOf m 14 [.inr (13, c), .inl (.int (i3 n)), .inl (.long (sI i)), am_D, .inl (.long (sII i)), am_D, .inl (.long (sA (M 13 c) i)), am_D, .inl (.long (sIA (M 13 c) i)), am_D, .inl (.int (i3 i))] [] M) (N := n) (c := 500) (I := fun _ _ => True) (fun i _ hi _ => ⟨(), trivial, fun m res k => qX6_rateOf_14_2 (hge (n := n) rfl hi (by omega)) (hge (X := Int32.ofNat 6) (n := 6) rfl (by omega) (by decide)) (by omega) k⟩) n 0 () (Nat.zero_add n) trivial
  obtain ⟨_, _, h⟩ := main
  obtain ⟨d1, d2⟩ := dv_pos h2 h6
  refine qX6_rateOf_0 ?_
  have k := h (99500 - 500 * n) _ (mX6_rateOf (qX6_rateOf_14_0 (n := 0) (x10 := n) (hen (n := n) rfl (by omega)) (sX9_rounded d1 d2 M)) (by omega))
  rw [show 99500 - 500 * n + 500 * n = 99500 by omega] at k
  exact k
theorem sX10_rate {o n : Nat} {x3 : Int32} (ho : o < 40) (h2 : 2 ≤ n) (h6 : n ≤ 6) (M : am_M) : rX10_resultOf 99400 84 [.inr (10, 0), .inl (.int (i3 o)), .inl (.int (i3 n)), .inl (.int x3), .inl (.long 0), am_D, .inl (.long 0), am_D, .inl (.long 0), am_D, .inl (.long 0), am_D, .inl (.int 0)] [] M = am_rJ (rate (fun j => M 55 0 (6 * o + j)) n) M := by
  have main := lp_do (A := Unit) (r := fun m i _ => rX10_resultOf m 84 [.inr (10, 0), .inl (.int (i3 o)), .inl (.int (i3 n)), .inl (.int x3), .inl (.long (sI i)), am_D, .inl (.long (sA (fun j => M 55 0 (6 * o + j)) i)), am_D, .inl (.long (sIA (fun j => M 55 0 (6 * o + j)) i)), am_D, .inl (.long (sII i)), am_D, .inl (.int (i3 i))] [] M) (N := n) (c := 500) (I := fun _ _ => True) (fun i _ hi _ => ⟨(), trivial, fun m res k => by
    refine qX10_resultOf_84_1 (j1 := 6 * o + i) (hge (n := n) rfl hi (by omega)) (by omega) ?_ ?_
    · show i3 6 * i3 o + i3 i = _
      rw [i3_mul, i3_add]
    · rw [sq_eq (by omega)]; exact k⟩) n 0 () (Nat.zero_add n) trivial
  obtain ⟨_, _, h⟩ := main
  obtain ⟨d1, d2⟩ := dv_pos h2 h6
  have k := h (99400 - 500 * n) _ (mX10_resultOf (qX10_resultOf_84_0 (n := 0) (x12 := n) (hen (n := n) rfl (by omega)) (sX10_rounded d1 d2 M)) (by omega))
  rw [show 99400 - 500 * n + 500 * n = 99400 by omega] at k
  exact k
/-- what the formula makes of the readings -/
def rslt (R : Nat → Int32) (f : Int32) (n : Nat) : Int64 := if f = 1 then rate R n else if f = 0 then (R (n - 1)).toInt64 else (R (n - 1) - R 0).toInt64
theorem rslt_cg {R R' : Nat → Int32} {f : Int32} {n : Nat} (h1 : 1 ≤ n) (h : ∀ j, j < n → R j = R' j) : rslt R f n = rslt R' f n := by
  unfold rslt rate
  rw [(s_cg n h).1, (s_cg n h).2, h (n - 1) (by omega), h 0 (by omega)]
theorem sX6_formulaOf {t c n : Nat} (h1 : 1 ≤ n) (h6 : n ≤ 6) (M : am_M) (hr : M 18 t 9 = 1 → 2 ≤ n) : fX6_formulaOf [.inr (6, t), .inr (13, c), .inl (.int (i3 n))] M = am_rJ (rslt (M 13 c) (M 18 t 9) n) M := by
  have rg : 1 ≤ i3 n ∧ i3 n ≤ Int32.ofNat 6 := ⟨(i3_le (a := 1) (by decide) (by omega)).mpr h1, (i3_le (b := 6) (by omega) (by decide)).mpr h6⟩
  have ix : i3 n - 1 = i3 (n - 1) := by rw [show (1 : Int32) = i3 1 from rfl, i3_sub h1]
  unfold rslt
  by_cases a : M 18 t 9 = 1
  · rw [if_pos a]; exact qX6_formulaOf_1 rg a (sX6_rateOf (hr a) h6 M)
  · rw [if_neg a]
    by_cases b : M 18 t 9 = 0
    · rw [if_pos b]; exact qX6_formulaOf_2 rg a (by omega) ix b
    · rw [if_neg b]; exact qX6_formulaOf_3 rg a (by omega) ix b
theorem sX10_resultOf {o t n : Nat} (ho : o < 40) (ht : t < 4) (M : am_M) (e46 : M 46 0 o = i3 t) (e56 : M 56 0 o = i3 n) (h1 : 1 ≤ n) (h6 : n ≤ 6) (hr : fd M t 9 = 1 → 2 ≤ n) (h9 : wi (fd M t 9) 2) : fX10_resultOf [.inr (10, 0), .inl (.int (i3 o))] M = am_rJ (rslt (fun j => M 55 0 (6 * o + j)) (fd M t 9) n) M := by
  have ix : 6 * i3 o + M 56 0 o - 1 = i3 (6 * o + (n - 1)) := by
    rw [e56]
    show i3 6 * i3 o + i3 n - i3 1 = _
    rw [i3_mul, i3_add, i3_sub (by omega)]
    congr 1; omega
  unfold rslt
  by_cases b : fd M t 9 = 0
  · rw [if_neg (by rw [b]; decide), if_pos b]
    exact qX10_resultOf_0 ho rfl ht e46 b (by omega) ix
  · by_cases c : fd M t 9 = 2
    · rw [if_neg (by rw [c]; decide), if_neg b]
      exact qX10_resultOf_1 ho rfl ht e46 b c (by omega) ix (j5 := 6 * o + 0) (by omega) (by show i3 6 * i3 o = _; rw [i3_mul]; rfl)
    · have a : fd M t 9 = 1 := by
        have q := h9.2
        have e := h9.1
        have n0 : ¬ nt (fd M t 9) = 0 := fun z => b (by rw [e, z]; rfl)
        have n2 : ¬ nt (fd M t 9) = 2 := fun z => c (by rw [e, z]; rfl)
        rw [e, show nt (fd M t 9) = 1 by omega]; rfl
      rw [if_pos a]
      refine qX10_resultOf_2 ho rfl ht e46 b c ?_
      rw [e56]
      exact sX10_rate ho (hr a) h6 M
/-! curves -/
def cva (X Y : Nat → Int32) (x : Int64) (i : Nat) : Int64 := (Y (i - 1)).toInt64 + rnd ((x - (X (i - 1)).toInt64) * (Y i - Y (i - 1)).toInt64) (X i - X (i - 1)).toInt64
def cvr (X Y : Nat → Int32) (x : Int64) : Nat → Nat → Int64
  | 0, i => cva X Y x i
  | k + 1, i => if lg_cmp x (X i).toInt64 ≤ 0 then cva X Y x i else cvr X Y x k (i + 1)
theorem df_pos {a b : Int32} (ha : -1000000 ≤ a ∧ a ≤ 1000000) (hb : -1000000 ≤ b ∧ b ≤ 1000000) (h : b < a) : 0 < (a - b).toInt64 ∧ ¬ 2 * (a - b).toInt64 = 0 := by
  have h1 := mlt ha
  have h2 := mlt hb
  have h3 := Int32.lt_iff_toInt_lt.mp h
  have e : (a - b).toInt64.toInt = a.toInt - b.toInt := by
    rw [Int32.toInt_toInt64]; exact sub_toInt (by omega) (by omega)
  exact pos2 (by omega) (by omega)
theorem sX0_valueAt {C D : am_M} (hP : RP C D) {t : Nat} (ht : t < 4) (h2 : 2 ≤ nt (D 34 0 t)) (x : Int64) : fX0_valueAt [.inr (0, t), .inl (.long x)] C = am_rJ (cvr (fun j => D 32 0 (5 * t + j)) (fun j => D 33 0 (5 * t + j)) x (nt (D 34 0 t) - 2) 1) C := by
  obtain ⟨p1, p2, p3, p4, p5, p6, p7, _⟩ := hP
  obtain ⟨e0, w⟩ := p4 t ht
  have e02 : C 0 t 2 = i3 (nt (D 34 0 t)) := e0.trans w.1
  have h5 := w.2
  have p7' := fun j hj => p7 t j ht hj
  generalize hp : nt (D 34 0 t) = p at *
  have e1 : C 0 t 2 - 1 = i3 (p - 1) := by rw [e02, show (1 : Int32) = i3 1 from rfl, i3_sub (by omega)]
  have rd : ∀ i, 1 ≤ i → i < p → fX9_rounded [.inl (.long ((x - (C 11 t (i - 1)).toInt64) * (C 12 t i - C 12 t (i - 1)).toInt64)), .inl (.long (C 11 t i - C 11 t (i - 1)).toInt64)] C = am_rJ (rnd ((x - (D 32 0 (5 * t + (i - 1))).toInt64) * (D 33 0 (5 * t + i) - D 33 0 (5 * t + (i - 1))).toInt64) (D 32 0 (5 * t + i) - D 32 0 (5 * t + (i - 1))).toInt64) C := by
    intro i h1 hi
    rw [(p5 t i ht (by omega)).1, (p5 t i ht (by omega)).2, (p5 t (i - 1) ht (by omega)).1, (p5 t (i - 1) ht (by omega)).2]
    have lt := p7' (i - 1) (by omega)
    rw [show 5 * t + (i - 1) + 1 = 5 * t + i by omega] at lt
    have b1 := p6 t i ht (by omega)
    have b2 := p6 t (i - 1) ht (by omega)
    obtain ⟨q1, q2⟩ := df_pos ⟨b1.1, b1.2.1⟩ ⟨b2.1, b2.2.1⟩ lt
    exact sX9_rounded q1 q2 C
  have y1 : ∀ i, 1 ≤ i → i < p → (C 12 t (i - 1)).toInt64 = (D 33 0 (5 * t + (i - 1))).toInt64 := fun i _ hi => by rw [(p5 t (i - 1) ht (by omega)).2]
  have loop : ∀ (k i m : Nat), i + k = p - 1 → 1 ≤ i → 200 * (k + 1) ≤ m → rX0_valueAt m 12 [.inr (0, t), .inl (.long x), am_D, .inl (.int (i3 i)), am_D, am_D, am_D] [] C = am_rJ (cvr (fun j => D 32 0 (5 * t + j)) (fun j => D 33 0 (5 * t + j)) x k i) C := by
    intro k
    induction k with
    | zero =>
      intro i m hi h1 hm
      have ix : i3 i - 1 = i3 (i - 1) := by rw [show (1 : Int32) = i3 1 from rfl, i3_sub h1]
      have := qX0_valueAt_12_0 (x1 := x) (n := m - 200) (j1 := i - 1) (by rw [e1]; exact hen (n := p - 1) rfl (by omega) |> fun q => by rw [show i = p - 1 by omega]; exact q) (by omega) ix (by omega) (rd i h1 (by omega))
      rw [show m - 200 + 200 = m by omega, y1 i h1 (by omega)] at this
      exact this
    | succ k ih =>
      intro i m hi h1 hm
      have ix : i3 i - 1 = i3 (i - 1) := by rw [show (1 : Int32) = i3 1 from rfl, i3_sub h1]
      have g : ¬ C 0 t 2 - 1 ≤ i3 i := hge e1 (by omega) (by omega)
      have ex : C 11 t i = D 32 0 (5 * t + i) := (p5 t i ht (by omega)).1
      show _ = am_rJ (if lg_cmp x (D 32 0 (5 * t + i)).toInt64 ≤ 0 then _ else _) C
      by_cases q : lg_cmp x (D 32 0 (5 * t + i)).toInt64 ≤ 0
      · rw [if_pos q]
        have := qX0_valueAt_12_1 (x1 := x) (n := m - 200) (j1 := i - 1) g (by omega) (by rw [ex]; exact q) (by omega) ix (rd i h1 (by omega))
        rw [show m - 200 + 200 = m by omega, y1 i h1 (by omega)] at this
        exact this
      · rw [if_neg q]
        have := qX0_valueAt_12_2 (x1 := x) (n := m - 100) g (by omega) (by rw [ex]; exact q) (ih (i + 1) (m - 100) (by omega) (by omega) (by omega))
        rw [show m - 100 + 100 = m by omega] at this
        exact this
  refine qX0_valueAt_0 ?_ (loop (p - 2) 1 99900 (by omega) (Nat.le_refl _) (by omega))
  rw [e02]
  exact (i3_le (a := 2) (by decide) (by omega)).mpr h2
theorem sX10_byCurve {C D : am_M} (hP : RP C D) {t : Nat} (ht : t < 4) (h2 : 2 ≤ nt (D 34 0 t)) (x : Int64) : fX10_byCurve [.inr (10, 0), .inl (.int (i3 t)), .inl (.long x)] D = am_rJ (cvr (fun j => D 32 0 (5 * t + j)) (fun j => D 33 0 (5 * t + j)) x (nt (D 34 0 t) - 2) 1) D := by
  obtain ⟨p1, p2, p3, p4, p5, p6, p7, _⟩ := hP
  have w := (p4 t ht).2
  have e34 : D 34 0 t = i3 (nt (D 34 0 t)) := w.1
  have h5 := w.2
  have p7' := fun j hj => p7 t j ht hj
  generalize hp : nt (D 34 0 t) = p at *
  have e5 : (5 : Int32) * i3 t = i3 (5 * t) := i3_mul 5 t
  have ee : 5 * i3 t + D 34 0 t = i3 (5 * t + p) := by rw [e5, e34, i3_add]
  have rd : ∀ i, 1 ≤ i → i < p → fX10_rounded [.inl (.long ((x - (D 32 0 (5 * t + (i - 1))).toInt64) * (D 33 0 (5 * t + i) - D 33 0 (5 * t + (i - 1))).toInt64)), .inl (.long (D 32 0 (5 * t + i) - D 32 0 (5 * t + (i - 1))).toInt64)] D = am_rJ (rnd ((x - (D 32 0 (5 * t + (i - 1))).toInt64) * (D 33 0 (5 * t + i) - D 33 0 (5 * t + (i - 1))).toInt64) (D 32 0 (5 * t + i) - D 32 0 (5 * t + (i - 1))).toInt64) D := by
    intro i h1 hi
    have lt := p7' (i - 1) (by omega)
    rw [show 5 * t + (i - 1) + 1 = 5 * t + i by omega] at lt
    have b1 := p6 t i ht (by omega)
    have b2 := p6 t (i - 1) ht (by omega)
    obtain ⟨q1, q2⟩ := df_pos ⟨b1.1, b1.2.1⟩ ⟨b2.1, b2.2.1⟩ lt
    exact sX10_rounded q1 q2 D
  have loop : ∀ (k i m : Nat), i + k = p - 1 → 1 ≤ i → 200 * (k + 1) ≤ m → rX10_byCurve m 5 [.inr (10, 0), .inl (.int (i3 t)), .inl (.long x), am_D, .inl (.int (i3 (5 * t + (i - 1)))), am_D, am_D, am_D, am_D] [] D = am_rJ (cvr (fun j => D 32 0 (5 * t + j)) (fun j => D 33 0 (5 * t + j)) x k i) D := by
    intro k
    induction k with
    | zero =>
      intro i m hi h1 hm
      have i1 : i3 (5 * t + (i - 1)) + 1 = i3 (5 * t + i) := by rw [i3_one, show 5 * t + (i - 1) + 1 = 5 * t + i by omega]
      have i2 : i3 (5 * t + (i - 1)) + 2 = i3 (5 * t + i + 1) := by
        show i3 (5 * t + (i - 1)) + i3 2 = _
        rw [i3_add, show 5 * t + (i - 1) + 2 = 5 * t + i + 1 by omega]
      have := qX10_byCurve_5_0 (x2 := x) (n := m - 200) (j2 := 5 * t + i) (x4 := 5 * t + (i - 1)) ht rfl (by rw [ee, i2]; exact (i3_le (by omega) (by omega)).mpr (by omega)) (by omega) i1 (by omega) (rd i h1 (by omega))
      rw [show m - 200 + 200 = m by omega] at this
      exact this
    | succ k ih =>
      intro i m hi h1 hm
      have i1 : i3 (5 * t + (i - 1)) + 1 = i3 (5 * t + i) := by rw [i3_one, show 5 * t + (i - 1) + 1 = 5 * t + i by omega]
      have i2 : i3 (5 * t + (i - 1)) + 2 = i3 (5 * t + i + 1) := by
        show i3 (5 * t + (i - 1)) + i3 2 = _
        rw [i3_add, show 5 * t + (i - 1) + 2 = 5 * t + i + 1 by omega]
      have g : ¬ 5 * i3 t + D 34 0 t ≤ i3 (5 * t + (i - 1)) + 2 := by rw [i2]; exact hge ee (by omega) (by omega)
      show _ = am_rJ (if lg_cmp x (D 32 0 (5 * t + i)).toInt64 ≤ 0 then _ else _) D
      by_cases q : lg_cmp x (D 32 0 (5 * t + i)).toInt64 ≤ 0
      · rw [if_pos q]
        have := qX10_byCurve_5_1 (x2 := x) (n := m - 200) (j2 := 5 * t + i) (x4 := 5 * t + (i - 1)) ht rfl g (by omega) i1 q (by omega) (rd i h1 (by omega))
        rw [show m - 200 + 200 = m by omega] at this
        exact this
      · rw [if_neg q]
        have hk := ih (i + 1) (m - 100) (by omega) (by omega) (by omega)
        rw [show 5 * t + (i + 1 - 1) = 5 * t + (i - 1) + 1 by omega] at hk
        have := qX10_byCurve_5_2 (x2 := x) (n := m - 100) (j2 := 5 * t + i) (x4 := 5 * t + (i - 1)) ht rfl g (by omega) i1 q hk
        rw [show m - 100 + 100 = m by omega] at this
        exact this
  refine qX10_byCurve_0 ?_
  rw [e5]
  exact loop (p - 2) 1 99900 (by omega) (Nat.le_refl _) (by omega)
