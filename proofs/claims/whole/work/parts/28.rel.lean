/-! ===== how the class's memory C and the reference's memory D belong together ===== -/
def nt (x : Int32) : Nat := x.toNatClampNeg
theorem nt_i {n : Nat} (h : n < 2147483648) : nt (i3 n) = n := i3_nat h
theorem nt_lt (x : Int32) : nt x < 2147483648 := Int32.toNatClampNeg_lt x
theorem nt_0 : nt 0 = 0 := by decide
theorem i3_nt {x : Int32} (h : 0 ≤ x) : x = i3 (nt x) := i3_of h
/-- x lies in 0..m -/
def wi (x : Int32) (m : Nat) : Prop := x = i3 (nt x) ∧ nt x ≤ m
theorem wi_of {k m : Nat} (h : k ≤ m) (hm : m < 2147483648) : wi (i3 k) m := by
  have e : nt (i3 k) = k := nt_i (Nat.lt_of_le_of_lt h hm)
  exact ⟨by rw [e], by rw [e]; exact h⟩
theorem wi_le {x : Int32} {m : Nat} (hm : m < 2147483648) (h0 : 0 ≤ x) (h1 : x ≤ i3 m) : wi x m := by
  obtain ⟨k, hk, e⟩ := i3_ex hm h0 h1
  rw [e]; exact wi_of hk hm
theorem wi_mono {x : Int32} {m m' : Nat} (h : wi x m) (hm : m ≤ m') : wi x m' := ⟨h.1, Nat.le_trans h.2 hm⟩
theorem wi_ge {x : Int32} {m : Nat} (h : wi x m) : 0 ≤ x := by rw [h.1]; exact i3_ge (nt_lt x)
/-- a booking: step, kind, place, volume, order -/
abbrev Bk : Type := Nat × Nat × Nat × Nat × Nat
/-- what is reserved at a place -/
def rsv : List Bk → Nat → Nat
  | [], _ => 0
  | x :: l, p => (if x.2.2.1 = p then x.2.2.2.1 else 0) + rsv l p
/-- a test's field -/
abbrev fd (D : am_M) (t f : Nat) : Int32 := D 30 0 (16 * t + f)
/-- what sealing makes sure of -/
def cmpl (D : am_M) (t : Nat) : Prop :=
  (fd D t 1 = -1 → fd D t 4 = -1) ∧
  (¬ fd D t 1 = -1 → 1 ≤ nt (fd D t 3) ∧ nt (fd D t 3) < nt (fd D t 7)) ∧
  (¬ fd D t 4 = -1 → nt (fd D t 3) < nt (fd D t 6) ∧ nt (fd D t 6) < nt (fd D t 7)) ∧
  1 ≤ nt (fd D t 7) ∧ nt (fd D t 7) ≤ nt (fd D t 8) ∧ nt (fd D t 8) ≤ nt (fd D t 7) + 5 ∧
  (fd D t 9 = 1 → nt (fd D t 7) < nt (fd D t 8)) ∧ 2 ≤ nt (D 34 0 t)
/-- protocols -/
def RP (C D : am_M) : Prop :=
  (∀ t f, t < 4 → f < 16 → C 18 t f = fd D t f) ∧
  (∀ t f, t < 4 → f < 16 → am_st 27 f ≤ fd D t f ∧ fd D t f ≤ am_st 28 f) ∧
  (∀ t, t < 4 → C 6 t 3 = D 31 0 t ∧ (D 31 0 t = 0 ∨ D 31 0 t = 1)) ∧
  (∀ t, t < 4 → C 0 t 2 = D 34 0 t ∧ wi (D 34 0 t) 5) ∧
  (∀ t j, t < 4 → j < 5 → C 11 t j = D 32 0 (5 * t + j) ∧ C 12 t j = D 33 0 (5 * t + j)) ∧
  (∀ t j, t < 4 → j < 5 → -1000000 ≤ D 32 0 (5 * t + j) ∧ D 32 0 (5 * t + j) ≤ 1000000 ∧ -1000000 ≤ D 33 0 (5 * t + j) ∧ D 33 0 (5 * t + j) ≤ 1000000) ∧
  (∀ t j, t < 4 → j + 1 < nt (D 34 0 t) → D 32 0 (5 * t + j) < D 32 0 (5 * t + j + 1)) ∧
  (∀ t, t < 4 → C 2 t 1 = D 36 0 t ∧ wi (D 36 0 t) 10) ∧
  (∀ t j, t < 4 → j < 10 → C 16 t j = D 35 0 (10 * t + j)) ∧
  (∀ t, t < 4 → D 31 0 t = 1 → cmpl D t)
/-- slots -/
def RS (C D : am_M) : Prop := ∀ s, s < 6 →
  ((C 8 s 0 = -1 ∧ D 37 0 s = 0) ∨ (C 8 s 0 = D 37 0 s ∧ 1 ≤ D 37 0 s ∧ D 37 0 s ≤ 999999)) ∧
  C 8 s 1 = D 38 0 s ∧ (D 38 0 s = 0 ∨ D 38 0 s = 1) ∧ C 8 s 2 = D 39 0 s ∧ wi (D 39 0 s) 100000
/-- successions -/
def RF (C D : am_M) : Prop := ∀ i, i < 36 → C 21 0 i = D 43 0 i ∧ (D 43 0 i = 0 ∨ D 43 0 i = 1)
/-- positions -/
def RQ (L : List Bk) (C D : am_M) : Prop := ∀ p, p < 8 →
  C 5 p 0 = D 40 0 p ∧ (D 40 0 p = -1 ∨ wi (D 40 0 p) 5) ∧ C 5 p 1 = D 41 0 p ∧ wi (D 41 0 p) 100000 ∧ C 5 p 3 = D 42 0 p ∧
  C 5 p 2 = i3 (rsv L p) ∧ rsv L p ≤ nt (D 41 0 p)
/-- numbers -/
def RN (T n : Nat) (C D : am_M) : Prop :=
  C 9 0 7 = i3 n ∧ D 10 0 14 = i3 n ∧ n ≤ 40 ∧ C 9 0 8 = D 10 0 41 ∧ C 9 0 9 = D 10 0 44 ∧ 1 ≤ D 10 0 44 ∧ D 10 0 44 ≤ 65535 ∧
  C 9 0 10 = D 10 0 46 ∧ (D 10 0 46 = 0 ∨ D 10 0 46 = 1) ∧ C 9 0 11 = D 10 0 47 ∧ (D 10 0 47 = 0 ∨ D 10 0 47 = 1) ∧
  C 9 0 12 = D 10 0 43 ∧ D 10 0 42 = i3 T
/-- orders -/
def RO (n : Nat) (C D : am_M) : Prop :=
  (∀ o, o < 40 → (o < n → C 4 o 0 = D 45 0 o) ∧ C 4 o 1 = D 46 0 o ∧ C 4 o 2 = D 47 0 o ∧ C 4 o 3 = D 48 0 o ∧ C 4 o 4 = D 49 0 o ∧ C 4 o 5 = D 50 0 o ∧ C 4 o 6 = D 53 0 o ∧ C 4 o 8 = D 57 0 o ∧ C 4 o 9 = D 58 0 o) ∧
  (∀ o, o < 40 → wi (D 46 0 o) 3 ∧ (D 47 0 o = 0 ∨ D 47 0 o = 1) ∧ wi (D 48 0 o) 3 ∧ wi (D 50 0 o) 2 ∧ (D 53 0 o = 0 ∨ D 53 0 o = 1)) ∧
  (∀ o, o < 40 → n ≤ o → D 48 0 o = 0 ∧ D 50 0 o = 0 ∧ C 4 o 7 = -1) ∧
  (∀ o, o < 40 → D 50 0 o = 0 → D 53 0 o = 0) ∧
  (∀ o, o < 40 → D 48 0 o = 0 → nt (D 50 0 o) ≤ 1) ∧
  (∀ o, o < 40 → D 48 0 o = 1 → 1 ≤ nt (D 50 0 o) ∧ (D 50 0 o = 1 → D 53 0 o = 0)) ∧
  (∀ o, o < n → C 4 o 7 = D 51 0 o ∧ 1 ≤ D 45 0 o ∧ D 45 0 o ≤ 999999) ∧
  (∀ o, o < n → ¬ D 48 0 o = 1 → D 51 0 o = -1) ∧
  (∀ o, o < n → D 48 0 o = 1 → wi (D 51 0 o) 9) ∧
  (∀ o, o < n → nt (D 48 0 o) ≤ 1 → cmpl D (nt (D 46 0 o)))
/-- how many orders are released -/
def rel (d : Nat → Int32) : Nat → Nat
  | 0 => 0
  | k + 1 => rel d k + (if d k = 2 then 1 else 0)
/-- host -/
def RH (C D : am_M) : Prop := C 3 0 1 = D 10 0 40 ∧ wi (D 10 0 40) (rel (D 48 0) 40) ∧ ∀ i, i < 40 → C 17 0 i = D 69 0 i
/-- the doses that are still to be given in a cuvette -/
def pnd1 (T : Nat) (C D : am_M) (c o t w : Nat) : List Bk :=
  if nt (C 1 c 4) ≤ w ∧ ¬ C 14 c w = -1 then [(T + nt (fd D t (3 + 3 * w)) - nt (D 52 0 o), nt (fd D t (1 + 3 * w)), nt (C 14 c w), nt (C 15 c w), o)] else []
/-- order o of test t runs in cuvette c -/
def RU (lo ms jd T : Nat) (L : List Bk) (C D : am_M) (c o t : Nat) : Prop :=
  C 1 c 5 = i3 o ∧ D 59 0 c = 0 ∧ C 1 c 7 = D 52 0 o ∧ D 52 0 o = i3 (nt (D 52 0 o)) ∧ nt (D 52 0 o) ≤ nt (fd D t 8) + 1 ∧
  (o < jd → nt (D 52 0 o) ≤ nt (fd D t 8)) ∧
  C 1 c 6 = D 54 0 o ∧ (D 54 0 o = 0 ∨ D 54 0 o = 1) ∧
  C 1 c 1 = D 56 0 o ∧ D 56 0 o = i3 (if o < ms then min (nt (D 52 0 o)) (nt (fd D t 8)) + 1 - nt (fd D t 7) else nt (D 52 0 o) - nt (fd D t 7)) ∧
  (∀ j, j < nt (D 56 0 o) → C 13 c j = D 55 0 (6 * o + j)) ∧
  wi (C 1 c 4) 2 ∧
  (∀ w, w < 2 → (C 14 c w = -1 ∧ fd D t (1 + 3 * w) = -1 ∨ wi (C 14 c w) 7 ∧ wi (fd D t (1 + 3 * w)) 5) ∧ C 15 c w = fd D t (2 + 3 * w)) ∧
  (∀ w, w < 2 → nt (C 1 c 4) ≤ w → ¬ C 14 c w = -1 → nt (D 52 0 o) + lo ≤ nt (fd D t (3 + 3 * w))) ∧
  (L.filter (fun x => x.2.2.2.2 == o)).Perm (pnd1 T C D c o t 0 ++ pnd1 T C D c o t 1)
/-- cuvettes -/
def RC (lo ms jd T n : Nat) (L : List Bk) (C D : am_M) : Prop :=
  (∀ c, c < 10 → C 1 c 8 = D 59 0 c ∧ wi (D 59 0 c) 3 ∧ C 1 c 9 = D 60 0 c) ∧
  (∀ c, c < 10 → C 1 c 5 = -1 ∨ ∃ o, o < n ∧ C 1 c 5 = i3 o ∧ D 51 0 o = i3 c) ∧
  (∀ o c, o < n → c < 10 → D 51 0 o = i3 c → RU lo ms jd T L C D c o (nt (D 46 0 o)))
/-- bookings -/
def RB (lo T n : Nat) (L : List Bk) (C D : am_M) : Prop :=
  D 10 0 36 = i3 L.length ∧ (L.map (fun x => x.1)).Nodup ∧
  (∀ b x, L[b]? = some x → D 61 0 b = i3 x.1 ∧ D 62 0 b = i3 x.2.1 ∧ D 63 0 b = i3 x.2.2.1 ∧ D 64 0 b = i3 x.2.2.2.1 ∧ D 65 0 b = i3 x.2.2.2.2) ∧
  (∀ x, x ∈ L → T + lo ≤ x.1 ∧ x.1 ≤ T + 12 ∧ x.2.1 < 6 ∧ x.2.2.1 < 8 ∧ x.2.2.2.1 ≤ 2000 ∧ x.2.2.2.2 < n ∧ ∃ c, c < 10 ∧ D 51 0 x.2.2.2.2 = i3 c ∧ C 20 0 (x.1 - T) = i3 c ∧ C 19 0 (x.1 - T) = i3 x.2.1) ∧
  (∀ i, lo ≤ i → i < 13 → (C 19 0 i = -1 ∧ C 20 0 i = -1) ∨ ∃ x, x ∈ L ∧ x.1 = T + i) ∧
  (lo = 1 → C 19 0 0 = (if D 10 0 37 = i3 T then D 10 0 38 else -1)) ∧
  wi (D 10 0 37) (T + lo - 1) ∧ (D 10 0 38 = -1 ∨ wi (D 10 0 38) 5)
def Rel (lo ms jd T n : Nat) (L : List Bk) (C D : am_M) : Prop :=
  RP C D ∧ RS C D ∧ RF C D ∧ RQ L C D ∧ RN T n C D ∧ RO n C D ∧ RH C D ∧ RC lo ms jd T n L C D ∧ RB lo T n L C D
theorem Rel_cg {lo ms jd T n : Nat} {L : List Bk} {C D C' D' : am_M} (h : Rel lo ms jd T n L C D) (hC : ∀ k, k < 10 ∨ 11 ≤ k ∧ k < 22 → C' k = C k) (hD : ∀ k, k = 10 ∨ 30 ≤ k ∧ k < 70 → D' k = D k) : Rel lo ms jd T n L C' D' := by
  unfold Rel RP RS RF RQ RN RO RH RC RB RU pnd1 cmpl fd at h ⊢
  rw [hC 18 (by decide), hC 6 (by decide), hC 0 (by decide), hC 11 (by decide), hC 12 (by decide), hC 2 (by decide), hC 16 (by decide), hC 8 (by decide), hC 21 (by decide), hC 5 (by decide), hC 9 (by decide), hC 4 (by decide), hC 3 (by decide), hC 17 (by decide), hC 1 (by decide), hC 13 (by decide), hC 14 (by decide), hC 15 (by decide), hC 19 (by decide), hC 20 (by decide),
    hD 10 (by decide), hD 30 (by decide), hD 31 (by decide), hD 32 (by decide), hD 33 (by decide), hD 34 (by decide), hD 35 (by decide), hD 36 (by decide), hD 37 (by decide), hD 38 (by decide), hD 39 (by decide), hD 40 (by decide), hD 41 (by decide), hD 42 (by decide), hD 43 (by decide), hD 45 (by decide), hD 46 (by decide), hD 47 (by decide), hD 48 (by decide), hD 49 (by decide), hD 50 (by decide), hD 51 (by decide), hD 52 (by decide), hD 53 (by decide), hD 54 (by decide), hD 55 (by decide), hD 56 (by decide), hD 57 (by decide), hD 58 (by decide), hD 59 (by decide), hD 60 (by decide), hD 61 (by decide), hD 62 (by decide), hD 63 (by decide), hD 64 (by decide), hD 65 (by decide), hD 69 (by decide)]
  exact h
