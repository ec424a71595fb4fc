/-! ===== numbers, answers, steps of a proof ===== -/
abbrev i3 (n : Nat) : Int32 := Int32.ofNat n
theorem i3_toInt {n : Nat} (h : n < 2147483648) : (i3 n).toInt = n := Int32.toInt_ofNat_of_lt h
theorem i3_nat {n : Nat} (h : n < 2147483648) : (i3 n).toNatClampNeg = n := Int32.toNatClampNeg_ofNat_of_lt h
theorem i3_lt {a b : Nat} (ha : a < 2147483648) (hb : b < 2147483648) : i3 a < i3 b ↔ a < b := Int32.ofNat_lt_iff_lt ha hb
theorem i3_le {a b : Nat} (ha : a < 2147483648) (hb : b < 2147483648) : i3 a ≤ i3 b ↔ a ≤ b := Int32.ofNat_le_iff_le ha hb
theorem i3_inj {a b : Nat} (ha : a < 2147483648) (hb : b < 2147483648) : i3 a = i3 b ↔ a = b := by
  refine ⟨fun h => ?_, fun h => h ▸ rfl⟩
  have := congrArg Int32.toNatClampNeg h
  rw [i3_nat ha, i3_nat hb] at this
  exact this
theorem i3_in {i n : Nat} (h : i < 2147483648) : am_in (i3 i) n ↔ i < n := by
  unfold am_in
  rw [i3_toInt h]
  omega
theorem i3_in' {i n : Nat} (h : i < n) (hn : n ≤ 2147483648) : am_in (i3 i) n := (i3_in (Nat.lt_of_lt_of_le h hn)).mpr h
theorem i3_add (a b : Nat) : i3 a + i3 b = i3 (a + b) := (Int32.ofNat_add a b).symm
theorem i3_one (a : Nat) : i3 a + 1 = i3 (a + 1) := (Int32.ofNat_add a 1).symm
theorem i3_sub {a b : Nat} (h : b ≤ a) : i3 a - i3 b = i3 (a - b) := (Int32.ofNat_sub a b h).symm
theorem i3_of {x : Int32} (h : 0 ≤ x) : x = i3 x.toNatClampNeg := (Int32.ofNat_toNatClampNeg x h).symm
theorem i3_ge {a : Nat} (ha : a < 2147483648) : (0 : Int32) ≤ i3 a := (i3_le (a := 0) (by decide) ha).mpr (Nat.zero_le _)
theorem i3_nm {n : Nat} (h : n < 2147483648) : ¬ i3 n = -1 := fun e => by
  have := congrArg Int32.toInt e
  rw [i3_toInt h] at this
  rw [show (-1 : Int32).toInt = -1 by decide] at this
  omega
theorem i3_nl {n : Nat} (h : n < 2147483648) : ¬ i3 n < 0 := fun e => by
  have := Int32.lt_iff_toInt_lt.mp e
  rw [i3_toInt h] at this
  rw [show (0 : Int32).toInt = 0 by decide] at this
  omega
/-- x lies in 0..m -/
theorem i3_ex {x : Int32} {m : Nat} (hm : m < 2147483648) (h0 : 0 ≤ x) (h1 : x ≤ i3 m) : ∃ k, k ≤ m ∧ x = i3 k := by
  refine ⟨x.toNatClampNeg, ?_, i3_of h0⟩
  rw [i3_of h0] at h1
  exact (i3_le (Int32.toNatClampNeg_lt x) hm).mp h1
theorem i3_nle {x y : Int32} : ¬ x ≤ y ↔ y < x := by
  rw [Int32.le_iff_toInt_le, Int32.lt_iff_toInt_lt]; omega
theorem i3_nlt {x y : Int32} : ¬ x < y ↔ y ≤ x := by
  rw [Int32.le_iff_toInt_le, Int32.lt_iff_toInt_lt]; omega
/-- a truth as a number -/
noncomputable def bi (p : Prop) : Int32 := @ite _ p (Classical.propDecidable p) 1 0
theorem bi_t {p : Prop} (h : p) : bi p = 1 := by unfold bi; exact if_pos h
theorem bi_f {p : Prop} (h : ¬ p) : bi p = 0 := by unfold bi; exact if_neg h
theorem bi_0 {p : Prop} : bi p = 0 ↔ ¬ p := by
  refine ⟨fun e h => ?_, bi_f⟩
  rw [bi_t h] at e
  exact absurd e (by decide)
theorem bi_1 {p : Prop} : bi p = 1 ↔ p := by
  refine ⟨fun e => Classical.byContradiction fun h => ?_, bi_t⟩
  rw [bi_f h] at e
  exact absurd e (by decide)
theorem bi_b (p : Prop) : am_b (bi p) = bi p := by
  by_cases h : p
  · rw [bi_t h]; rfl
  · rw [bi_f h]; rfl
theorem bi_c {p q : Prop} (h : p ↔ q) : bi p = bi q := by rw [propext h]
abbrev am_rI (v : Int32) (M : am_M) : am_R := some (.inl (some (.inl (.int v))), M)
abbrev am_rJ (v : Int64) (M : am_M) : am_R := some (.inl (some (.inl (.long v))), M)
abbrev am_rV (M : am_M) : am_R := some (.inl none, M)
abbrev am_rE (E : String) (M : am_M) : am_R := some (.inr E, M)
theorem ip {c : Prop} [Decidable c] {A B r : am_R} (h : c) (k : A = r) : (if c then A else B) = r := (if_pos h).trans k
theorem iq {c : Prop} [Decidable c] {A B r : am_R} (h : ¬ c) (k : B = r) : (if c then A else B) = r := (if_neg h).trans k
theorem ir {c : Prop} [Decidable c] {A B r : am_R} (h : c → A = r) (k : ¬ c → B = r) : (if c then A else B) = r := by
  by_cases q : c
  · exact ip q (h q)
  · exact iq q (k q)
theorem ri {hs : List (Nat × Nat × String × Value)} {pc : Nat} {rest : List am_V} {K : List am_V → am_M → am_R} {v : Int32} {M : am_M} {f r : am_R} (h : f = am_rI v M) (k : K (.inl (.int v) :: rest) M = r) : am_ret hs pc rest K f = r := by rw [h]; exact k
theorem rj {hs : List (Nat × Nat × String × Value)} {pc : Nat} {rest : List am_V} {K : List am_V → am_M → am_R} {v : Int64} {M : am_M} {f r : am_R} (h : f = am_rJ v M) (k : K (.inl (.long v) :: rest) M = r) : am_ret hs pc rest K f = r := by rw [h]; exact k
theorem rv {hs : List (Nat × Nat × String × Value)} {pc : Nat} {rest : List am_V} {K : List am_V → am_M → am_R} {M : am_M} {f r : am_R} (h : f = am_rV M) (k : K rest M = r) : am_ret hs pc rest K f = r := by rw [h]; exact k
theorem re {pc : Nat} {rest : List am_V} {K : List am_V → am_M → am_R} {E : String} {M : am_M} {f : am_R} (h : f = am_rE E M) : am_ret [] pc rest K f = am_rE E M := by rw [h]; rfl
theorem am_put_i {M : am_M} {k i f : Nat} {v : Int32} : am_put M k i f v k i f = v := if_pos ⟨rfl, rfl, rfl⟩
theorem am_put_nk {M : am_M} {k i f k' i' f' : Nat} {v : Int32} (h : ¬ k' = k) : am_put M k i f v k' i' f' = M k' i' f' := if_neg (fun e => h e.1)
theorem am_put_ni {M : am_M} {k i f k' i' f' : Nat} {v : Int32} (h : ¬ i' = i) : am_put M k i f v k' i' f' = M k' i' f' := if_neg (fun e => h e.2.1)
theorem am_put_nf {M : am_M} {k i f k' i' f' : Nat} {v : Int32} (h : ¬ f' = f) : am_put M k i f v k' i' f' = M k' i' f' := if_neg (fun e => h e.2.2)
theorem am_put_self {M : am_M} {k i f : Nat} : am_put M k i f (M k i f) = M := by
  funext k' i' f'
  unfold am_put
  by_cases h : k' = k ∧ i' = i ∧ f' = f
  · obtain ⟨rfl, rfl, rfl⟩ := h; rw [if_pos ⟨rfl, rfl, rfl⟩]
  · rw [if_neg h]
theorem b01 {x : Int32} (h : x = 0 ∨ x = 1) : am_b x = x := by rcases h with rfl | rfl <;> rfl
theorem i3_mul (a b : Nat) : i3 a * i3 b = i3 (a * b) := (Int32.ofNat_mul a b).symm
theorem i3_ext {x y : Int32} (h : x.toInt = y.toInt) : x = y := Int32.toInt_inj.mp h
theorem ixm {j n : Nat} (h : j < n) (hn : n ≤ 2147483648) : Int32.toNatClampNeg (i3 j) = j := i3_nat (Nat.lt_of_lt_of_le h hn)
theorem ixi {X : Int32} {j n : Nat} (hx : X = i3 j) (h : j < n) (hn : n ≤ 2147483648) : am_in X n := by rw [hx]; exact i3_in' h hn
theorem ixn {X : Int32} {j n : Nat} (hx : X = i3 j) (h : j < n) (hn : n ≤ 2147483648) : Int32.toNatClampNeg X = j := by rw [hx]; exact ixm h hn
theorem rh {hs : List (Nat × Nat × String × Value)} {pc : Nat} {rest : List am_V} {K : List am_V → am_M → am_R} {E : String} {M : am_M} {f : am_R} {c : Int32} (h : f = am_rE E M) (hc : am_catch hs pc E = some (.int c)) : am_ret hs pc rest K f = am_rI c M := by rw [h]; unfold am_ret; dsimp only; rw [hc]
theorem rg {hs : List (Nat × Nat × String × Value)} {pc : Nat} {rest : List am_V} {K : List am_V → am_M → am_R} {E : String} {M : am_M} {f : am_R} (h : f = am_rE E M) (hc : am_catch hs pc E = none) : am_ret hs pc rest K f = am_rE E M := by rw [h]; unfold am_ret; dsimp only; rw [hc]
theorem rq {hs : List (Nat × Nat × String × Value)} {pc : Nat} {rest : List am_V} {K : List am_V → am_M → am_R} {v : Nat} {M : am_M} {f r : am_R} (h : f = some (.inl (some (.inr (1, v))), M)) (hv : v < 10) (k : K (.inr (1, v) :: rest) M = r) : am_ret hs pc rest K f = r := by
  rw [h]
  have e : Nat.blt v 10 = true := Nat.blt_eq.mpr hv
  show cond (Nat.blt v 10) (K (.inr (1, v) :: rest) M) none = r
  rw [e]; exact k
theorem rn {hs : List (Nat × Nat × String × Value)} {pc : Nat} {rest : List am_V} {K : List am_V → am_M → am_R} {M : am_M} {f r : am_R} (h : f = some (.inl (some (.inl .null)), M)) (k : K (.inl .null :: rest) M = r) : am_ret hs pc rest K f = r := by rw [h]; exact k
theorem dm {c : Prop} [Decidable c] {K : am_V → am_R} {a b : Int32} {r : am_R} (h : K (.inl (.int (if c then a else b))) = r) : (if c then K (.inl (.int a)) else K (.inl (.int b))) = r := by
  by_cases q : c
  · rw [if_pos q] at h; rw [if_pos q]; exact h
  · rw [if_neg q] at h; rw [if_neg q]; exact h
theorem am_finb {ls : List am_V} {v : Int32} {M : am_M} (h : am_b v = v) : Option.map (fun o => (o, M)) (am_fin 2 .ireturn ls [.inl (.int v)]) = am_rI v M := by
  show Option.map _ (if am_b v = v then _ else _) = _
  rw [if_pos h]; rfl
/-! the small methods of the class -/
theorem sX9_isWithin (x a b : Int32) (M : am_M) : fX9_isWithin [.inl (.int x), .inl (.int a), .inl (.int b)] M = am_rI (bi (a ≤ x ∧ x ≤ b)) M := by
  rw [eX9_isWithin]
  refine eX9_isWithin_0 (ir (fun h => ?_) (fun h => ir (fun h2 => ?_) (fun h2 => ?_)))
  · rw [bi_f (fun e => i3_nle.mpr h e.1)]
  · rw [bi_f (fun e => i3_nle.mpr h2 e.2)]
  · rw [bi_t ⟨i3_nlt.mp h, i3_nlt.mp h2⟩]
theorem sX10_within (x a b : Int32) (M : am_M) : fX10_within [.inl (.int x), .inl (.int a), .inl (.int b)] M = am_rI (bi (a ≤ x ∧ x ≤ b)) M := by
  rw [eX10_within]
  refine eX10_within_0 (ir (fun h => ?_) (fun h => ir (fun h2 => ?_) (fun h2 => ?_)))
  · rw [bi_f (fun e => i3_nle.mpr h e.1)]
  · rw [bi_f (fun e => i3_nle.mpr h2 e.2)]
  · rw [bi_t ⟨i3_nlt.mp h, i3_nlt.mp h2⟩]
