/-! ===== the first memory; the law's loop ===== -/
theorem ft_l {a b : Bool} (h : (a && b) = true) : a = true := by cases a <;> first | rfl | cases h
theorem ft_r {a b : Bool} (h : (a && b) = true) : b = true := by cases a <;> first | exact h | cases h
def ft_1 : Bool := decide (∀ t : Nat, t < 4 → ∀ f : Nat, f < 16 → bm_M0 18 t f = fd bm_M0 t f)
def ft_2 : Bool := decide (∀ t : Nat, t < 4 → ∀ f : Nat, f < 16 → am_st 27 f ≤ fd bm_M0 t f ∧ fd bm_M0 t f ≤ am_st 28 f)
def ft_3 : Bool := decide (∀ t : Nat, t < 4 → bm_M0 6 t 3 = bm_M0 31 0 t ∧ (bm_M0 31 0 t = 0 ∨ bm_M0 31 0 t = 1))
def ft_4 : Bool := decide (∀ t : Nat, t < 4 → bm_M0 0 t 2 = bm_M0 34 0 t ∧ (bm_M0 34 0 t = i3 (nt (bm_M0 34 0 t)) ∧ nt (bm_M0 34 0 t) ≤ 5))
def ft_5 : Bool := decide (∀ t : Nat, t < 4 → ∀ j : Nat, j < 5 → bm_M0 11 t j = bm_M0 32 0 (5 * t + j) ∧ bm_M0 12 t j = bm_M0 33 0 (5 * t + j))
def ft_6 : Bool := decide (∀ t : Nat, t < 4 → ∀ j : Nat, j < 5 → -1000000 ≤ bm_M0 32 0 (5 * t + j) ∧ bm_M0 32 0 (5 * t + j) ≤ 1000000 ∧ -1000000 ≤ bm_M0 33 0 (5 * t + j) ∧ bm_M0 33 0 (5 * t + j) ≤ 1000000)
def ft_7 : Bool := decide (∀ t : Nat, t < 4 → nt (bm_M0 34 0 t) = 0)
def ft_8 : Bool := decide (∀ t : Nat, t < 4 → bm_M0 2 t 1 = bm_M0 36 0 t ∧ (bm_M0 36 0 t = i3 (nt (bm_M0 36 0 t)) ∧ nt (bm_M0 36 0 t) ≤ 10))
def ft_9 : Bool := decide (∀ t : Nat, t < 4 → ∀ j : Nat, j < 10 → bm_M0 16 t j = bm_M0 35 0 (10 * t + j))
def ft_10 : Bool := decide (∀ t : Nat, t < 4 → bm_M0 31 0 t = 0)
def ft_11 : Bool := decide (∀ s : Nat, s < 6 → ((bm_M0 8 s 0 = -1 ∧ bm_M0 37 0 s = 0) ∧ bm_M0 8 s 1 = bm_M0 38 0 s ∧ (bm_M0 38 0 s = 0 ∨ bm_M0 38 0 s = 1) ∧ bm_M0 8 s 2 = bm_M0 39 0 s ∧ (bm_M0 39 0 s = i3 (nt (bm_M0 39 0 s)) ∧ nt (bm_M0 39 0 s) ≤ 100000)))
def ft_12 : Bool := decide (∀ i : Nat, i < 36 → bm_M0 21 0 i = bm_M0 43 0 i ∧ (bm_M0 43 0 i = 0 ∨ bm_M0 43 0 i = 1))
def ft_13 : Bool := decide (∀ p : Nat, p < 8 → bm_M0 5 p 0 = bm_M0 40 0 p ∧ bm_M0 40 0 p = -1 ∧ bm_M0 5 p 1 = bm_M0 41 0 p ∧ (bm_M0 41 0 p = i3 (nt (bm_M0 41 0 p)) ∧ nt (bm_M0 41 0 p) ≤ 100000) ∧ bm_M0 5 p 3 = bm_M0 42 0 p ∧ bm_M0 5 p 2 = i3 0)
def ft_14 : Bool := decide (bm_M0 9 0 7 = i3 0 ∧ bm_M0 10 0 14 = i3 0 ∧ 0 ≤ 40 ∧ bm_M0 9 0 8 = bm_M0 10 0 41 ∧ bm_M0 9 0 9 = bm_M0 10 0 44 ∧ 1 ≤ bm_M0 10 0 44 ∧ bm_M0 10 0 44 ≤ 65535 ∧ bm_M0 9 0 10 = bm_M0 10 0 46 ∧ (bm_M0 10 0 46 = 0 ∨ bm_M0 10 0 46 = 1) ∧ bm_M0 9 0 11 = bm_M0 10 0 47 ∧ (bm_M0 10 0 47 = 0 ∨ bm_M0 10 0 47 = 1) ∧ bm_M0 9 0 12 = bm_M0 10 0 43 ∧ bm_M0 10 0 42 = i3 0)
def ft_15 : Bool := decide (∀ o : Nat, o < 40 → bm_M0 4 o 1 = bm_M0 46 0 o ∧ bm_M0 4 o 2 = bm_M0 47 0 o ∧ bm_M0 4 o 3 = bm_M0 48 0 o ∧ bm_M0 4 o 4 = bm_M0 49 0 o ∧ bm_M0 4 o 5 = bm_M0 50 0 o ∧ bm_M0 4 o 6 = bm_M0 53 0 o ∧ bm_M0 4 o 8 = bm_M0 57 0 o ∧ bm_M0 4 o 9 = bm_M0 58 0 o)
def ft_16 : Bool := decide (∀ o : Nat, o < 40 → bm_M0 46 0 o = 0 ∧ bm_M0 47 0 o = 0 ∧ bm_M0 48 0 o = 0 ∧ bm_M0 50 0 o = 0 ∧ bm_M0 53 0 o = 0 ∧ bm_M0 4 o 7 = -1)
def ft_17 : Bool := decide (bm_M0 3 0 1 = bm_M0 10 0 40 ∧ bm_M0 10 0 40 = 0)
def ft_18 : Bool := decide (∀ i : Nat, i < 40 → bm_M0 17 0 i = bm_M0 69 0 i)
def ft_19 : Bool := decide (∀ c : Nat, c < 10 → bm_M0 1 c 8 = bm_M0 59 0 c ∧ (bm_M0 59 0 c = i3 (nt (bm_M0 59 0 c)) ∧ nt (bm_M0 59 0 c) ≤ 3) ∧ bm_M0 1 c 9 = bm_M0 60 0 c)
def ft_20 : Bool := decide (∀ c : Nat, c < 10 → bm_M0 1 c 5 = -1)
def ft_21 : Bool := decide (∀ i : Nat, i < 13 → bm_M0 19 0 i = -1 ∧ bm_M0 20 0 i = -1)
def ft_22 : Bool := decide (bm_M0 10 0 36 = 0 ∧ bm_M0 10 0 38 = -1)
def ft_23 : Bool := decide (bm_M0 10 0 37 = i3 (nt (bm_M0 10 0 37)) ∧ nt (bm_M0 10 0 37) ≤ 0)
theorem ft_tab : (ft_1 && (ft_2 && (ft_3 && (ft_4 && (ft_5 && (ft_6 && (ft_7 && (ft_8 && (ft_9 && (ft_10 && (ft_11 && (ft_12 && (ft_13 && (ft_14 && (ft_15 && (ft_16 && (ft_17 && (ft_18 && (ft_19 && (ft_20 && (ft_21 && (ft_22 && ft_23)))))))))))))))))))))) = true := by decide +kernel
theorem first_RP : RP bm_M0 bm_M0 := by
  refine ⟨?_, ?_, ?_, ?_, ?_, ?_, ?_, ?_, ?_, ?_⟩
  · have key : ∀ t, t < 4 → ∀ f, f < 16 → bm_M0 18 t f = fd bm_M0 t f := of_decide_eq_true (ft_l ft_tab)
    exact fun t f h1 h2 => key t h1 f h2
  · have key : ∀ t, t < 4 → ∀ f, f < 16 → am_st 27 f ≤ fd bm_M0 t f ∧ fd bm_M0 t f ≤ am_st 28 f := of_decide_eq_true (ft_l (ft_r ft_tab))
    exact fun t f h1 h2 => key t h1 f h2
  · have key : ∀ t, t < 4 → bm_M0 6 t 3 = bm_M0 31 0 t ∧ (bm_M0 31 0 t = 0 ∨ bm_M0 31 0 t = 1) := of_decide_eq_true (ft_l (ft_r (ft_r ft_tab)))
    exact key
  · have key : ∀ t, t < 4 → bm_M0 0 t 2 = bm_M0 34 0 t ∧ (bm_M0 34 0 t = i3 (nt (bm_M0 34 0 t)) ∧ nt (bm_M0 34 0 t) ≤ 5) := of_decide_eq_true (ft_l (ft_r (ft_r (ft_r ft_tab))))
    exact key
  · have key : ∀ t, t < 4 → ∀ j, j < 5 → bm_M0 11 t j = bm_M0 32 0 (5 * t + j) ∧ bm_M0 12 t j = bm_M0 33 0 (5 * t + j) := of_decide_eq_true (ft_l (ft_r (ft_r (ft_r (ft_r ft_tab)))))
    exact fun t f h1 h2 => key t h1 f h2
  · have key : ∀ t, t < 4 → ∀ j, j < 5 → -1000000 ≤ bm_M0 32 0 (5 * t + j) ∧ bm_M0 32 0 (5 * t + j) ≤ 1000000 ∧ -1000000 ≤ bm_M0 33 0 (5 * t + j) ∧ bm_M0 33 0 (5 * t + j) ≤ 1000000 := of_decide_eq_true (ft_l (ft_r (ft_r (ft_r (ft_r (ft_r ft_tab))))))
    exact fun t f h1 h2 => key t h1 f h2
  · have key : ∀ t, t < 4 → nt (bm_M0 34 0 t) = 0 := of_decide_eq_true (ft_l (ft_r (ft_r (ft_r (ft_r (ft_r (ft_r ft_tab)))))))
    intro t j h1 h2
    rw [key t h1] at h2
    exact absurd h2 (Nat.not_lt_zero _)
  · have key : ∀ t, t < 4 → bm_M0 2 t 1 = bm_M0 36 0 t ∧ (bm_M0 36 0 t = i3 (nt (bm_M0 36 0 t)) ∧ nt (bm_M0 36 0 t) ≤ 10) := of_decide_eq_true (ft_l (ft_r (ft_r (ft_r (ft_r (ft_r (ft_r (ft_r ft_tab))))))))
    exact key
  · have key : ∀ t, t < 4 → ∀ j, j < 10 → bm_M0 16 t j = bm_M0 35 0 (10 * t + j) := of_decide_eq_true (ft_l (ft_r (ft_r (ft_r (ft_r (ft_r (ft_r (ft_r (ft_r ft_tab)))))))))
    exact fun t f h1 h2 => key t h1 f h2
  · have key : ∀ t, t < 4 → bm_M0 31 0 t = 0 := of_decide_eq_true (ft_l (ft_r (ft_r (ft_r (ft_r (ft_r (ft_r (ft_r (ft_r (ft_r ft_tab))))))))))
    intro t h1 h2
    rw [key t h1] at h2
    exact absurd h2 (by decide)
theorem first_RS : RS bm_M0 bm_M0 := by
  have key : ∀ s, s < 6 → ((bm_M0 8 s 0 = -1 ∧ bm_M0 37 0 s = 0) ∧ bm_M0 8 s 1 = bm_M0 38 0 s ∧ (bm_M0 38 0 s = 0 ∨ bm_M0 38 0 s = 1) ∧ bm_M0 8 s 2 = bm_M0 39 0 s ∧ (bm_M0 39 0 s = i3 (nt (bm_M0 39 0 s)) ∧ nt (bm_M0 39 0 s) ≤ 100000)) := of_decide_eq_true (ft_l (ft_r (ft_r (ft_r (ft_r (ft_r (ft_r (ft_r (ft_r (ft_r (ft_r ft_tab)))))))))))
  exact fun s hs => ⟨Or.inl (key s hs).1, (key s hs).2⟩
theorem first_RF : RF bm_M0 bm_M0 := by
  have key : ∀ i, i < 36 → bm_M0 21 0 i = bm_M0 43 0 i ∧ (bm_M0 43 0 i = 0 ∨ bm_M0 43 0 i = 1) := of_decide_eq_true (ft_l (ft_r (ft_r (ft_r (ft_r (ft_r (ft_r (ft_r (ft_r (ft_r (ft_r (ft_r ft_tab))))))))))))
  exact key
theorem first_RQ : RQ [] bm_M0 bm_M0 := by
  have key : ∀ p, p < 8 → bm_M0 5 p 0 = bm_M0 40 0 p ∧ bm_M0 40 0 p = -1 ∧ bm_M0 5 p 1 = bm_M0 41 0 p ∧ (bm_M0 41 0 p = i3 (nt (bm_M0 41 0 p)) ∧ nt (bm_M0 41 0 p) ≤ 100000) ∧ bm_M0 5 p 3 = bm_M0 42 0 p ∧ bm_M0 5 p 2 = i3 0 := of_decide_eq_true (ft_l (ft_r (ft_r (ft_r (ft_r (ft_r (ft_r (ft_r (ft_r (ft_r (ft_r (ft_r (ft_r ft_tab)))))))))))))
  exact fun p hp => ⟨(key p hp).1, Or.inl (key p hp).2.1, (key p hp).2.2.1, (key p hp).2.2.2.1, (key p hp).2.2.2.2.1, (key p hp).2.2.2.2.2, Nat.zero_le _⟩
theorem first_RN : RN 0 0 bm_M0 bm_M0 := by
  have key : bm_M0 9 0 7 = i3 0 ∧ bm_M0 10 0 14 = i3 0 ∧ 0 ≤ 40 ∧ bm_M0 9 0 8 = bm_M0 10 0 41 ∧ bm_M0 9 0 9 = bm_M0 10 0 44 ∧ 1 ≤ bm_M0 10 0 44 ∧ bm_M0 10 0 44 ≤ 65535 ∧ bm_M0 9 0 10 = bm_M0 10 0 46 ∧ (bm_M0 10 0 46 = 0 ∨ bm_M0 10 0 46 = 1) ∧ bm_M0 9 0 11 = bm_M0 10 0 47 ∧ (bm_M0 10 0 47 = 0 ∨ bm_M0 10 0 47 = 1) ∧ bm_M0 9 0 12 = bm_M0 10 0 43 ∧ bm_M0 10 0 42 = i3 0 := of_decide_eq_true (ft_l (ft_r (ft_r (ft_r (ft_r (ft_r (ft_r (ft_r (ft_r (ft_r (ft_r (ft_r (ft_r (ft_r ft_tab))))))))))))))
  exact key
theorem first_RO : RO 0 bm_M0 bm_M0 := by
  have k1 : ∀ o, o < 40 → bm_M0 4 o 1 = bm_M0 46 0 o ∧ bm_M0 4 o 2 = bm_M0 47 0 o ∧ bm_M0 4 o 3 = bm_M0 48 0 o ∧ bm_M0 4 o 4 = bm_M0 49 0 o ∧ bm_M0 4 o 5 = bm_M0 50 0 o ∧ bm_M0 4 o 6 = bm_M0 53 0 o ∧ bm_M0 4 o 8 = bm_M0 57 0 o ∧ bm_M0 4 o 9 = bm_M0 58 0 o := of_decide_eq_true (ft_l (ft_r (ft_r (ft_r (ft_r (ft_r (ft_r (ft_r (ft_r (ft_r (ft_r (ft_r (ft_r (ft_r (ft_r ft_tab)))))))))))))))
  have k2 : ∀ o, o < 40 → bm_M0 46 0 o = 0 ∧ bm_M0 47 0 o = 0 ∧ bm_M0 48 0 o = 0 ∧ bm_M0 50 0 o = 0 ∧ bm_M0 53 0 o = 0 ∧ bm_M0 4 o 7 = -1 := of_decide_eq_true (ft_l (ft_r (ft_r (ft_r (ft_r (ft_r (ft_r (ft_r (ft_r (ft_r (ft_r (ft_r (ft_r (ft_r (ft_r (ft_r ft_tab))))))))))))))))
  have w0 : ∀ m, wi 0 m := fun m => ⟨rfl, Nat.zero_le m⟩
  refine ⟨fun o ho => ⟨fun q => absurd q (Nat.not_lt_zero o), k1 o ho⟩, fun o ho => ?_, fun o ho _ => ?_, fun o ho _ => (k2 o ho).2.2.2.2.1, fun o ho _ => ?_, fun o ho q => ?_, fun o ho => absurd ho (Nat.not_lt_zero o), fun o ho => absurd ho (Nat.not_lt_zero o), fun o ho => absurd ho (Nat.not_lt_zero o), fun o ho => absurd ho (Nat.not_lt_zero o)⟩
  · obtain ⟨a, b, c, d, e, _⟩ := k2 o ho
    rw [a, b, c, d, e]
    exact ⟨w0 3, Or.inl rfl, w0 3, w0 2, Or.inl rfl⟩
  · obtain ⟨a, b, c, d, e, f⟩ := k2 o ho
    exact ⟨c, d, f⟩
  · rw [(k2 o ho).2.2.2.1]; decide
  · rw [(k2 o ho).2.2.1] at q; exact absurd q (by decide)
theorem first_RH : RH bm_M0 bm_M0 := by
  have k1 : bm_M0 3 0 1 = bm_M0 10 0 40 ∧ bm_M0 10 0 40 = 0 := of_decide_eq_true (ft_l (ft_r (ft_r (ft_r (ft_r (ft_r (ft_r (ft_r (ft_r (ft_r (ft_r (ft_r (ft_r (ft_r (ft_r (ft_r (ft_r ft_tab)))))))))))))))))
  have k2 : ∀ i, i < 40 → bm_M0 17 0 i = bm_M0 69 0 i := of_decide_eq_true (ft_l (ft_r (ft_r (ft_r (ft_r (ft_r (ft_r (ft_r (ft_r (ft_r (ft_r (ft_r (ft_r (ft_r (ft_r (ft_r (ft_r (ft_r ft_tab))))))))))))))))))
  refine ⟨k1.1, ?_, k2⟩
  rw [k1.2]
  exact ⟨rfl, Nat.zero_le _⟩
theorem first_RC : RC 1 40 40 0 0 [] bm_M0 bm_M0 := by
  have k1 : ∀ c, c < 10 → bm_M0 1 c 8 = bm_M0 59 0 c ∧ (bm_M0 59 0 c = i3 (nt (bm_M0 59 0 c)) ∧ nt (bm_M0 59 0 c) ≤ 3) ∧ bm_M0 1 c 9 = bm_M0 60 0 c := of_decide_eq_true (ft_l (ft_r (ft_r (ft_r (ft_r (ft_r (ft_r (ft_r (ft_r (ft_r (ft_r (ft_r (ft_r (ft_r (ft_r (ft_r (ft_r (ft_r (ft_r ft_tab)))))))))))))))))))
  have k2 : ∀ c, c < 10 → bm_M0 1 c 5 = -1 := of_decide_eq_true (ft_l (ft_r (ft_r (ft_r (ft_r (ft_r (ft_r (ft_r (ft_r (ft_r (ft_r (ft_r (ft_r (ft_r (ft_r (ft_r (ft_r (ft_r (ft_r (ft_r ft_tab))))))))))))))))))))
  exact ⟨k1, fun c hc => Or.inl (k2 c hc), fun o c ho => absurd ho (Nat.not_lt_zero o)⟩
theorem first_RB : RB 1 0 0 [] bm_M0 bm_M0 := by
  have k1 : ∀ i, i < 13 → bm_M0 19 0 i = -1 ∧ bm_M0 20 0 i = -1 := of_decide_eq_true (ft_l (ft_r (ft_r (ft_r (ft_r (ft_r (ft_r (ft_r (ft_r (ft_r (ft_r (ft_r (ft_r (ft_r (ft_r (ft_r (ft_r (ft_r (ft_r (ft_r (ft_r ft_tab)))))))))))))))))))))
  have k2 : bm_M0 10 0 36 = 0 ∧ bm_M0 10 0 38 = -1 := of_decide_eq_true (ft_l (ft_r (ft_r (ft_r (ft_r (ft_r (ft_r (ft_r (ft_r (ft_r (ft_r (ft_r (ft_r (ft_r (ft_r (ft_r (ft_r (ft_r (ft_r (ft_r (ft_r (ft_r ft_tab))))))))))))))))))))))
  have k3 : bm_M0 10 0 37 = i3 (nt (bm_M0 10 0 37)) ∧ nt (bm_M0 10 0 37) ≤ 0 := of_decide_eq_true (ft_r (ft_r (ft_r (ft_r (ft_r (ft_r (ft_r (ft_r (ft_r (ft_r (ft_r (ft_r (ft_r (ft_r (ft_r (ft_r (ft_r (ft_r (ft_r (ft_r (ft_r (ft_r ft_tab))))))))))))))))))))))
  refine ⟨k2.1, List.nodup_nil, fun b x h => (by cases h), fun x hx => absurd hx List.not_mem_nil, fun i _ hi => Or.inl (k1 i hi), fun _ => ?_, k3, Or.inl k2.2⟩
  rw [k2.2, (k1 0 (by decide)).1]
  by_cases q : bm_M0 10 0 37 = i3 0
  · rw [if_pos q]
  · rw [if_neg q]
theorem first_St : St 0 bm_M0 bm_M0 := ⟨0, [], first_RP, first_RS, first_RF, first_RQ, first_RN, first_RO, first_RH, first_RC, first_RB⟩
theorem law_loop {L : Nat} {xs : Nat → Int32} (hL : L ≤ 2560) : ∀ (k x4 T : Nat) (x5 x6 : am_V) (M : am_M) (m : Nat), x4 + 5 * k ≤ L → L < x4 + 5 * k + 5 → T + k ≤ 999999 → 600 * k + 100 ≤ m → St T M M →
    ∃ Mf, rL_law L xs m 23 [.inr (29, 0), .inr (9, 0), .inr (10, 0), .inr (80, 0), .inl (.int (i3 x4)), x5, x6] [] M = am_rI 1 Mf
  | 0, x4, T, x5, x6, M, m, h1, h2, h3, hm, h => by
    refine ⟨M, mL_law (qL_law_23_0 (n := 0) (by omega) ?_) (by omega)⟩
    refine Int32.lt_iff_toInt_lt.2 ?_
    rw [i3_toInt (show x4 < 2147483648 by omega), Int32.toInt_sub]
    have e1 : (Int32.ofNat L).toInt = (L : Int) := i3_toInt (show L < 2147483648 by omega)
    have e2 : (5 : Int32).toInt = 5 := rfl
    rw [e1, e2, Int.bmod_eq_of_le (by omega) (by omega)]
    omega
  | k + 1, x4, T, x5, x6, M, m, h1, h2, h3, hm, h => by
    obtain ⟨M', y5, y6, T', t1, t2, t3⟩ := law_it (xs := xs) (x5 := x5) (x6 := x6) hL (by omega) h (show x4 + 5 ≤ L by omega)
    obtain ⟨Mf, q⟩ := law_loop hL k (x4 + 5) T' y5 y6 M' (m - 600) (by omega) (by omega) (by omega) (by omega) t2
    have := t3 _ _ q
    rw [show m - 600 + 600 = m by omega] at this
    exact ⟨Mf, this⟩
theorem law_done : law_goal := by
  intro L xs hL
  obtain ⟨Mf, q⟩ := law_loop (xs := xs) hL (L / 5) 0 0 am_D am_D bm_M0 499900 (by omega) (by omega) (by omega) (by omega) first_St
  exact ⟨Mf, qL_law_20_0 (by omega) q⟩
