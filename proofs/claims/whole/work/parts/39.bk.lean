/-! ===== bookings: cancel on both sides ===== -/
def bcell (M : am_M) (b : Nat) (x : Bk) : Prop := M 61 0 b = i3 x.1 ∧ M 62 0 b = i3 x.2.1 ∧ M 63 0 b = i3 x.2.2.1 ∧ M 64 0 b = i3 x.2.2.2.1 ∧ M 65 0 b = i3 x.2.2.2.2
theorem rsv_app (p : Nat) : ∀ (l l' : List Bk), rsv (l ++ l') p = rsv l p + rsv l' p
  | [], l' => (Nat.zero_add _).symm
  | x :: l, l' => by
    show _ + rsv (l ++ l') p = _ + rsv l p + _
    rw [rsv_app p l l']; omega
theorem rsv_perm (p : Nat) {l l' : List Bk} (h : l.Perm l') : rsv l p = rsv l' p := by
  induction h with
  | nil => rfl
  | cons x _ ih => show _ + _ = _ + _; rw [ih]
  | swap x y l => show _ + (_ + _) = _ + (_ + _); omega
  | trans _ _ a b => exact a.trans b
theorem rsv_split (p o : Nat) : ∀ (l : List Bk), rsv l p = rsv (l.filter (fun x => x.2.2.2.2 == o)) p + rsv (l.filter (fun x => !(x.2.2.2.2 == o))) p
  | [] => rfl
  | x :: l => by
    have ih := rsv_split p o l
    by_cases h : x.2.2.2.2 = o
    · rw [List.filter_cons_of_pos (by simpa using h), List.filter_cons_of_neg (by simpa using h)]
      show _ + rsv l p = (_ + rsv _ p) + _
      omega
    · rw [List.filter_cons_of_neg (by simpa using h), List.filter_cons_of_pos (by simpa using h)]
      show _ + rsv l p = _ + (_ + rsv _ p)
      omega
abbrev oth (o : Nat) (L : List Bk) : List Bk := L.filter (fun x => !(x.2.2.2.2 == o))
theorem oth_mem {o : Nat} {L : List Bk} {x : Bk} : x ∈ oth o L ↔ x ∈ L ∧ ¬ x.2.2.2.2 = o := by
  unfold oth
  rw [List.mem_filter]
  simp
theorem oth_other {o o' : Nat} (h : ¬ o' = o) (L : List Bk) : (oth o L).filter (fun x => x.2.2.2.2 == o') = L.filter (fun x => x.2.2.2.2 == o') := by
  unfold oth
  rw [List.filter_filter]
  congr 1
  funext x
  by_cases e : x.2.2.2.2 = o'
  · simp [e, h]
  · simp [e]
theorem sX10_cancel {L : List Bk} {D : am_M} {o : Nat} (ho : o < 40) (hb : D 10 0 36 = i3 L.length) (hl : L.length ≤ 24) (hc : ∀ b x, L[b]? = some x → bcell D b x) (hr : ∀ x, x ∈ L → x.2.2.2.2 < 40) : ∃ D', fX10_cancel [.inr (10, 0), .inl (.int (i3 o))] D = am_rV D' ∧ (∀ b x, (oth o L)[b]? = some x → bcell D' b x) ∧ D' 10 0 36 = i3 (oth o L).length ∧ (∀ k, ¬ k = 10 → ¬ k = 61 → ¬ k = 62 → ¬ k = 63 → ¬ k = 64 → ¬ k = 65 → D' k = D k) ∧ (∀ f, ¬ f = 36 → D' 10 0 f = D 10 0 f) := by
  have main := lp_do (A := Nat × am_M) (r := fun m i a => rX10_cancel m 4 [.inr (10, 0), .inl (.int (i3 o)), .inl (.int (i3 a.1)), .inl (.int (i3 i))] [] a.2) (N := L.length) (c := 200) (I := fun i a => a.1 = (oth o (L.take i)).length ∧ (∀ k, ¬ k = 61 → ¬ k = 62 → ¬ k = 63 → ¬ k = 64 → ¬ k = 65 → a.2 k = D k) ∧ (∀ b x, (oth o (L.take i))[b]? = some x → bcell a.2 b x) ∧ (∀ b x, i ≤ b → L[b]? = some x → bcell a.2 b x)) ?_ L.length 0 (0, D) (Nat.zero_add _) ⟨rfl, fun _ _ _ _ _ _ => rfl, fun b x h => (by cases h), fun b x _ h => hc b x h⟩
  · obtain ⟨a, ⟨h1, h2, h3, _⟩, h5⟩ := main
    rw [List.take_length] at h1 h3
    have e36 : a.2 10 0 36 = i3 L.length := by rw [h2 10 (by decide) (by decide) (by decide) (by decide) (by decide)]; exact hb
    have := h5 (99900 - 200 * L.length) _ (mX10_cancel (qX10_cancel_4_0 (n := 0) (x1 := i3 o) (x2 := a.1) (hen e36 (by omega))) (by omega))
    rw [show 99900 - 200 * L.length + 200 * L.length = 99900 by omega] at this
    refine ⟨am_put a.2 10 0 36 (i3 a.1), qX10_cancel_0 this, fun b x hx => h3 b x hx, ?_, fun k q0 q1 q2 q3 q4 q5 => ?_, fun f hf => ?_⟩
    · rw [put_eq ⟨rfl, rfl, rfl⟩, h1]
    · rw [← h2 k q1 q2 q3 q4 q5]; funext u v; rw [put_ne (fun e => q0 e.1)]
    · rw [put_ne (fun e => hf e.2.2), h2 10 (by decide) (by decide) (by decide) (by decide) (by decide)]
  · intro i a hi h
    obtain ⟨h1, h2, h3, h4⟩ := h
    have hx : L[i]? = some (L[i]'hi) := List.getElem?_eq_getElem hi
    have hcell := h4 i _ (Nat.le_refl i) hx
    have hmem := hr _ (List.getElem_mem hi)
    have e36 : a.2 10 0 36 = i3 L.length := by rw [h2 10 (by decide) (by decide) (by decide) (by decide) (by decide)]; exact hb
    have tk : L.take (i + 1) = L.take i ++ [L[i]'hi] := by rw [List.take_succ, hx]; rfl
    have hle : (oth o (L.take i)).length ≤ i := Nat.le_trans (List.length_filter_le _ _) (by rw [List.length_take]; omega)
    by_cases e : (L[i]'hi).2.2.2.2 = o
    · have fe : oth o (L.take (i + 1)) = oth o (L.take i) := by
        unfold oth
        rw [tk, List.filter_append, List.filter_cons_of_neg (by simpa using e)]; simp
      refine ⟨a, ⟨by rw [fe]; exact h1, h2, by rw [fe]; exact h3, fun b x hb2 => h4 b x (by omega)⟩, fun m res k => ?_⟩
      refine mX10_cancel (qX10_cancel_4_1 (hge e36 hi (by omega)) (by omega) ?_ k) (by omega)
      rw [hcell.2.2.2.2, e]
    · have fe : oth o (L.take (i + 1)) = oth o (L.take i) ++ [L[i]'hi] := by
        unfold oth
        rw [tk, List.filter_append, List.filter_cons_of_pos (by simpa using e)]; simp
      have hlen : (oth o (L.take (i + 1))).length = a.1 + 1 := by rw [fe, List.length_append, h1]; rfl
      have cp := qX10_copyBook_0 (M := a.2) (j1 := i) (j2 := a.1) (by omega) rfl (by omega) rfl
      generalize hM : am_put (am_put (am_put (am_put (am_put a.2 61 0 a.1 (a.2 61 0 i)) 62 0 a.1 (a.2 62 0 i)) 63 0 a.1 (a.2 63 0 i)) 64 0 a.1 (a.2 64 0 i)) 65 0 a.1 (a.2 65 0 i) = M2 at cp
      refine ⟨(a.1 + 1, M2), ⟨hlen.symm, fun k q1 q2 q3 q4 q5 => ?_, fun b x hb2 => ?_, fun b x hb2 hx2 => ?_⟩, fun m res k => qX10_cancel_4_2 (hge e36 hi (by omega)) (by omega) ?_ cp k⟩
      · show M2 k = D k
        rw [← h2 k q1 q2 q3 q4 q5, ← hM]; funext u v
        rw [put_ne (fun e => q5 e.1), put_ne (fun e => q4 e.1), put_ne (fun e => q3 e.1), put_ne (fun e => q2 e.1), put_ne (fun e => q1 e.1)]
      · show bcell M2 b x
        rw [fe] at hb2
        rw [← hM]
        by_cases eb : b = a.1
        · have : x = L[i]'hi := by
            rw [eb, h1, List.getElem?_append_right (Nat.le_refl _), Nat.sub_self] at hb2
            exact (Option.some.inj hb2).symm
          rw [this, eb]
          refine ⟨?_, ?_, ?_, ?_, ?_⟩
          · show am_put a.2 61 0 a.1 (a.2 61 0 i) 61 0 a.1 = _
            rw [put_eq ⟨rfl, rfl, rfl⟩]; exact hcell.1
          · show am_put (am_put a.2 61 0 a.1 (a.2 61 0 i)) 62 0 a.1 (a.2 62 0 i) 62 0 a.1 = _
            rw [put_eq ⟨rfl, rfl, rfl⟩]; exact hcell.2.1
          · show am_put (am_put (am_put a.2 61 0 a.1 (a.2 61 0 i)) 62 0 a.1 (a.2 62 0 i)) 63 0 a.1 (a.2 63 0 i) 63 0 a.1 = _
            rw [put_eq ⟨rfl, rfl, rfl⟩]; exact hcell.2.2.1
          · show am_put (am_put (am_put (am_put a.2 61 0 a.1 (a.2 61 0 i)) 62 0 a.1 (a.2 62 0 i)) 63 0 a.1 (a.2 63 0 i)) 64 0 a.1 (a.2 64 0 i) 64 0 a.1 = _
            rw [put_eq ⟨rfl, rfl, rfl⟩]; exact hcell.2.2.2.1
          · rw [put_eq ⟨rfl, rfl, rfl⟩]; exact hcell.2.2.2.2
        · have hlt : b < (oth o (L.take i)).length := by
            have := (List.getElem?_eq_some_iff.mp hb2).1
            rw [List.length_append] at this
            have : b < (oth o (L.take i)).length + 1 := this
            omega
          rw [List.getElem?_append_left hlt] at hb2
          have hq := h3 b x hb2
          simpa [bcell, am_put, eb] using hq
      · show bcell M2 b x
        rw [← hM]
        have eb : ¬ b = a.1 := by omega
        have hq := h4 b x (by omega) hx2
        simpa [bcell, am_put, eb] using hq
      · rw [hcell.2.2.2.2]
        exact fun q => e ((i3_inj (by omega) (by omega)).mp q)
theorem sX7_cancel (C : am_M) (c : Nat) : ∃ C', fX7_cancel [.inr (7, 0), .inl (.int (i3 c))] C = am_rV C' ∧ (∀ k, ¬ k = 19 → ¬ k = 20 → C' k = C k) ∧ (∀ i, C' 19 0 i = if 1 ≤ i ∧ i < 13 ∧ C 20 0 i = i3 c then -1 else C 19 0 i) ∧ (∀ i, C' 20 0 i = if 1 ≤ i ∧ i < 13 ∧ C 20 0 i = i3 c then -1 else C 20 0 i) := by
  have main := lp_do (A := am_M) (r := fun m i M => rX7_cancel m 2 [.inr (7, 0), .inl (.int (i3 c)), .inl (.int (i3 (i + 1)))] [] M) (N := 12) (c := 200) (I := fun i M1 => (∀ k, ¬ k = 19 → ¬ k = 20 → M1 k = C k) ∧ (∀ j, M1 19 0 j = if 1 ≤ j ∧ j < i + 1 ∧ C 20 0 j = i3 c then -1 else C 19 0 j) ∧ (∀ j, M1 20 0 j = if 1 ≤ j ∧ j < i + 1 ∧ C 20 0 j = i3 c then -1 else C 20 0 j)) ?_ 12 0 C rfl ⟨fun _ _ _ => rfl, fun j => by rw [if_neg (by omega)], fun j => by rw [if_neg (by omega)]⟩
  · obtain ⟨M1, ⟨h1, h2, h3⟩, h4⟩ := main
    exact ⟨M1, qX7_cancel_0 (h4 97500 _ (qX7_cancel_2_0 (n := 97400) (by decide))), h1, h2, h3⟩
  · intro i M1 hi h
    obtain ⟨h1, h2, h3⟩ := h
    have e20 : M1 20 0 (i + 1) = C 20 0 (i + 1) := by rw [h3, if_neg (by omega)]
    have gd : ¬ (12 : Int32) < i3 (i + 1) := fun q => by
      have := (i3_lt (a := 12) (by decide) (by omega)).mp q
      omega
    by_cases e : C 20 0 (i + 1) = i3 c
    · have cl : fX7_clear [.inr (7, 0), .inl (.int (i3 (i + 1)))] M1 = am_rV (am_put (am_put M1 19 0 (i + 1) (-1)) 20 0 (i + 1) (-1)) := qX7_clear_0 (by omega) rfl
      refine ⟨_, ⟨fun k a b => ?_, fun j => ?_, fun j => ?_⟩, fun m res k => qX7_cancel_2_1 gd (by omega) (e20.trans e) cl k⟩
      · rw [← h1 k a b]; funext u v; rw [put_ne (fun e => b e.1), put_ne (fun e => a e.1)]
      · show am_put M1 19 0 (i + 1) (-1) 19 0 j = _
        by_cases ej : j = i + 1
        · rw [ej, put_eq ⟨rfl, rfl, rfl⟩, if_pos ⟨by omega, by omega, e⟩]
        · rw [put_ne (by omega), h2]
          by_cases l : 1 ≤ j ∧ j < i + 1 ∧ C 20 0 j = i3 c
          · rw [if_pos l, if_pos ⟨l.1, by omega, l.2.2⟩]
          · rw [if_neg l, if_neg (fun q => l ⟨q.1, by omega, q.2.2⟩)]
      · by_cases ej : j = i + 1
        · rw [ej, put_eq ⟨rfl, rfl, rfl⟩, if_pos ⟨by omega, by omega, e⟩]
        · rw [put_ne (by omega)]
          show M1 20 0 j = _
          rw [h3]
          by_cases l : 1 ≤ j ∧ j < i + 1 ∧ C 20 0 j = i3 c
          · rw [if_pos l, if_pos ⟨l.1, by omega, l.2.2⟩]
          · rw [if_neg l, if_neg (fun q => l ⟨q.1, by omega, q.2.2⟩)]
    · refine ⟨M1, ⟨h1, fun j => ?_, fun j => ?_⟩, fun m res k => qX7_cancel_2_2 gd (by omega) (by rw [e20]; exact e) k⟩
      · rw [h2]
        by_cases l : 1 ≤ j ∧ j < i + 1 ∧ C 20 0 j = i3 c
        · rw [if_pos l, if_pos ⟨l.1, by omega, l.2.2⟩]
        · rw [if_neg l, if_neg (fun q => l ⟨q.1, by
            have : ¬ j = i + 1 := fun ej => e (by rw [← ej]; exact q.2.2)
            omega, q.2.2⟩)]
      · rw [h3]
        by_cases l : 1 ≤ j ∧ j < i + 1 ∧ C 20 0 j = i3 c
        · rw [if_pos l, if_pos ⟨l.1, by omega, l.2.2⟩]
        · rw [if_neg l, if_neg (fun q => l ⟨q.1, by
            have : ¬ j = i + 1 := fun ej => e (by rw [← ej]; exact q.2.2)
            omega, q.2.2⟩)]
