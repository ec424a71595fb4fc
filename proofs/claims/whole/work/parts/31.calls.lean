/-! ===== the calls, side by side: those that change little ===== -/
theorem nd_len : ∀ (m : Nat) (l : List Nat), l.Nodup → (∀ x, x ∈ l → x < m) → l.length ≤ m
  | 0, l, _, h => by
    cases l with
    | nil => exact Nat.le_refl 0
    | cons x l => exact absurd (h x List.mem_cons_self) (Nat.not_lt_zero x)
  | m + 1, l, hd, h => by
    by_cases hm : m ∈ l
    · have h1 := nd_len m (l.erase m) (hd.erase m) (fun x hx => by
        have := (hd.mem_erase_iff).mp hx
        have := h x this.2
        omega)
      rw [List.length_erase_of_mem hm] at h1
      omega
    · have := nd_len m l hd (fun x hx => by
        have h2 := h x hx
        by_cases e : x = m
        · rw [e] at hx; exact absurd hx hm
        · omega)
      omega
theorem bk_len {lo T n : Nat} {L : List Bk} {C D : am_M} (h : RB lo T n L C D) : L.length ≤ 13 := by
  have h1 := h.2.1
  have h2 := h.2.2.2.1
  have := nd_len 13 ((L.map (fun x => x.1)).map (fun s => s - T)) (by
    rw [List.map_map]
    refine List.Pairwise.map _ ?_ (List.Pairwise.and_mem.mp (List.pairwise_map.mp h1))
    intro a b hab
    have ha := h2 a hab.1
    have hb := h2 b hab.2.1
    have := hab.2.2
    intro e
    apply this
    have e' : a.1 - T = b.1 - T := e
    omega) (fun x hx => by
    obtain ⟨s, hs, rfl⟩ := List.mem_map.mp hx
    obtain ⟨y, hy, rfl⟩ := List.mem_map.mp hs
    have := h2 y hy
    omega)
  rw [List.length_map, List.length_map] at this
  exact this
theorem rs_of {lo T n : Nat} {L : List Bk} {C D : am_M} (h : RB lo T n L C D) {p : Nat} (hp : p < 8) : fX10_reserved [.inr (10, 0), .inl (.int (i3 p))] D = am_rI (i3 (rsv L p)) D :=
  sX10_reserved hp h.1 (Nat.le_trans (bk_len h) (by decide)) (fun b x hx => ⟨(h.2.2.1 b x hx).2.2.1, (h.2.2.1 b x hx).2.2.2.1⟩) (fun x hx => (h.2.2.2.1 x hx).2.2.2.1)
/-- both answer alike, and what they leave belongs together -/
def JV (T : Nat) (rc rd : am_R) : Prop := ∃ v C' D', rc = am_rI v C' ∧ rd = am_rV D' ∧ D' 10 0 45 = v ∧ St T C' D'
def JO (T : Nat) (rc rd : am_R) : Prop := ∃ v w C' D', rc = am_rI v C' ∧ rd = am_rI w D' ∧ D' 10 0 45 = v ∧ (v = 0 → am_jn (C' 80 0 (2 * 0)) (C' 80 0 (2 * 0 + 1)) = w.toInt64) ∧ St T C' D'
theorem JO_no {T n : Nat} {L : List Bk} {C D : am_M} {rc rd : am_R} {v w : Int32} (h : Rel 1 40 40 T n L C D) (h1 : rc = am_rI v C) (h2 : rd = am_rI w (am_put D 10 0 45 v)) (hv : ¬ v = 0) : JO T rc rd := ⟨v, w, C, _, h1, h2, rfl, fun q => absurd q hv, n, L, Rel_thr h⟩
theorem JO_ok {T n : Nat} {L : List Bk} {C D : am_M} {rc rd : am_R} {w : Int32} (h : Rel 1 40 40 T n L C D) (h1 : rc = am_rI 0 (ob C w.toInt64)) (h2 : rd = am_rI w D) (h3 : D 10 0 45 = 0) : JO T rc rd := ⟨0, w, _, _, h1, h2, h3, fun _ => ob_jn C _, n, L, Rel_ob h⟩
theorem J_clock {T : Nat} {C D : am_M} (h : St T C D) (x : Int32) : JV T (fL_clock [.inr (9, 0), .inl (.int x)] C) (fX10_clock [.inr (10, 0), .inl (.int x)] D) := by
  obtain ⟨n, L, h⟩ := h
  have e := h.2.2.2.2.1.2.2.2.1
  by_cases hx : x < C 9 0 8
  · exact ⟨1, C, _, qL_clock_0 (qX9_clock_0 hx), qX10_clock_1 (by rw [← e]; exact i3_nle.mpr hx), rfl, n, L, Rel_thr h⟩
  · obtain ⟨hP, hS, hF, hQ, hN, hO, hH, hC, hB⟩ := h
    obtain ⟨n1, n2, n3, n4, n5, n6, n7, n8, n9, n10, n11, n12, n13⟩ := hN
    exact ⟨0, _, _, qL_clock_1 (qX9_clock_1 hx), qX10_clock_0 (by rw [← e]; exact i3_nlt.mp hx), rfl, n, L, hP, hS, hF, hQ, ⟨n1, n2, n3, rfl, n5, n6, n7, n8, n9, n10, n11, n12, n13⟩, hO, hH, hC, hB⟩
theorem J_light {T : Nat} {C D : am_M} (h : St T C D) (x : Int32) : JV T (fL_light [.inr (9, 0), .inl (.int x)] C) (fX10_light [.inr (10, 0), .inl (.int x)] D) := by
  obtain ⟨n, L, h⟩ := h
  by_cases hx : 1 ≤ x ∧ x ≤ 65535
  · obtain ⟨hP, hS, hF, hQ, hN, hO, hH, hC, hB⟩ := h
    obtain ⟨n1, n2, n3, n4, n5, n6, n7, n8, n9, n10, n11, n12, n13⟩ := hN
    exact ⟨0, _, _, qL_light_1 (qX9_light_1 hx), qX10_light_1 hx, rfl, n, L, hP, hS, hF, hQ, ⟨n1, n2, n3, n4, rfl, hx.1, hx.2, n8, n9, n10, n11, n12, n13⟩, hO, hH, hC, hB⟩
  · exact ⟨1, C, _, qL_light_0 (qX9_light_0 hx), qX10_light_0 hx, rfl, n, L, Rel_thr h⟩
theorem J_spoil {T : Nat} {C D : am_M} (h : St T C D) (x : Int32) : JV T (fL_spoil [.inr (9, 0), .inl (.int x)] C) (fX10_spoil [.inr (10, 0), .inl (.int x)] D) := by
  obtain ⟨n, L, h⟩ := h
  by_cases hx : 0 ≤ x ∧ x ≤ 1
  · obtain ⟨hP, hS, hF, hQ, hN, hO, hH, hC, hB⟩ := h
    obtain ⟨n1, n2, n3, n4, n5, n6, n7, n8, n9, n10, n11, n12, n13⟩ := hN
    by_cases h0 : x = 0
    · exact ⟨0, _, _, qL_spoil_1 (qX9_spoil_1 hx h0), qX10_spoil_5 hx h0 (by rw [h0]; decide), rfl, n, L, hP, hS, hF, hQ, ⟨n1, n2, n3, n4, n5, n6, n7, rfl, Or.inr rfl, n10, n11, n12, n13⟩, hO, hH, hC, hB⟩
    · have h1 : x = 1 := by
        obtain ⟨k, hk, e⟩ := pl (m := 1) (by decide) hx
        rw [e] at h0 ⊢
        have : k ≠ 0 := fun q => h0 (by rw [q]; rfl)
        rw [show k = 1 by omega]; rfl
      exact ⟨0, _, _, qL_spoil_1 (qX9_spoil_2 hx h0), qX10_spoil_6 hx h0 h1, rfl, n, L, hP, hS, hF, hQ, ⟨n1, n2, n3, n4, n5, n6, n7, n8, n9, rfl, Or.inr rfl, n12, n13⟩, hO, hH, hC, hB⟩
  · exact ⟨1, C, _, qL_spoil_0 (qX9_spoil_0 hx), qX10_spoil_3 hx (fun q => hx (by rw [q]; decide)) (fun q => hx (by rw [q]; decide)), rfl, n, L, Rel_thr h⟩
theorem J_idle {T : Nat} {C D : am_M} (h : St T C D) : ∃ v D', fX9_idle [.inr (9, 0)] C = am_rI v C ∧ fX10_idle [.inr (10, 0)] D = am_rI v D' ∧ St T C D' := by
  obtain ⟨n, L, h⟩ := h
  have e := h.2.2.2.2.1.2.2.2.2.2.2.2.2.2.2.2.1
  exact ⟨C 9 0 12, _, qX9_idle_0, by rw [e]; exact qX10_idle_0, n, L, Rel_thr h⟩
theorem slot_e {C D : am_M} (hS : RS C D) {s : Nat} (hs : s < 6) : C 8 s 0 = -1 ↔ D 37 0 s = 0 := by
  rcases (hS s hs).1 with ⟨a, b⟩ | ⟨a, b, _⟩
  · exact ⟨fun _ => b, fun _ => a⟩
  · rw [a]
    refine ⟨fun q => ?_, fun q => ?_⟩
    · rw [q] at b; exact absurd b (by decide)
    · rw [q] at b; exact absurd b (by decide)
theorem J_rack {T : Nat} {C D : am_M} (h : St T C D) (x1 x2 x3 x4 : Int32) : JV T (fL_rack [.inr (9, 0), .inl (.int x1), .inl (.int x2), .inl (.int x3), .inl (.int x4)] C) (fX10_rack [.inr (10, 0), .inl (.int x1), .inl (.int x2), .inl (.int x3), .inl (.int x4)] D) := by
  obtain ⟨n, L, h⟩ := h
  by_cases h1 : 0 ≤ x1 ∧ x1 ≤ 5
  case neg => exact ⟨1, C, _, qL_rack_0 (qX9_rack_0 h1), qX10_rack_0 h1, rfl, n, L, Rel_thr h⟩
  by_cases h2 : 1 ≤ x2 ∧ x2 ≤ 999999
  case neg => exact ⟨1, C, _, qL_rack_0 (qX9_rack_1 h1 h2), qX10_rack_1 h1 h2, rfl, n, L, Rel_thr h⟩
  by_cases h3 : 0 ≤ x3 ∧ x3 ≤ 1
  case neg => exact ⟨1, C, _, qL_rack_0 (qX9_rack_2 h1 h2 h3), qX10_rack_2 h1 h2 h3, rfl, n, L, Rel_thr h⟩
  by_cases h4 : 0 ≤ x4 ∧ x4 ≤ 100000
  case neg => exact ⟨1, C, _, qL_rack_0 (qX9_rack_3 h1 h2 h3 h4), qX10_rack_3 h1 h2 h3 h4, rfl, n, L, Rel_thr h⟩
  obtain ⟨s, hs, es⟩ := pl (m := 5) (by decide) h1
  have hS := h.2.1
  by_cases h5 : C 8 s 0 = -1
  case neg => exact ⟨2, C, _, qL_rack_1 (qX9_rack_4 h1 h2 h3 h4 hs es h5), qX10_rack_6 h1 h2 h3 h4 hs es (fun q => h5 ((slot_e hS hs).mpr q)), rfl, n, L, Rel_thr h⟩
  have h5' := (slot_e hS hs).mp h5
  have ec := slot_cg hS h2.1
  have c1 := sX9_slotOf x2 C
  have d1 := sX10_slotOf x2 D
  rw [← ec] at d1
  rcases fst1_spec (P := fun s => C 8 s 0 = x2) 6 0 with ⟨e, _⟩ | ⟨j, _, hj, _, e⟩
  · rw [e] at c1 d1
    have hx3 : x3 = 0 ∨ x3 = 1 := by
      obtain ⟨k, hk, e⟩ := pl (m := 1) (by decide) h3
      rcases Nat.lt_or_ge k 1 with q | q
      · left; rw [e, show k = 0 by omega]; rfl
      · right; rw [e, show k = 1 by omega]; rfl
    have key : ∀ v : Int32, v = x3 → RS (am_put (am_put (am_put C 8 s 0 x2) 8 s 1 v) 8 s 2 x4) (am_put (am_put (am_put (am_put D 10 0 45 0) 37 0 s x2) 38 0 s x3) 39 0 s x4) := by
      intro v hv s' hs'
      by_cases e : s' = s
      · subst e
        refine ⟨Or.inr ⟨?_, ?_, ?_⟩, ?_, ?_, ?_, ?_⟩
        · show am_put (am_put (am_put C 8 s' 0 x2) 8 s' 1 v) 8 s' 2 x4 8 s' 0 = am_put (am_put D 10 0 45 0) 37 0 s' x2 37 0 s'
          rw [put_ne (by omega), put_ne (by omega), put_eq ⟨rfl, rfl, rfl⟩, put_eq ⟨rfl, rfl, rfl⟩]
        · show 1 ≤ am_put (am_put D 10 0 45 0) 37 0 s' x2 37 0 s'
          rw [put_eq ⟨rfl, rfl, rfl⟩]; exact h2.1
        · show am_put (am_put D 10 0 45 0) 37 0 s' x2 37 0 s' ≤ 999999
          rw [put_eq ⟨rfl, rfl, rfl⟩]; exact h2.2
        · show am_put (am_put (am_put C 8 s' 0 x2) 8 s' 1 v) 8 s' 2 x4 8 s' 1 = am_put (am_put (am_put D 10 0 45 0) 37 0 s' x2) 38 0 s' x3 38 0 s'
          rw [put_ne (by omega), put_eq ⟨rfl, rfl, rfl⟩, put_eq ⟨rfl, rfl, rfl⟩]; exact hv
        · show am_put (am_put (am_put D 10 0 45 0) 37 0 s' x2) 38 0 s' x3 38 0 s' = 0 ∨ am_put (am_put (am_put D 10 0 45 0) 37 0 s' x2) 38 0 s' x3 38 0 s' = 1
          rw [put_eq ⟨rfl, rfl, rfl⟩]; exact hx3
        · rw [put_eq ⟨rfl, rfl, rfl⟩, put_eq ⟨rfl, rfl, rfl⟩]
        · rw [put_eq ⟨rfl, rfl, rfl⟩]; exact wi_le (by decide) h4.1 h4.2
      · have := hS s' hs'
        simpa [am_put, e] using this
    obtain ⟨hP, _, hF, hQ, hN, hO, hH, hC, hB⟩ := h
    by_cases h6 : x3 = 1
    · exact ⟨0, _, _, qL_rack_2 (qX9_rack_5 h1 h2 h3 h4 hs es h5 c1 rfl h6), qX10_rack_4 h1 h2 h3 h4 hs es h5' d1 (by decide), rfl, n, L, hP, key 1 h6.symm, hF, hQ, hN, hO, hH, hC, hB⟩
    · exact ⟨0, _, _, qL_rack_2 (qX9_rack_6 h1 h2 h3 h4 hs es h5 c1 rfl h6), qX10_rack_4 h1 h2 h3 h4 hs es h5' d1 (by decide), rfl, n, L, hP, key 0 (hx3.resolve_right h6).symm, hF, hQ, hN, hO, hH, hC, hB⟩
  · rw [e] at c1 d1
    exact ⟨2, C, _, qL_rack_1 (qX9_rack_7 h1 h2 h3 h4 hs es h5 c1 (i3_nm (by omega))), qX10_rack_5 h1 h2 h3 h4 hs es h5' d1 (i3_nl (by omega)), rfl, n, L, Rel_thr h⟩
