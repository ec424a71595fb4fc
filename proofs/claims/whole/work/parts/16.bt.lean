section BMT
variable {p : Program} {l : Launch} {e : Env} {R : Room} {s : State} {m : MethodId} {args : Array Value} {below : List Frame} {meth : Method} {c : Code} {Q : State → Prop}
variable {dC : Nat → ClassId} {dI : Nat → Nat → Nat} {B : Nat} {cy : Nat → ClassId} {cc : ByteArray} {own : String} {nL : Nat}
theorem bm_s_iast (C : bm_Cx p s m args c meth dC dI B cy cc own nL) {pc nc ns : Nat} {ls r : List am_V} {M : bm_M} {q : Nat × Nat} {vs : List am_V} {x y : Int32} (hM : M[q.2]? = some (100, vs)) (hi : am_in x vs.length) (hd : decode cc pc = .ok (.iastore, 1))
    (k : bm_Wp p l e R s m args below meth c Q dC dI B cy nL (pc + 1) ls r (M.set q.2 (100, vs.set x.toNatClampNeg (.inl (.int y)))) nc ns) : bm_Wp p l e R s m args below meth c Q dC dI B cy nL pc ls (.inl (.int y) :: .inl (.int x) :: .inr q :: r) M nc ns := by
  intro H locs lsA hl hz hP hS
  obtain ⟨hx, hb, hml, hown, hts, hK, -, -, -⟩ := C
  have h1 : (bm_W B cy M)[q.2]? = some (B + q.2, .inl (cy 0, vs.length, .inl (bm_iv vs))) := bm_W_at (B := B) (cy := cy) hM
  have hlt : x.toNatClampNeg < vs.length := by have := hi.1; have := hi.2; show x.toInt.toNat < _; omega
  have hin : vp_in x vs.length := am_in_vp hi
  refine W.iast hx hb (hP q.2 _ h1) ((hK.2 0 _ rfl).1 vs.length (fun j => .int (bm_iv vs j))) (fun q => by cases q) (by show ¬ (x < 0 ∨ (arrV _ _ _).slots.size ≤ _); rw [arrV_size]; exact hin) rfl rfl hd fun H1 e1 z1 oq => ?_
  refine k H1 _ lsA hl (by rw [z1, hz, List.length_set]) ?_ (hS.put z1 oq ((bm_W_D (B := B) (cy := cy) M).2 q.2 _ h1))
  rw [← bm_W_set]
  refine hP.set (bm_W_D M) h1 ?_ oq
  show H1[B + q.2]? = some (vp_cell (cy 0) ((vs.set x.toNatClampNeg (.inl (.int y))).length, .inl (bm_iv (vs.set x.toNatClampNeg (.inl (.int y))))))
  rw [List.length_set, bm_iv_set hlt, e1]
  refine congrArg some ?_
  show (arrV (cy 0) vs.length (fun j => .int (bm_iv vs j))).setSlot x.toNatClampNeg (.int y) = arrV (cy 0) vs.length (fun j => .int (upd (bm_iv vs) x.toNatClampNeg y j))
  rw [arrV_store]
  congr 1
  funext j
  unfold updV upd
  by_cases hj : j = x.toNatClampNeg
  · simp [hj]
  · simp [hj]
theorem bm_s_aast (C : bm_Cx p s m args c meth dC dI B cy cc own nL) {pc nc ns k2 : Nat} {ls r : List am_V} {M : bm_M} {q q2 : Nat × Nat} {vs vs2 : List am_V} {x : Int32} (hM : M[q.2]? = some (103 + k2, vs)) (hM2 : M[q2.2]? = some (k2, vs2)) (hk2 : k2 = 1 ∨ k2 = 4 ∨ k2 = 5 ∨ k2 = 6 ∨ k2 = 8) (hi : am_in x vs.length) (hd : decode cc pc = .ok (.aastore, 1))
    (k : bm_Wp p l e R s m args below meth c Q dC dI B cy nL (pc + 1) ls r (M.set q.2 (103 + k2, vs.set x.toNatClampNeg (.inr q2))) nc ns) : bm_Wp p l e R s m args below meth c Q dC dI B cy nL pc ls (.inr q2 :: .inl (.int x) :: .inr q :: r) M nc ns := by
  intro H locs lsA hl hz hP hS
  obtain ⟨hx, hb, hml, hown, hts, hK, -, -, -⟩ := C
  have h1 := bm_W_at (B := B) (cy := cy) hM
  rw [bm_en_r] at h1
  have h2 := bm_W_at (B := B) (cy := cy) hM2
  have hk11 : k2 < 11 := by rcases hk2 with rfl | rfl | rfl | rfl | rfl <;> decide
  rw [bm_en_c (by omega)] at h2
  have hlt : x.toNatClampNeg < vs.length := by have := hi.1; have := hi.2; show x.toInt.toNat < _; omega
  obtain ⟨i, hti⟩ := bm_ti hk2
  have hin := am_in_vp hi
  have h0 : ¬ x < 0 := fun q => hin (Or.inl q)
  obtain ⟨r', hr', cellV, g1, g2, g3, -⟩ := hP q2.2 _ h2
  have hcls := (hK.1 k2 _ (am_cl_at k2 hk11)).2
  obtain ⟨kA, comp, k1, kk2, k3, -⟩ := (hK.2 i _ (hti cy)).2
  have hcomp : comp = dC k2 := Option.some.inj (k3.symm.trans hcls.1)
  subst hcomp
  obtain ⟨kC, hkC, -⟩ := hcls.2
  refine W.aast hx hb (hP q.2 _ h1) (fun q h => by cases h) (fun h => by cases h) k1 kk2 rfl hkC ⟨h0, by show _ < (arrV _ _ _).slots.size; rw [arrV_size]; exact hlt⟩ g1 (fun q h => by rw [g3] at h; cases h) (by rw [g2]; exact hkC) (by rw [g2]; exact va_assign hcls) rfl rfl hd fun H1 e1 z1 oq => ?_
  refine k H1 _ lsA hl (by rw [z1, hz, List.length_set]) ?_ (hS.put z1 oq ((bm_W_D (B := B) (cy := cy) M).2 q.2 _ h1))
  rw [← bm_W_set, bm_en_r, List.length_set, bm_rv_set hlt]
  refine hP.set (bm_W_D M) h1 ?_ oq
  show H1[B + q.2]? = some (vp_cell _ _)
  rw [e1]
  rw [vp_cell_q, vp_cell_q, arrV_store]
  congr 2
  funext j
  by_cases hj : j = x.toNatClampNeg
  · subst hj
    simp [updV, va_up, va_rf]
  · simp [updV, va_up, hj]
end BMT
