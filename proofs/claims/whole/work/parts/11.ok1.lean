abbrev rmX8_fill : Room := { frames := 0, cells := 0, slots := 0, locals := 0 }
def cqX8_fill : am_C := (yX8_fill, .code yX8_fill cX8_fill 4 none, rmX8_fill, some 8, 3, 4)
theorem okX8_fill {l : Launch} {dC : Nat → ClassId} {dI ad : Nat → Nat → Nat} {cy : Nat → ClassId} : am_Ok l dC dI ad cy yX8_fill (.code yX8_fill cX8_fill 4 none) rmX8_fill fX8_fill :=
  am_meth_ok (ci := []) (by decide +kernel) rfl ⟨rfl, rfl⟩ (am_rows_of (by decide +kernel) (am_words_of [185, 187, 189] (by decide +kernel) (by decide +kernel))) am_cs_nil (am_cv_of (by decide +kernel))
theorem calX8_fill {l : Launch} {dC : Nat → ClassId} {dI ad : Nat → Nat → Nat} {cy : Nat → ClassId} {R : Room} (h1 : rmX8_fill.frames + 1 ≤ R.frames) (h2 : 8 + (4 + 11) + rmX8_fill.locals ≤ R.locals) : am_Cal l dC dI ad cy R 0 0 cqX8_fill fX8_fill :=
  ⟨okX8_fill, am_inU 777 (by decide +kernel) (by decide +kernel), Nat.le_refl _, Nat.le_refl _, h1, h2, ⟨by decide, by decide, by decide +kernel⟩, ⟨by decide, rfl⟩, Or.inl ⟨_, _, rfl⟩⟩
abbrev rmX9_demandArgument : Room := { frames := 6, cells := 0, slots := 0, locals := 120 }
def cqX9_demandArgument : am_C := (yX9_demandArgument, .code yX9_demandArgument cX9_demandArgument 1 none, rmX9_demandArgument, none, 1, 1)
theorem okX9_demandArgument {l : Launch} {dC : Nat → ClassId} {dI ad : Nat → Nat → Nat} {cy : Nat → ClassId} : am_Ok l dC dI ad cy yX9_demandArgument (.code yX9_demandArgument cX9_demandArgument 1 none) rmX9_demandArgument fX9_demandArgument := by
  intro av M M2 r hav hF
  refine am_meth_ok (cs := []) (ci := []) (rt := 0) (nL := 1) (N := 3) (P := am_pD) (by decide +kernel) rfl ⟨rfl, rfl⟩ (am_rows_of (by decide +kernel) (am_words_of [] (by decide +kernel) (by decide +kernel))) am_cs_nil (am_cv_of (by decide +kernel)) av M M2 r hav ?_
  unfold fX9_demandArgument at hF
  split at hF
  · rename_i x
    split at hF
    · cases hF
    · rename_i hx
      cases hF
      show (if x = 0 then _ else _) = _
      rw [if_neg hx]
      rfl
  · cases hF
theorem calX9_demandArgument {l : Launch} {dC : Nat → ClassId} {dI ad : Nat → Nat → Nat} {cy : Nat → ClassId} {R : Room} (h1 : rmX9_demandArgument.frames + 1 ≤ R.frames) (h2 : 8 + (1 + 11) + rmX9_demandArgument.locals ≤ R.locals) : am_Cal l dC dI ad cy R 0 0 cqX9_demandArgument fX9_demandArgument :=
  ⟨okX9_demandArgument, am_inU 611 (by decide +kernel) (by decide +kernel), Nat.le_refl _, Nat.le_refl _, h1, h2, ⟨by decide, by decide, by decide +kernel⟩, trivial, Or.inl ⟨_, _, rfl⟩⟩
abbrev rmX9_isOrdered : Room := { frames := 1, cells := 0, slots := 0, locals := 20 }
def cqX9_isOrdered : am_C := (yX9_isOrdered, .code yX9_isOrdered cX9_isOrdered 3 (some .boolean), rmX9_isOrdered, some 9, 1, 3)
theorem okX9_isOrdered {l : Launch} {dC : Nat → ClassId} {dI ad : Nat → Nat → Nat} {cy : Nat → ClassId} : am_Ok l dC dI ad cy yX9_isOrdered (.code yX9_isOrdered cX9_isOrdered 3 (some .boolean)) rmX9_isOrdered fX9_isOrdered :=
  am_meth_ok (ci := [cqX4_isOpen]) (by decide +kernel) rfl ⟨rfl, rfl⟩ (am_rows_of (by decide +kernel) (am_words_of [318, 315, 680, 681, 682, 65, 315, 273] (by decide +kernel) (by decide +kernel))) (am_cs_cons (calX4_isOpen (by decide) (by decide)) am_cs_nil) (am_cv_of (by decide +kernel))
theorem calX9_isOrdered {l : Launch} {dC : Nat → ClassId} {dI ad : Nat → Nat → Nat} {cy : Nat → ClassId} {R : Room} (h1 : rmX9_isOrdered.frames + 1 ≤ R.frames) (h2 : 8 + (3 + 11) + rmX9_isOrdered.locals ≤ R.locals) : am_Cal l dC dI ad cy R 0 0 cqX9_isOrdered fX9_isOrdered :=
  ⟨okX9_isOrdered, am_inU 679 (by decide +kernel) (by decide +kernel), Nat.le_refl _, Nat.le_refl _, h1, h2, ⟨by decide, by decide, by decide +kernel⟩, ⟨by decide, rfl⟩, Or.inl ⟨_, _, rfl⟩⟩
abbrev rmX9_demandState : Room := { frames := 6, cells := 0, slots := 0, locals := 120 }
def cqX9_demandState : am_C := (yX9_demandState, .code yX9_demandState cX9_demandState 1 none, rmX9_demandState, none, 1, 1)
theorem okX9_demandState {l : Launch} {dC : Nat → ClassId} {dI ad : Nat → Nat → Nat} {cy : Nat → ClassId} : am_Ok l dC dI ad cy yX9_demandState (.code yX9_demandState cX9_demandState 1 none) rmX9_demandState fX9_demandState := by
  intro av M M2 r hav hF
  refine am_meth_ok (cs := []) (ci := []) (rt := 0) (nL := 1) (N := 3) (P := am_pD) (by decide +kernel) rfl ⟨rfl, rfl⟩ (am_rows_of (by decide +kernel) (am_words_of [] (by decide +kernel) (by decide +kernel))) am_cs_nil (am_cv_of (by decide +kernel)) av M M2 r hav ?_
  unfold fX9_demandState at hF
  split at hF
  · rename_i x
    split at hF
    · cases hF
    · rename_i hx
      cases hF
      show (if x = 0 then _ else _) = _
      rw [if_neg hx]
      rfl
  · cases hF
theorem calX9_demandState {l : Launch} {dC : Nat → ClassId} {dI ad : Nat → Nat → Nat} {cy : Nat → ClassId} {R : Room} (h1 : rmX9_demandState.frames + 1 ≤ R.frames) (h2 : 8 + (1 + 11) + rmX9_demandState.locals ≤ R.locals) : am_Cal l dC dI ad cy R 0 0 cqX9_demandState fX9_demandState :=
  ⟨okX9_demandState, am_inU 686 (by decide +kernel) (by decide +kernel), Nat.le_refl _, Nat.le_refl _, h1, h2, ⟨by decide, by decide, by decide +kernel⟩, trivial, Or.inl ⟨_, _, rfl⟩⟩
abbrev rmX9_define : Room := { frames := 7, cells := 0, slots := 0, locals := 140 }
def cqX9_define : am_C := (yX9_define, .code yX9_define cX9_define 5 none, rmX9_define, some 9, 3, 5)
theorem okX9_define {l : Launch} {dC : Nat → ClassId} {dI ad : Nat → Nat → Nat} {cy : Nat → ClassId} : am_Ok l dC dI ad cy yX9_define (.code yX9_define cX9_define 5 none) rmX9_define fX9_define :=
  am_meth_ok (ci := [cqX9_isWithin, cqX6_accepts, cqX9_demandArgument, cqX9_isOrdered, cqX9_demandState]) (by decide +kernel) rfl ⟨rfl, rfl⟩ (am_rows_of (by decide +kernel) (am_words_of [380, 56, 379, 603, 59, 602, 610, 56, 609, 676, 678, 19, 56, 685, 56, 684, 311, 164, 170] (by decide +kernel) (by decide +kernel))) (am_cs_cons (calX9_isWithin (by decide) (by decide)) (am_cs_cons (calX6_accepts (by decide) (by decide)) (am_cs_cons (calX9_demandArgument (by decide) (by decide)) (am_cs_cons (calX9_isOrdered (by decide) (by decide)) (am_cs_cons (calX9_demandState (by decide) (by decide)) am_cs_nil))))) (am_cv_of (by decide +kernel))
theorem calX9_define {l : Launch} {dC : Nat → ClassId} {dI ad : Nat → Nat → Nat} {cy : Nat → ClassId} {R : Room} (h1 : rmX9_define.frames + 1 ≤ R.frames) (h2 : 8 + (5 + 11) + rmX9_define.locals ≤ R.locals) : am_Cal l dC dI ad cy R 0 0 cqX9_define fX9_define :=
  ⟨okX9_define, am_inU 601 (by decide +kernel) (by decide +kernel), Nat.le_refl _, Nat.le_refl _, h1, h2, ⟨by decide, by decide, by decide +kernel⟩, ⟨by decide, rfl⟩, Or.inl ⟨_, _, rfl⟩⟩
abbrev rmX9_curve : Room := { frames := 7, cells := 0, slots := 0, locals := 140 }
def cqX9_curve : am_C := (yX9_curve, .code yX9_curve cX9_curve 5 (some .int), rmX9_curve, some 9, 3, 5)
theorem okX9_curve {l : Launch} {dC : Nat → ClassId} {dI ad : Nat → Nat → Nat} {cy : Nat → ClassId} : am_Ok l dC dI ad cy yX9_curve (.code yX9_curve cX9_curve 5 (some .int)) rmX9_curve fX9_curve :=
  am_meth_ok (ci := [cqX9_isWithin, cqX0_accepts, cqX9_demandArgument, cqX9_isOrdered, cqX0_takes, cqX9_demandState, cqX0_add]) (by decide +kernel) rfl ⟨rfl, rfl⟩ (am_rows_of (by decide +kernel) (am_words_of [380, 56, 379, 710, 60, 709, 710, 60, 709, 610, 56, 609, 311, 676, 678, 19, 56, 166, 715, 716, 717, 60, 685, 56, 684, 166, 719, 720, 721, 60, 170, 166, 141] (by decide +kernel) (by decide +kernel))) (am_cs_cons (calX9_isWithin (by decide) (by decide)) (am_cs_cons (calX0_accepts (by decide) (by decide)) (am_cs_cons (calX9_demandArgument (by decide) (by decide)) (am_cs_cons (calX9_isOrdered (by decide) (by decide)) (am_cs_cons (calX0_takes (by decide) (by decide)) (am_cs_cons (calX9_demandState (by decide) (by decide)) (am_cs_cons (calX0_add (by decide) (by decide)) am_cs_nil))))))) (am_cv_of (by decide +kernel))
theorem calX9_curve {l : Launch} {dC : Nat → ClassId} {dI ad : Nat → Nat → Nat} {cy : Nat → ClassId} {R : Room} (h1 : rmX9_curve.frames + 1 ≤ R.frames) (h2 : 8 + (5 + 11) + rmX9_curve.locals ≤ R.locals) : am_Cal l dC dI ad cy R 0 0 cqX9_curve fX9_curve :=
  ⟨okX9_curve, am_inU 708 (by decide +kernel) (by decide +kernel), Nat.le_refl _, Nat.le_refl _, h1, h2, ⟨by decide, by decide, by decide +kernel⟩, ⟨by decide, rfl⟩, Or.inl ⟨_, _, rfl⟩⟩
abbrev rmX9_seal : Room := { frames := 7, cells := 0, slots := 0, locals := 140 }
def cqX9_seal : am_C := (yX9_seal, .code yX9_seal cX9_seal 3 (some .boolean), rmX9_seal, some 9, 1, 3)
theorem okX9_seal {l : Launch} {dC : Nat → ClassId} {dI ad : Nat → Nat → Nat} {cy : Nat → ClassId} : am_Ok l dC dI ad cy yX9_seal (.code yX9_seal cX9_seal 3 (some .boolean)) rmX9_seal fX9_seal :=
  am_meth_ok (ci := [cqX9_isWithin, cqX9_demandArgument, cqX6_isComplete]) (by decide +kernel) rfl ⟨rfl, rfl⟩ (am_rows_of (by decide +kernel) (am_words_of [380, 56, 379, 610, 56, 609, 311, 730, 731, 732, 59, 170, 170] (by decide +kernel) (by decide +kernel))) (am_cs_cons (calX9_isWithin (by decide) (by decide)) (am_cs_cons (calX9_demandArgument (by decide) (by decide)) (am_cs_cons (calX6_isComplete (by decide) (by decide)) am_cs_nil))) (am_cv_of (by decide +kernel))
theorem calX9_seal {l : Launch} {dC : Nat → ClassId} {dI ad : Nat → Nat → Nat} {cy : Nat → ClassId} {R : Room} (h1 : rmX9_seal.frames + 1 ≤ R.frames) (h2 : 8 + (3 + 11) + rmX9_seal.locals ≤ R.locals) : am_Cal l dC dI ad cy R 0 0 cqX9_seal fX9_seal :=
  ⟨okX9_seal, am_inU 729 (by decide +kernel) (by decide +kernel), Nat.le_refl _, Nat.le_refl _, h1, h2, ⟨by decide, by decide, by decide +kernel⟩, ⟨by decide, rfl⟩, Or.inl ⟨_, _, rfl⟩⟩
abbrev rmX9_slotOf : Room := { frames := 0, cells := 0, slots := 0, locals := 0 }
def cqX9_slotOf : am_C := (yX9_slotOf, .code yX9_slotOf cX9_slotOf 3 (some .int), rmX9_slotOf, some 9, 1, 3)
theorem okX9_slotOf {l : Launch} {dC : Nat → ClassId} {dI ad : Nat → Nat → Nat} {cy : Nat → ClassId} : am_Ok l dC dI ad cy yX9_slotOf (.code yX9_slotOf cX9_slotOf 3 (some .int)) rmX9_slotOf fX9_slotOf :=
  am_meth_ok (ci := []) (by decide +kernel) rfl ⟨rfl, rfl⟩ (am_rows_of (by decide +kernel) (am_words_of [312, 186] (by decide +kernel) (by decide +kernel))) am_cs_nil (am_cv_of (by decide +kernel))
theorem calX9_slotOf {l : Launch} {dC : Nat → ClassId} {dI ad : Nat → Nat → Nat} {cy : Nat → ClassId} {R : Room} (h1 : rmX9_slotOf.frames + 1 ≤ R.frames) (h2 : 8 + (3 + 11) + rmX9_slotOf.locals ≤ R.locals) : am_Cal l dC dI ad cy R 0 0 cqX9_slotOf fX9_slotOf :=
  ⟨okX9_slotOf, am_inU 519 (by decide +kernel) (by decide +kernel), Nat.le_refl _, Nat.le_refl _, h1, h2, ⟨by decide, by decide, by decide +kernel⟩, ⟨by decide, rfl⟩, Or.inl ⟨_, _, rfl⟩⟩
abbrev rmX9_rack : Room := { frames := 7, cells := 0, slots := 0, locals := 140 }
def cqX9_rack : am_C := (yX9_rack, .code yX9_rack cX9_rack 5 none, rmX9_rack, some 9, 4, 5)
theorem okX9_rack {l : Launch} {dC : Nat → ClassId} {dI ad : Nat → Nat → Nat} {cy : Nat → ClassId} : am_Ok l dC dI ad cy yX9_rack (.code yX9_rack cX9_rack 5 none) rmX9_rack fX9_rack :=
  am_meth_ok (ci := [cqX9_isWithin, cqX9_demandArgument, cqX8_isEmpty, cqX9_slotOf, cqX9_demandState, cqX8_fill]) (by decide +kernel) rfl ⟨rfl, rfl⟩ (am_rows_of (by decide +kernel) (am_words_of [380, 56, 379, 768, 380, 56, 379, 610, 56, 609, 380, 56, 379, 769, 380, 56, 379, 610, 56, 609, 312, 770, 771, 772, 62, 516, 518, 11, 56, 685, 56, 684, 312, 774, 775, 776, 62] (by decide +kernel) (by decide +kernel))) (am_cs_cons (calX9_isWithin (by decide) (by decide)) (am_cs_cons (calX9_demandArgument (by decide) (by decide)) (am_cs_cons (calX8_isEmpty (by decide) (by decide)) (am_cs_cons (calX9_slotOf (by decide) (by decide)) (am_cs_cons (calX9_demandState (by decide) (by decide)) (am_cs_cons (calX8_fill (by decide) (by decide)) am_cs_nil)))))) (am_cv_of (by decide +kernel))
theorem calX9_rack {l : Launch} {dC : Nat → ClassId} {dI ad : Nat → Nat → Nat} {cy : Nat → ClassId} {R : Room} (h1 : rmX9_rack.frames + 1 ≤ R.frames) (h2 : 8 + (5 + 11) + rmX9_rack.locals ≤ R.locals) : am_Cal l dC dI ad cy R 0 0 cqX9_rack fX9_rack :=
  ⟨okX9_rack, am_inU 767 (by decide +kernel) (by decide +kernel), Nat.le_refl _, Nat.le_refl _, h1, h2, ⟨by decide, by decide, by decide +kernel⟩, ⟨by decide, rfl⟩, Or.inl ⟨_, _, rfl⟩⟩
abbrev rmX9_demandElement : Room := { frames := 6, cells := 0, slots := 0, locals := 120 }
def cqX9_demandElement : am_C := (yX9_demandElement, .code yX9_demandElement cX9_demandElement 1 none, rmX9_demandElement, none, 1, 1)
theorem okX9_demandElement {l : Launch} {dC : Nat → ClassId} {dI ad : Nat → Nat → Nat} {cy : Nat → ClassId} : am_Ok l dC dI ad cy yX9_demandElement (.code yX9_demandElement cX9_demandElement 1 none) rmX9_demandElement fX9_demandElement := by
  intro av M M2 r hav hF
  refine am_meth_ok (cs := []) (ci := []) (rt := 0) (nL := 1) (N := 3) (P := am_pD) (by decide +kernel) rfl ⟨rfl, rfl⟩ (am_rows_of (by decide +kernel) (am_words_of [] (by decide +kernel) (by decide +kernel))) am_cs_nil (am_cv_of (by decide +kernel)) av M M2 r hav ?_
  unfold fX9_demandElement at hF
  split at hF
  · rename_i x
    split at hF
    · cases hF
    · rename_i hx
      cases hF
      show (if x = 0 then _ else _) = _
      rw [if_neg hx]
      rfl
  · cases hF
theorem calX9_demandElement {l : Launch} {dC : Nat → ClassId} {dI ad : Nat → Nat → Nat} {cy : Nat → ClassId} {R : Room} (h1 : rmX9_demandElement.frames + 1 ≤ R.frames) (h2 : 8 + (1 + 11) + rmX9_demandElement.locals ≤ R.locals) : am_Cal l dC dI ad cy R 0 0 cqX9_demandElement fX9_demandElement :=
  ⟨okX9_demandElement, am_inU 788 (by decide +kernel) (by decide +kernel), Nat.le_refl _, Nat.le_refl _, h1, h2, ⟨by decide, by decide, by decide +kernel⟩, trivial, Or.inl ⟨_, _, rfl⟩⟩
abbrev rmX9_isAwaited : Room := { frames := 1, cells := 0, slots := 0, locals := 20 }
def cqX9_isAwaited : am_C := (yX9_isAwaited, .code yX9_isAwaited cX9_isAwaited 3 (some .boolean), rmX9_isAwaited, some 9, 1, 3)
theorem okX9_isAwaited {l : Launch} {dC : Nat → ClassId} {dI ad : Nat → Nat → Nat} {cy : Nat → ClassId} : am_Ok l dC dI ad cy yX9_isAwaited (.code yX9_isAwaited cX9_isAwaited 3 (some .boolean)) rmX9_isAwaited fX9_isAwaited :=
  am_meth_ok (ci := [cqX4_isOpen]) (by decide +kernel) rfl ⟨rfl, rfl⟩ (am_rows_of (by decide +kernel) (am_words_of [318, 315, 680, 681, 682, 65, 315, 271] (by decide +kernel) (by decide +kernel))) (am_cs_cons (calX4_isOpen (by decide) (by decide)) am_cs_nil) (am_cv_of (by decide +kernel))
theorem calX9_isAwaited {l : Launch} {dC : Nat → ClassId} {dI ad : Nat → Nat → Nat} {cy : Nat → ClassId} {R : Room} (h1 : rmX9_isAwaited.frames + 1 ≤ R.frames) (h2 : 8 + (3 + 11) + rmX9_isAwaited.locals ≤ R.locals) : am_Cal l dC dI ad cy R 0 0 cqX9_isAwaited fX9_isAwaited :=
  ⟨okX9_isAwaited, am_inU 807 (by decide +kernel) (by decide +kernel), Nat.le_refl _, Nat.le_refl _, h1, h2, ⟨by decide, by decide, by decide +kernel⟩, ⟨by decide, rfl⟩, Or.inl ⟨_, _, rfl⟩⟩
abbrev rmX9_removeRack : Room := { frames := 7, cells := 0, slots := 0, locals := 140 }
def cqX9_removeRack : am_C := (yX9_removeRack, .code yX9_removeRack cX9_removeRack 2 (some .int), rmX9_removeRack, some 9, 1, 2)
theorem okX9_removeRack {l : Launch} {dC : Nat → ClassId} {dI ad : Nat → Nat → Nat} {cy : Nat → ClassId} : am_Ok l dC dI ad cy yX9_removeRack (.code yX9_removeRack cX9_removeRack 2 (some .int)) rmX9_removeRack fX9_removeRack :=
  am_meth_ok (ci := [cqX9_isWithin, cqX9_demandArgument, cqX8_isEmpty, cqX9_demandElement, cqX9_isAwaited, cqX9_demandState]) (by decide +kernel) rfl ⟨rfl, rfl⟩ (am_rows_of (by decide +kernel) (am_words_of [380, 56, 379, 610, 56, 609, 312, 770, 771, 772, 62, 787, 56, 786, 312, 186, 804, 806, 25, 56, 685, 56, 684, 312, 186, 312, 190] (by decide +kernel) (by decide +kernel))) (am_cs_cons (calX9_isWithin (by decide) (by decide)) (am_cs_cons (calX9_demandArgument (by decide) (by decide)) (am_cs_cons (calX8_isEmpty (by decide) (by decide)) (am_cs_cons (calX9_demandElement (by decide) (by decide)) (am_cs_cons (calX9_isAwaited (by decide) (by decide)) (am_cs_cons (calX9_demandState (by decide) (by decide)) am_cs_nil)))))) (am_cv_of (by decide +kernel))
theorem calX9_removeRack {l : Launch} {dC : Nat → ClassId} {dI ad : Nat → Nat → Nat} {cy : Nat → ClassId} {R : Room} (h1 : rmX9_removeRack.frames + 1 ≤ R.frames) (h2 : 8 + (2 + 11) + rmX9_removeRack.locals ≤ R.locals) : am_Cal l dC dI ad cy R 0 0 cqX9_removeRack fX9_removeRack :=
  ⟨okX9_removeRack, am_inU 785 (by decide +kernel) (by decide +kernel), Nat.le_refl _, Nat.le_refl _, h1, h2, ⟨by decide, by decide, by decide +kernel⟩, ⟨by decide, rfl⟩, Or.inl ⟨_, _, rfl⟩⟩
abbrev rmX9_reagent : Room := { frames := 7, cells := 0, slots := 0, locals := 140 }
def cqX9_reagent : am_C := (yX9_reagent, .code yX9_reagent cX9_reagent 5 none, rmX9_reagent, some 9, 4, 5)
theorem okX9_reagent {l : Launch} {dC : Nat → ClassId} {dI ad : Nat → Nat → Nat} {cy : Nat → ClassId} : am_Ok l dC dI ad cy yX9_reagent (.code yX9_reagent cX9_reagent 5 none) rmX9_reagent fX9_reagent :=
  am_meth_ok (ci := [cqX9_isWithin, cqX9_demandArgument, cqX9_demandState, cqX5_fill]) (by decide +kernel) rfl ⟨rfl, rfl⟩ (am_rows_of (by decide +kernel) (am_words_of [380, 56, 379, 380, 56, 379, 610, 56, 609, 769, 380, 56, 379, 610, 56, 609, 313, 207, 685, 56, 684, 313, 815, 816, 817, 63] (by decide +kernel) (by decide +kernel))) (am_cs_cons (calX9_isWithin (by decide) (by decide)) (am_cs_cons (calX9_demandArgument (by decide) (by decide)) (am_cs_cons (calX9_demandState (by decide) (by decide)) (am_cs_cons (calX5_fill (by decide) (by decide)) am_cs_nil)))) (am_cv_of (by decide +kernel))
theorem calX9_reagent {l : Launch} {dC : Nat → ClassId} {dI ad : Nat → Nat → Nat} {cy : Nat → ClassId} {R : Room} (h1 : rmX9_reagent.frames + 1 ≤ R.frames) (h2 : 8 + (5 + 11) + rmX9_reagent.locals ≤ R.locals) : am_Cal l dC dI ad cy R 0 0 cqX9_reagent fX9_reagent :=
  ⟨okX9_reagent, am_inU 814 (by decide +kernel) (by decide +kernel), Nat.le_refl _, Nat.le_refl _, h1, h2, ⟨by decide, by decide, by decide +kernel⟩, ⟨by decide, rfl⟩, Or.inl ⟨_, _, rfl⟩⟩
abbrev rmX9_forbid : Room := { frames := 7, cells := 0, slots := 0, locals := 140 }
def cqX9_forbid : am_C := (yX9_forbid, .code yX9_forbid cX9_forbid 3 (some .boolean), rmX9_forbid, some 9, 2, 3)
theorem okX9_forbid {l : Launch} {dC : Nat → ClassId} {dI ad : Nat → Nat → Nat} {cy : Nat → ClassId} : am_Ok l dC dI ad cy yX9_forbid (.code yX9_forbid cX9_forbid 3 (some .boolean)) rmX9_forbid fX9_forbid :=
  am_meth_ok (ci := [cqX9_isWithin, cqX9_demandArgument, cqX7_turnSuccession]) (by decide +kernel) rfl ⟨rfl, rfl⟩ (am_rows_of (by decide +kernel) (am_words_of [380, 56, 379, 380, 56, 379, 610, 56, 609, 316, 826, 827, 828, 57] (by decide +kernel) (by decide +kernel))) (am_cs_cons (calX9_isWithin (by decide) (by decide)) (am_cs_cons (calX9_demandArgument (by decide) (by decide)) (am_cs_cons (calX7_turnSuccession (by decide) (by decide)) am_cs_nil))) (am_cv_of (by decide +kernel))
theorem calX9_forbid {l : Launch} {dC : Nat → ClassId} {dI ad : Nat → Nat → Nat} {cy : Nat → ClassId} {R : Room} (h1 : rmX9_forbid.frames + 1 ≤ R.frames) (h2 : 8 + (3 + 11) + rmX9_forbid.locals ≤ R.locals) : am_Cal l dC dI ad cy R 0 0 cqX9_forbid fX9_forbid :=
  ⟨okX9_forbid, am_inU 825 (by decide +kernel) (by decide +kernel), Nat.le_refl _, Nat.le_refl _, h1, h2, ⟨by decide, by decide, by decide +kernel⟩, ⟨by decide, rfl⟩, Or.inl ⟨_, _, rfl⟩⟩
abbrev rmX9_order : Room := { frames := 7, cells := 0, slots := 0, locals := 140 }
def cqX9_order : am_C := (yX9_order, .code yX9_order cX9_order 5 (some .int), rmX9_order, some 9, 3, 5)
theorem okX9_order {l : Launch} {dC : Nat → ClassId} {dI ad : Nat → Nat → Nat} {cy : Nat → ClassId} : am_Ok l dC dI ad cy yX9_order (.code yX9_order cX9_order 5 (some .int)) rmX9_order fX9_order :=
  am_meth_ok (ci := [cqX9_isWithin, cqX9_demandArgument, cqX9_demandState, cqX4_place]) (by decide +kernel) rfl ⟨rfl, rfl⟩ (am_rows_of (by decide +kernel) (am_words_of [768, 380, 56, 379, 380, 56, 379, 610, 56, 609, 311, 170, 318, 685, 56, 684, 318, 315, 837, 838, 839, 65, 318] (by decide +kernel) (by decide +kernel))) (am_cs_cons (calX9_isWithin (by decide) (by decide)) (am_cs_cons (calX9_demandArgument (by decide) (by decide)) (am_cs_cons (calX9_demandState (by decide) (by decide)) (am_cs_cons (calX4_place (by decide) (by decide)) am_cs_nil)))) (am_cv_of (by decide +kernel))
theorem calX9_order {l : Launch} {dC : Nat → ClassId} {dI ad : Nat → Nat → Nat} {cy : Nat → ClassId} {R : Room} (h1 : rmX9_order.frames + 1 ≤ R.frames) (h2 : 8 + (5 + 11) + rmX9_order.locals ≤ R.locals) : am_Cal l dC dI ad cy R 0 0 cqX9_order fX9_order :=
  ⟨okX9_order, am_inU 836 (by decide +kernel) (by decide +kernel), Nat.le_refl _, Nat.le_refl _, h1, h2, ⟨by decide, by decide, by decide +kernel⟩, ⟨by decide, rfl⟩, Or.inl ⟨_, _, rfl⟩⟩
abbrev rmX9_clock : Room := { frames := 7, cells := 0, slots := 0, locals := 140 }
def cqX9_clock : am_C := (yX9_clock, .code yX9_clock cX9_clock 2 none, rmX9_clock, some 9, 1, 2)
theorem okX9_clock {l : Launch} {dC : Nat → ClassId} {dI ad : Nat → Nat → Nat} {cy : Nat → ClassId} : am_Ok l dC dI ad cy yX9_clock (.code yX9_clock cX9_clock 2 none) rmX9_clock fX9_clock :=
  am_meth_ok (ci := [cqX9_demandArgument]) (by decide +kernel) rfl ⟨rfl, rfl⟩ (am_rows_of (by decide +kernel) (am_words_of [319, 610, 56, 609, 319] (by decide +kernel) (by decide +kernel))) (am_cs_cons (calX9_demandArgument (by decide) (by decide)) am_cs_nil) (am_cv_of (by decide +kernel))
theorem calX9_clock {l : Launch} {dC : Nat → ClassId} {dI ad : Nat → Nat → Nat} {cy : Nat → ClassId} {R : Room} (h1 : rmX9_clock.frames + 1 ≤ R.frames) (h2 : 8 + (2 + 11) + rmX9_clock.locals ≤ R.locals) : am_Cal l dC dI ad cy R 0 0 cqX9_clock fX9_clock :=
  ⟨okX9_clock, am_inU 847 (by decide +kernel) (by decide +kernel), Nat.le_refl _, Nat.le_refl _, h1, h2, ⟨by decide, by decide, by decide +kernel⟩, ⟨by decide, rfl⟩, Or.inl ⟨_, _, rfl⟩⟩
abbrev rmX9_light : Room := { frames := 7, cells := 0, slots := 0, locals := 140 }
def cqX9_light : am_C := (yX9_light, .code yX9_light cX9_light 2 none, rmX9_light, some 9, 1, 2)
theorem okX9_light {l : Launch} {dC : Nat → ClassId} {dI ad : Nat → Nat → Nat} {cy : Nat → ClassId} : am_Ok l dC dI ad cy yX9_light (.code yX9_light cX9_light 2 none) rmX9_light fX9_light :=
  am_meth_ok (ci := [cqX9_isWithin, cqX9_demandArgument]) (by decide +kernel) rfl ⟨rfl, rfl⟩ (am_rows_of (by decide +kernel) (am_words_of [126, 380, 56, 379, 610, 56, 609, 320] (by decide +kernel) (by decide +kernel))) (am_cs_cons (calX9_isWithin (by decide) (by decide)) (am_cs_cons (calX9_demandArgument (by decide) (by decide)) am_cs_nil)) (am_cv_of (by decide +kernel))
theorem calX9_light {l : Launch} {dC : Nat → ClassId} {dI ad : Nat → Nat → Nat} {cy : Nat → ClassId} {R : Room} (h1 : rmX9_light.frames + 1 ≤ R.frames) (h2 : 8 + (2 + 11) + rmX9_light.locals ≤ R.locals) : am_Cal l dC dI ad cy R 0 0 cqX9_light fX9_light :=
  ⟨okX9_light, am_inU 854 (by decide +kernel) (by decide +kernel), Nat.le_refl _, Nat.le_refl _, h1, h2, ⟨by decide, by decide, by decide +kernel⟩, ⟨by decide, rfl⟩, Or.inl ⟨_, _, rfl⟩⟩
abbrev rmX9_spoil : Room := { frames := 7, cells := 0, slots := 0, locals := 140 }
def cqX9_spoil : am_C := (yX9_spoil, .code yX9_spoil cX9_spoil 2 none, rmX9_spoil, some 9, 1, 2)
theorem okX9_spoil {l : Launch} {dC : Nat → ClassId} {dI ad : Nat → Nat → Nat} {cy : Nat → ClassId} : am_Ok l dC dI ad cy yX9_spoil (.code yX9_spoil cX9_spoil 2 none) rmX9_spoil fX9_spoil :=
  am_meth_ok (ci := [cqX9_isWithin, cqX9_demandArgument]) (by decide +kernel) rfl ⟨rfl, rfl⟩ (am_rows_of (by decide +kernel) (am_words_of [380, 56, 379, 610, 56, 609, 321, 322] (by decide +kernel) (by decide +kernel))) (am_cs_cons (calX9_isWithin (by decide) (by decide)) (am_cs_cons (calX9_demandArgument (by decide) (by decide)) am_cs_nil)) (am_cv_of (by decide +kernel))
theorem calX9_spoil {l : Launch} {dC : Nat → ClassId} {dI ad : Nat → Nat → Nat} {cy : Nat → ClassId} {R : Room} (h1 : rmX9_spoil.frames + 1 ≤ R.frames) (h2 : 8 + (2 + 11) + rmX9_spoil.locals ≤ R.locals) : am_Cal l dC dI ad cy R 0 0 cqX9_spoil fX9_spoil :=
  ⟨okX9_spoil, am_inU 861 (by decide +kernel) (by decide +kernel), Nat.le_refl _, Nat.le_refl _, h1, h2, ⟨by decide, by decide, by decide +kernel⟩, ⟨by decide, rfl⟩, Or.inl ⟨_, _, rfl⟩⟩
abbrev rmX9_turnDisc : Room := { frames := 2, cells := 0, slots := 0, locals := 42 }
def cqX9_turnDisc : am_C := (yX9_turnDisc, .code yX9_turnDisc cX9_turnDisc 2 none, rmX9_turnDisc, some 9, 0, 2)
theorem okX9_turnDisc {l : Launch} {dC : Nat → ClassId} {dI ad : Nat → Nat → Nat} {cy : Nat → ClassId} : am_Ok l dC dI ad cy yX9_turnDisc (.code yX9_turnDisc cX9_turnDisc 2 none) rmX9_turnDisc fX9_turnDisc :=
  am_meth_ok (ci := [cqX1_turn, cqX7_turn]) (by decide +kernel) rfl ⟨rfl, rfl⟩ (am_rows_of (by decide +kernel) (am_words_of [314, 359, 360, 361, 64, 316, 363, 364, 365, 57] (by decide +kernel) (by decide +kernel))) (am_cs_cons (calX1_turn (by decide) (by decide)) (am_cs_cons (calX7_turn (by decide) (by decide)) am_cs_nil)) (am_cv_of (by decide +kernel))
theorem calX9_turnDisc {l : Launch} {dC : Nat → ClassId} {dI ad : Nat → Nat → Nat} {cy : Nat → ClassId} {R : Room} (h1 : rmX9_turnDisc.frames + 1 ≤ R.frames) (h2 : 8 + (2 + 11) + rmX9_turnDisc.locals ≤ R.locals) : am_Cal l dC dI ad cy R 0 0 cqX9_turnDisc fX9_turnDisc :=
  ⟨okX9_turnDisc, am_inU 358 (by decide +kernel) (by decide +kernel), Nat.le_refl _, Nat.le_refl _, h1, h2, ⟨by decide, by decide, by decide +kernel⟩, ⟨by decide, rfl⟩, Or.inl ⟨_, _, rfl⟩⟩
abbrev rmX9_breakOff : Room := { frames := 2, cells := 0, slots := 0, locals := 43 }
def cqX9_breakOff : am_C := (yX9_breakOff, .code yX9_breakOff cX9_breakOff 5 none, rmX9_breakOff, some 9, 2, 5)
theorem okX9_breakOff {l : Launch} {dC : Nat → ClassId} {dI ad : Nat → Nat → Nat} {cy : Nat → ClassId} : am_Ok l dC dI ad cy yX9_breakOff (.code yX9_breakOff cX9_breakOff 5 none) rmX9_breakOff fX9_breakOff :=
  am_meth_ok (ci := [cqX9_isWithin, cqX7_cancel, cqX4_breakOff, cqX1_sendToWash]) (by decide +kernel) rfl ⟨rfl, rfl⟩ (am_rows_of (by decide +kernel) (am_words_of [314, 233, 229, 380, 56, 379, 313, 229, 207, 231, 207, 316, 386, 387, 388, 57, 235, 318, 380, 56, 379, 315, 235, 390, 391, 392, 65, 402, 403, 404, 64] (by decide +kernel) (by decide +kernel))) (am_cs_cons (calX9_isWithin (by decide) (by decide)) (am_cs_cons (calX7_cancel (by decide) (by decide)) (am_cs_cons (calX4_breakOff (by decide) (by decide)) (am_cs_cons (calX1_sendToWash (by decide) (by decide)) am_cs_nil)))) (am_cv_of (by decide +kernel))
theorem calX9_breakOff {l : Launch} {dC : Nat → ClassId} {dI ad : Nat → Nat → Nat} {cy : Nat → ClassId} {R : Room} (h1 : rmX9_breakOff.frames + 1 ≤ R.frames) (h2 : 8 + (5 + 11) + rmX9_breakOff.locals ≤ R.locals) : am_Cal l dC dI ad cy R 0 0 cqX9_breakOff fX9_breakOff :=
  ⟨okX9_breakOff, am_inU 385 (by decide +kernel) (by decide +kernel), Nat.le_refl _, Nat.le_refl _, h1, h2, ⟨by decide, by decide, by decide +kernel⟩, ⟨by decide, rfl⟩, Or.inl ⟨_, _, rfl⟩⟩
abbrev rmX9_giveNextDose : Room := { frames := 1, cells := 0, slots := 0, locals := 22 }
def cqX9_giveNextDose : am_C := (yX9_giveNextDose, .code yX9_giveNextDose cX9_giveNextDose 5 none, rmX9_giveNextDose, some 9, 1, 5)
theorem okX9_giveNextDose {l : Launch} {dC : Nat → ClassId} {dI ad : Nat → Nat → Nat} {cy : Nat → ClassId} : am_Ok l dC dI ad cy yX9_giveNextDose (.code yX9_giveNextDose cX9_giveNextDose 5 none) rmX9_giveNextDose fX9_giveNextDose :=
  am_meth_ok (ci := [cqX9_isWithin]) (by decide +kernel) rfl ⟨rfl, rfl⟩ (am_rows_of (by decide +kernel) (am_words_of [233, 229, 380, 56, 379, 231, 313, 229, 207, 207, 205, 205, 243, 243, 233] (by decide +kernel) (by decide +kernel))) (am_cs_cons (calX9_isWithin (by decide) (by decide)) am_cs_nil) (am_cv_of (by decide +kernel))
theorem calX9_giveNextDose {l : Launch} {dC : Nat → ClassId} {dI ad : Nat → Nat → Nat} {cy : Nat → ClassId} {R : Room} (h1 : rmX9_giveNextDose.frames + 1 ≤ R.frames) (h2 : 8 + (5 + 11) + rmX9_giveNextDose.locals ≤ R.locals) : am_Cal l dC dI ad cy R 0 0 cqX9_giveNextDose fX9_giveNextDose :=
  ⟨okX9_giveNextDose, am_inU 409 (by decide +kernel) (by decide +kernel), Nat.le_refl _, Nat.le_refl _, h1, h2, ⟨by decide, by decide, by decide +kernel⟩, ⟨by decide, rfl⟩, Or.inl ⟨_, _, rfl⟩⟩
abbrev rmX9_giveReagent : Room := { frames := 3, cells := 0, slots := 0, locals := 67 }
def cqX9_giveReagent : am_C := (yX9_giveReagent, .code yX9_giveReagent cX9_giveReagent 2 none, rmX9_giveReagent, some 9, 0, 2)
theorem okX9_giveReagent {l : Launch} {dC : Nat → ClassId} {dI ad : Nat → Nat → Nat} {cy : Nat → ClassId} : am_Ok l dC dI ad cy yX9_giveReagent (.code yX9_giveReagent cX9_giveReagent 2 none) rmX9_giveReagent fX9_giveReagent :=
  am_meth_ok (ci := [cqX7_userNow, cqX9_isWithin, cqX9_breakOff, cqX9_giveNextDose]) (by decide +kernel) rfl ⟨rfl, rfl⟩ (am_rows_of (by decide +kernel) (am_words_of [316, 375, 376, 377, 57, 380, 56, 379, 322, 322, 382, 384, 3, 56, 314, 406, 408, 4, 56] (by decide +kernel) (by decide +kernel))) (am_cs_cons (calX7_userNow (by decide) (by decide)) (am_cs_cons (calX9_isWithin (by decide) (by decide)) (am_cs_cons (calX9_breakOff (by decide) (by decide)) (am_cs_cons (calX9_giveNextDose (by decide) (by decide)) am_cs_nil)))) (am_cv_of (by decide +kernel))
theorem calX9_giveReagent {l : Launch} {dC : Nat → ClassId} {dI ad : Nat → Nat → Nat} {cy : Nat → ClassId} {R : Room} (h1 : rmX9_giveReagent.frames + 1 ≤ R.frames) (h2 : 8 + (2 + 11) + rmX9_giveReagent.locals ≤ R.locals) : am_Cal l dC dI ad cy R 0 0 cqX9_giveReagent fX9_giveReagent :=
  ⟨okX9_giveReagent, am_inU 374 (by decide +kernel) (by decide +kernel), Nat.le_refl _, Nat.le_refl _, h1, h2, ⟨by decide, by decide, by decide +kernel⟩, ⟨by decide, rfl⟩, Or.inl ⟨_, _, rfl⟩⟩
abbrev rmX9_absorbanceOf : Room := { frames := 0, cells := 0, slots := 0, locals := 0 }
def cqX9_absorbanceOf : am_C := (yX9_absorbanceOf, .code yX9_absorbanceOf cX9_absorbanceOf 6 (some .int), rmX9_absorbanceOf, none, 1, 6)
theorem okX9_absorbanceOf {l : Launch} {dC : Nat → ClassId} {dI ad : Nat → Nat → Nat} {cy : Nat → ClassId} : am_Ok l dC dI ad cy yX9_absorbanceOf (.code yX9_absorbanceOf cX9_absorbanceOf 6 (some .int)) rmX9_absorbanceOf fX9_absorbanceOf :=
  am_meth_ok (ci := []) (by decide +kernel) rfl ⟨rfl, rfl⟩ (am_rows_of (by decide +kernel) (am_words_of [417, 418, 419] (by decide +kernel) (by decide +kernel))) am_cs_nil (am_cv_of (by decide +kernel))
theorem calX9_absorbanceOf {l : Launch} {dC : Nat → ClassId} {dI ad : Nat → Nat → Nat} {cy : Nat → ClassId} {R : Room} (h1 : rmX9_absorbanceOf.frames + 1 ≤ R.frames) (h2 : 8 + (6 + 11) + rmX9_absorbanceOf.locals ≤ R.locals) : am_Cal l dC dI ad cy R 0 0 cqX9_absorbanceOf fX9_absorbanceOf :=
  ⟨okX9_absorbanceOf, am_inU 416 (by decide +kernel) (by decide +kernel), Nat.le_refl _, Nat.le_refl _, h1, h2, ⟨by decide, by decide, by decide +kernel⟩, trivial, Or.inl ⟨_, _, rfl⟩⟩
abbrev rmX9_cuvetteOf : Room := { frames := 1, cells := 0, slots := 0, locals := 22 }
def cqX9_cuvetteOf : am_C := (yX9_cuvetteOf, .code yX9_cuvetteOf cX9_cuvetteOf 2 (some (.object "SampleAnalyser$Cuvette")), rmX9_cuvetteOf, some 9, 1, 2)
theorem okX9_cuvetteOf {l : Launch} {dC : Nat → ClassId} {dI ad : Nat → Nat → Nat} {cy : Nat → ClassId} : am_Ok l dC dI ad cy yX9_cuvetteOf (.code yX9_cuvetteOf cX9_cuvetteOf 2 (some (.object "SampleAnalyser$Cuvette"))) rmX9_cuvetteOf fX9_cuvetteOf :=
  am_meth_ok (ci := [cqX9_isWithin]) (by decide +kernel) ⟨_, rfl⟩ ⟨rfl, rfl⟩ (am_rows_of (by decide +kernel) (am_words_of [285, 380, 56, 379, 314, 285] (by decide +kernel) (by decide +kernel))) (am_cs_cons (calX9_isWithin (by decide) (by decide)) am_cs_nil) (am_cv_of (by decide +kernel))
theorem calX9_cuvetteOf {l : Launch} {dC : Nat → ClassId} {dI ad : Nat → Nat → Nat} {cy : Nat → ClassId} {R : Room} (h1 : rmX9_cuvetteOf.frames + 1 ≤ R.frames) (h2 : 8 + (2 + 11) + rmX9_cuvetteOf.locals ≤ R.locals) : am_Cal l dC dI ad cy R 0 0 cqX9_cuvetteOf fX9_cuvetteOf :=
  ⟨okX9_cuvetteOf, am_inU 423 (by decide +kernel) (by decide +kernel), Nat.le_refl _, Nat.le_refl _, h1, h2, ⟨by decide, by decide, by decide +kernel⟩, ⟨by decide, rfl⟩, Or.inl ⟨_, _, rfl⟩⟩
abbrev rmX9_takeReadings : Room := { frames := 2, cells := 0, slots := 0, locals := 43 }
def cqX9_takeReadings : am_C := (yX9_takeReadings, .code yX9_takeReadings cX9_takeReadings 4 none, rmX9_takeReadings, some 9, 0, 4)
theorem okX9_takeReadings {l : Launch} {dC : Nat → ClassId} {dI ad : Nat → Nat → Nat} {cy : Nat → ClassId} : am_Ok l dC dI ad cy yX9_takeReadings (.code yX9_takeReadings cX9_takeReadings 4 none) rmX9_takeReadings fX9_takeReadings :=
  am_meth_ok (ci := [cqX9_absorbanceOf, cqX9_cuvetteOf, cqX6_isReadAt, cqX1_addReading]) (by decide +kernel) rfl ⟨rfl, rfl⟩ (am_rows_of (by decide +kernel) (am_words_of [320, 415, 56, 414, 318, 315, 420, 422, 6, 56, 311, 315, 273, 239, 424, 425, 426, 59, 429, 430, 431, 64] (by decide +kernel) (by decide +kernel))) (am_cs_cons (calX9_absorbanceOf (by decide) (by decide)) (am_cs_cons (calX9_cuvetteOf (by decide) (by decide)) (am_cs_cons (calX6_isReadAt (by decide) (by decide)) (am_cs_cons (calX1_addReading (by decide) (by decide)) am_cs_nil)))) (am_cv_of (by decide +kernel))
theorem calX9_takeReadings {l : Launch} {dC : Nat → ClassId} {dI ad : Nat → Nat → Nat} {cy : Nat → ClassId} {R : Room} (h1 : rmX9_takeReadings.frames + 1 ≤ R.frames) (h2 : 8 + (4 + 11) + rmX9_takeReadings.locals ≤ R.locals) : am_Cal l dC dI ad cy R 0 0 cqX9_takeReadings fX9_takeReadings :=
  ⟨okX9_takeReadings, am_inU 413 (by decide +kernel) (by decide +kernel), Nat.le_refl _, Nat.le_refl _, h1, h2, ⟨by decide, by decide, by decide +kernel⟩, ⟨by decide, rfl⟩, Or.inl ⟨_, _, rfl⟩⟩
abbrev rmJ9_min_f86c9 : Room := { frames := 0, cells := 0, slots := 0, locals := 0 }
def cqJ9_min_f86c9 : am_C := (yJ9_min_f86c9, .code yJ9_min_f86c9 cJ9_min_f86c9 4 (some .long), rmJ9_min_f86c9, none, 2, 4)
theorem okJ9_min_f86c9 {l : Launch} {dC : Nat → ClassId} {dI ad : Nat → Nat → Nat} {cy : Nat → ClassId} : am_Ok l dC dI ad cy yJ9_min_f86c9 (.code yJ9_min_f86c9 cJ9_min_f86c9 4 (some .long)) rmJ9_min_f86c9 fJ9_min_f86c9 :=
  am_meth_ok (ci := []) (by decide +kernel) rfl ⟨rfl, rfl⟩ (am_rows_of (by decide +kernel) (am_words_of [] (by decide +kernel) (by decide +kernel))) am_cs_nil (am_cv_of (by decide +kernel))
theorem calJ9_min_f86c9 {l : Launch} {dC : Nat → ClassId} {dI ad : Nat → Nat → Nat} {cy : Nat → ClassId} {R : Room} (h1 : rmJ9_min_f86c9.frames + 1 ≤ R.frames) (h2 : 8 + (4 + 11) + rmJ9_min_f86c9.locals ≤ R.locals) : am_Cal l dC dI ad cy R 0 0 cqJ9_min_f86c9 fJ9_min_f86c9 :=
  ⟨okJ9_min_f86c9, am_inU 475 (by decide +kernel) (by decide +kernel), Nat.le_refl _, Nat.le_refl _, h1, h2, ⟨by decide, by decide, by decide +kernel⟩, trivial, Or.inl ⟨_, _, rfl⟩⟩
abbrev rmJ9_max_f86c9 : Room := { frames := 0, cells := 0, slots := 0, locals := 0 }
def cqJ9_max_f86c9 : am_C := (yJ9_max_f86c9, .code yJ9_max_f86c9 cJ9_max_f86c9 4 (some .long), rmJ9_max_f86c9, none, 2, 4)
theorem okJ9_max_f86c9 {l : Launch} {dC : Nat → ClassId} {dI ad : Nat → Nat → Nat} {cy : Nat → ClassId} : am_Ok l dC dI ad cy yJ9_max_f86c9 (.code yJ9_max_f86c9 cJ9_max_f86c9 4 (some .long)) rmJ9_max_f86c9 fJ9_max_f86c9 :=
  am_meth_ok (ci := []) (by decide +kernel) rfl ⟨rfl, rfl⟩ (am_rows_of (by decide +kernel) (am_words_of [] (by decide +kernel) (by decide +kernel))) am_cs_nil (am_cv_of (by decide +kernel))
theorem calJ9_max_f86c9 {l : Launch} {dC : Nat → ClassId} {dI ad : Nat → Nat → Nat} {cy : Nat → ClassId} {R : Room} (h1 : rmJ9_max_f86c9.frames + 1 ≤ R.frames) (h2 : 8 + (4 + 11) + rmJ9_max_f86c9.locals ≤ R.locals) : am_Cal l dC dI ad cy R 0 0 cqJ9_max_f86c9 fJ9_max_f86c9 :=
  ⟨okJ9_max_f86c9, am_inU 478 (by decide +kernel) (by decide +kernel), Nat.le_refl _, Nat.le_refl _, h1, h2, ⟨by decide, by decide, by decide +kernel⟩, trivial, Or.inl ⟨_, _, rfl⟩⟩
abbrev rmX9_limited : Room := { frames := 1, cells := 0, slots := 0, locals := 23 }
def cqX9_limited : am_C := (yX9_limited, .code yX9_limited cX9_limited 2 (some .int), rmX9_limited, none, 1, 2)
theorem okX9_limited {l : Launch} {dC : Nat → ClassId} {dI ad : Nat → Nat → Nat} {cy : Nat → ClassId} : am_Ok l dC dI ad cy yX9_limited (.code yX9_limited cX9_limited 2 (some .int)) rmX9_limited fX9_limited :=
  am_meth_ok (ci := [cqJ9_min_f86c9, cqJ9_max_f86c9]) (by decide +kernel) rfl ⟨rfl, rfl⟩ (am_rows_of (by decide +kernel) (am_words_of [471, 472, 474, 73, 473, 477, 73, 476] (by decide +kernel) (by decide +kernel))) (am_cs_cons (calJ9_min_f86c9 (by decide) (by decide)) (am_cs_cons (calJ9_max_f86c9 (by decide) (by decide)) am_cs_nil)) (am_cv_of (by decide +kernel))
theorem calX9_limited {l : Launch} {dC : Nat → ClassId} {dI ad : Nat → Nat → Nat} {cy : Nat → ClassId} {R : Room} (h1 : rmX9_limited.frames + 1 ≤ R.frames) (h2 : 8 + (2 + 11) + rmX9_limited.locals ≤ R.locals) : am_Cal l dC dI ad cy R 0 0 cqX9_limited fX9_limited :=
  ⟨okX9_limited, am_inU 470 (by decide +kernel) (by decide +kernel), Nat.le_refl _, Nat.le_refl _, h1, h2, ⟨by decide, by decide, by decide +kernel⟩, trivial, Or.inl ⟨_, _, rfl⟩⟩
abbrev rmX9_judge : Room := { frames := 4, cells := 0, slots := 0, locals := 101 }
def cqX9_judge : am_C := (yX9_judge, .code yX9_judge cX9_judge 12 none, rmX9_judge, some 9, 2, 12)
theorem okX9_judge {l : Launch} {dC : Nat → ClassId} {dI ad : Nat → Nat → Nat} {cy : Nat → ClassId} : am_Ok l dC dI ad cy yX9_judge (.code yX9_judge cX9_judge 12 none) rmX9_judge fX9_judge :=
  am_meth_ok (ci := [cqX6_formulaOf, cqX6_valueAt, cqX9_limited, cqX6_limitFlags, cqX4_runFlags, cqX1_sendToWash, cqX6_asksAgain, cqX6_dilutes, cqX4_waitAgain, cqX4_release, cqX3_append, cqX2_append]) (by decide +kernel) rfl ⟨rfl, rfl⟩ (am_rows_of (by decide +kernel) (am_words_of [315, 311, 273, 237, 225, 227, 445, 446, 447, 59, 283, 459, 460, 461, 59, 469, 56, 468, 479, 480, 481, 59, 483, 484, 485, 65, 402, 403, 404, 64, 281, 487, 488, 489, 59, 491, 492, 493, 59, 495, 395, 396, 65, 496, 497, 498, 65, 317, 500, 501, 502, 58, 168, 504, 505, 506, 61] (by decide +kernel) (by decide +kernel))) (am_cs_cons (calX6_formulaOf (by decide) (by decide)) (am_cs_cons (calX6_valueAt (by decide) (by decide)) (am_cs_cons (calX9_limited (by decide) (by decide)) (am_cs_cons (calX6_limitFlags (by decide) (by decide)) (am_cs_cons (calX4_runFlags (by decide) (by decide)) (am_cs_cons (calX1_sendToWash (by decide) (by decide)) (am_cs_cons (calX6_asksAgain (by decide) (by decide)) (am_cs_cons (calX6_dilutes (by decide) (by decide)) (am_cs_cons (calX4_waitAgain (by decide) (by decide)) (am_cs_cons (calX4_release (by decide) (by decide)) (am_cs_cons (calX3_append (by decide) (by decide)) (am_cs_cons (calX2_append (by decide) (by decide)) am_cs_nil)))))))))))) (am_cv_of (by decide +kernel))
theorem calX9_judge {l : Launch} {dC : Nat → ClassId} {dI ad : Nat → Nat → Nat} {cy : Nat → ClassId} {R : Room} (h1 : rmX9_judge.frames + 1 ≤ R.frames) (h2 : 8 + (12 + 11) + rmX9_judge.locals ≤ R.locals) : am_Cal l dC dI ad cy R 0 0 cqX9_judge fX9_judge :=
  ⟨okX9_judge, am_inU 444 (by decide +kernel) (by decide +kernel), Nat.le_refl _, Nat.le_refl _, h1, h2, ⟨by decide, by decide, by decide +kernel⟩, ⟨by decide, rfl⟩, Or.inl ⟨_, _, rfl⟩⟩
abbrev rmX9_judgeEndedRuns : Room := { frames := 5, cells := 0, slots := 0, locals := 132 }
def cqX9_judgeEndedRuns : am_C := (yX9_judgeEndedRuns, .code yX9_judgeEndedRuns cX9_judgeEndedRuns 3 none, rmX9_judgeEndedRuns, some 9, 0, 3)
theorem okX9_judgeEndedRuns {l : Launch} {dC : Nat → ClassId} {dI ad : Nat → Nat → Nat} {cy : Nat → ClassId} : am_Ok l dC dI ad cy yX9_judgeEndedRuns (.code yX9_judgeEndedRuns cX9_judgeEndedRuns 3 none) rmX9_judgeEndedRuns fX9_judgeEndedRuns :=
  am_meth_ok (ci := [cqX9_cuvetteOf, cqX6_isOverAt, cqX9_judge]) (by decide +kernel) rfl ⟨rfl, rfl⟩ (am_rows_of (by decide +kernel) (am_words_of [318, 315, 420, 422, 6, 56, 311, 315, 273, 239, 437, 438, 439, 59, 441, 443, 8, 56] (by decide +kernel) (by decide +kernel))) (am_cs_cons (calX9_cuvetteOf (by decide) (by decide)) (am_cs_cons (calX6_isOverAt (by decide) (by decide)) (am_cs_cons (calX9_judge (by decide) (by decide)) am_cs_nil))) (am_cv_of (by decide +kernel))
theorem calX9_judgeEndedRuns {l : Launch} {dC : Nat → ClassId} {dI ad : Nat → Nat → Nat} {cy : Nat → ClassId} {R : Room} (h1 : rmX9_judgeEndedRuns.frames + 1 ≤ R.frames) (h2 : 8 + (3 + 11) + rmX9_judgeEndedRuns.locals ≤ R.locals) : am_Cal l dC dI ad cy R 0 0 cqX9_judgeEndedRuns fX9_judgeEndedRuns :=
  ⟨okX9_judgeEndedRuns, am_inU 436 (by decide +kernel) (by decide +kernel), Nat.le_refl _, Nat.le_refl _, h1, h2, ⟨by decide, by decide, by decide +kernel⟩, ⟨by decide, rfl⟩, Or.inl ⟨_, _, rfl⟩⟩
abbrev rmX9_positionFor : Room := { frames := 1, cells := 0, slots := 0, locals := 23 }
def cqX9_positionFor : am_C := (yX9_positionFor, .code yX9_positionFor cX9_positionFor 8 (some .int), rmX9_positionFor, some 9, 3, 8)
theorem okX9_positionFor {l : Launch} {dC : Nat → ClassId} {dI ad : Nat → Nat → Nat} {cy : Nat → ClassId} : am_Ok l dC dI ad cy yX9_positionFor (.code yX9_positionFor cX9_positionFor 8 (some .int)) rmX9_positionFor fX9_positionFor :=
  am_meth_ok (ci := [cqX6_kindOf, cqX6_doseOf, cqX5_canGive]) (by decide +kernel) rfl ⟨rfl, rfl⟩ (am_rows_of (by decide +kernel) (am_words_of [529, 530, 531, 59, 533, 534, 535, 59, 533, 534, 535, 59, 313, 319, 537, 538, 539, 63, 313, 209, 313, 209] (by decide +kernel) (by decide +kernel))) (am_cs_cons (calX6_kindOf (by decide) (by decide)) (am_cs_cons (calX6_doseOf (by decide) (by decide)) (am_cs_cons (calX5_canGive (by decide) (by decide)) am_cs_nil))) (am_cv_of (by decide +kernel))
theorem calX9_positionFor {l : Launch} {dC : Nat → ClassId} {dI ad : Nat → Nat → Nat} {cy : Nat → ClassId} {R : Room} (h1 : rmX9_positionFor.frames + 1 ≤ R.frames) (h2 : 8 + (8 + 11) + rmX9_positionFor.locals ≤ R.locals) : am_Cal l dC dI ad cy R 0 0 cqX9_positionFor fX9_positionFor :=
  ⟨okX9_positionFor, am_inU 528 (by decide +kernel) (by decide +kernel), Nat.le_refl _, Nat.le_refl _, h1, h2, ⟨by decide, by decide, by decide +kernel⟩, ⟨by decide, rfl⟩, Or.inl ⟨_, _, rfl⟩⟩
abbrev rmX9_cleanCuvette : Room := { frames := 1, cells := 0, slots := 0, locals := 20 }
def cqX9_cleanCuvette : am_C := (yX9_cleanCuvette, .code yX9_cleanCuvette cX9_cleanCuvette 2 (some .int), rmX9_cleanCuvette, some 9, 0, 2)
theorem okX9_cleanCuvette {l : Launch} {dC : Nat → ClassId} {dI ad : Nat → Nat → Nat} {cy : Nat → ClassId} : am_Ok l dC dI ad cy yX9_cleanCuvette (.code yX9_cleanCuvette cX9_cleanCuvette 2 (some .int)) rmX9_cleanCuvette fX9_cleanCuvette :=
  am_meth_ok (ci := [cqX1_isClean]) (by decide +kernel) rfl ⟨rfl, rfl⟩ (am_rows_of (by decide +kernel) (am_words_of [314, 550, 551, 552, 64] (by decide +kernel) (by decide +kernel))) (am_cs_cons (calX1_isClean (by decide) (by decide)) am_cs_nil) (am_cv_of (by decide +kernel))
theorem calX9_cleanCuvette {l : Launch} {dC : Nat → ClassId} {dI ad : Nat → Nat → Nat} {cy : Nat → ClassId} {R : Room} (h1 : rmX9_cleanCuvette.frames + 1 ≤ R.frames) (h2 : 8 + (2 + 11) + rmX9_cleanCuvette.locals ≤ R.locals) : am_Cal l dC dI ad cy R 0 0 cqX9_cleanCuvette fX9_cleanCuvette :=
  ⟨okX9_cleanCuvette, am_inU 549 (by decide +kernel) (by decide +kernel), Nat.le_refl _, Nat.le_refl _, h1, h2, ⟨by decide, by decide, by decide +kernel⟩, ⟨by decide, rfl⟩, Or.inl ⟨_, _, rfl⟩⟩
abbrev rmX9_reserve : Room := { frames := 0, cells := 0, slots := 0, locals := 0 }
def cqX9_reserve : am_C := (yX9_reserve, .code yX9_reserve cX9_reserve 5 none, rmX9_reserve, some 9, 4, 5)
theorem okX9_reserve {l : Launch} {dC : Nat → ClassId} {dI ad : Nat → Nat → Nat} {cy : Nat → ClassId} : am_Ok l dC dI ad cy yX9_reserve (.code yX9_reserve cX9_reserve 5 none) rmX9_reserve fX9_reserve :=
  am_meth_ok (ci := []) (by decide +kernel) rfl ⟨rfl, rfl⟩ (am_rows_of (by decide +kernel) (am_words_of [229, 231, 313, 207, 207] (by decide +kernel) (by decide +kernel))) am_cs_nil (am_cv_of (by decide +kernel))
theorem calX9_reserve {l : Launch} {dC : Nat → ClassId} {dI ad : Nat → Nat → Nat} {cy : Nat → ClassId} {R : Room} (h1 : rmX9_reserve.frames + 1 ≤ R.frames) (h2 : 8 + (5 + 11) + rmX9_reserve.locals ≤ R.locals) : am_Cal l dC dI ad cy R 0 0 cqX9_reserve fX9_reserve :=
  ⟨okX9_reserve, am_inU 580 (by decide +kernel) (by decide +kernel), Nat.le_refl _, Nat.le_refl _, h1, h2, ⟨by decide, by decide, by decide +kernel⟩, ⟨by decide, rfl⟩, Or.inl ⟨_, _, rfl⟩⟩
abbrev rmX9_takeSample : Room := { frames := 3, cells := 0, slots := 0, locals := 67 }
def cqX9_takeSample : am_C := (yX9_takeSample, .code yX9_takeSample cX9_takeSample 4 none, rmX9_takeSample, some 9, 3, 4)
theorem okX9_takeSample {l : Launch} {dC : Nat → ClassId} {dI ad : Nat → Nat → Nat} {cy : Nat → ClassId} : am_Ok l dC dI ad cy yX9_takeSample (.code yX9_takeSample cX9_takeSample 4 none) rmX9_takeSample fX9_takeSample :=
  am_meth_ok (ci := [cqX9_breakOff]) (by decide +kernel) rfl ⟨rfl, rfl⟩ (am_rows_of (by decide +kernel) (am_words_of [321, 321, 382, 384, 3, 56, 190, 190, 314, 243] (by decide +kernel) (by decide +kernel))) (am_cs_cons (calX9_breakOff (by decide) (by decide)) am_cs_nil) (am_cv_of (by decide +kernel))
theorem calX9_takeSample {l : Launch} {dC : Nat → ClassId} {dI ad : Nat → Nat → Nat} {cy : Nat → ClassId} {R : Room} (h1 : rmX9_takeSample.frames + 1 ≤ R.frames) (h2 : 8 + (4 + 11) + rmX9_takeSample.locals ≤ R.locals) : am_Cal l dC dI ad cy R 0 0 cqX9_takeSample fX9_takeSample :=
  ⟨okX9_takeSample, am_inU 588 (by decide +kernel) (by decide +kernel), Nat.le_refl _, Nat.le_refl _, h1, h2, ⟨by decide, by decide, by decide +kernel⟩, ⟨by decide, rfl⟩, Or.inl ⟨_, _, rfl⟩⟩
abbrev rmX9_tryStart : Room := { frames := 4, cells := 0, slots := 0, locals := 90 }
def cqX9_tryStart : am_C := (yX9_tryStart, .code yX9_tryStart cX9_tryStart 8 (some .boolean), rmX9_tryStart, some 9, 1, 8)
theorem okX9_tryStart {l : Launch} {dC : Nat → ClassId} {dI ad : Nat → Nat → Nat} {cy : Nat → ClassId} : am_Ok l dC dI ad cy yX9_tryStart (.code yX9_tryStart cX9_tryStart 8 (some .boolean)) rmX9_tryStart fX9_tryStart :=
  am_meth_ok (ci := [cqX9_slotOf, cqX6_sampleVolume, cqX4_fail, cqX9_positionFor, cqX6_lacks, cqX9_cleanCuvette, cqX7_book, cqX1_start, cqX6_doseOf, cqX9_reserve, cqX4_startRun, cqX9_takeSample]) (by decide +kernel) rfl ⟨rfl, rfl⟩ (am_rows_of (by decide +kernel) (am_words_of [315, 311, 273, 271, 516, 518, 11, 56, 312, 190, 283, 520, 521, 522, 59, 524, 399, 400, 65, 525, 527, 12, 56, 525, 527, 12, 56, 541, 542, 543, 59, 541, 542, 543, 59, 524, 399, 400, 65, 546, 548, 13, 56, 316, 554, 555, 556, 57, 314, 312, 188, 573, 574, 575, 64, 314, 533, 534, 535, 59, 577, 579, 16, 56, 314, 533, 534, 535, 59, 577, 579, 16, 56, 581, 582, 583, 65, 312, 283, 520, 521, 522, 59, 585, 587, 17, 56] (by decide +kernel) (by decide +kernel))) (am_cs_cons (calX9_slotOf (by decide) (by decide)) (am_cs_cons (calX6_sampleVolume (by decide) (by decide)) (am_cs_cons (calX4_fail (by decide) (by decide)) (am_cs_cons (calX9_positionFor (by decide) (by decide)) (am_cs_cons (calX6_lacks (by decide) (by decide)) (am_cs_cons (calX9_cleanCuvette (by decide) (by decide)) (am_cs_cons (calX7_book (by decide) (by decide)) (am_cs_cons (calX1_start (by decide) (by decide)) (am_cs_cons (calX6_doseOf (by decide) (by decide)) (am_cs_cons (calX9_reserve (by decide) (by decide)) (am_cs_cons (calX4_startRun (by decide) (by decide)) (am_cs_cons (calX9_takeSample (by decide) (by decide)) am_cs_nil)))))))))))) (am_cv_of (by decide +kernel))
theorem calX9_tryStart {l : Launch} {dC : Nat → ClassId} {dI ad : Nat → Nat → Nat} {cy : Nat → ClassId} {R : Room} (h1 : rmX9_tryStart.frames + 1 ≤ R.frames) (h2 : 8 + (8 + 11) + rmX9_tryStart.locals ≤ R.locals) : am_Cal l dC dI ad cy R 0 0 cqX9_tryStart fX9_tryStart :=
  ⟨okX9_tryStart, am_inU 515 (by decide +kernel) (by decide +kernel), Nat.le_refl _, Nat.le_refl _, h1, h2, ⟨by decide, by decide, by decide +kernel⟩, ⟨by decide, rfl⟩, Or.inl ⟨_, _, rfl⟩⟩
abbrev rmX9_startFirst : Room := { frames := 5, cells := 0, slots := 0, locals := 117 }
def cqX9_startFirst : am_C := (yX9_startFirst, .code yX9_startFirst cX9_startFirst 3 (some .int), rmX9_startFirst, some 9, 1, 3)
theorem okX9_startFirst {l : Launch} {dC : Nat → ClassId} {dI ad : Nat → Nat → Nat} {cy : Nat → ClassId} : am_Ok l dC dI ad cy yX9_startFirst (.code yX9_startFirst cX9_startFirst 3 (some .int)) rmX9_startFirst fX9_startFirst :=
  am_meth_ok (ci := [cqX9_tryStart]) (by decide +kernel) rfl ⟨rfl, rfl⟩ (am_rows_of (by decide +kernel) (am_words_of [318, 315, 277, 315, 275, 512, 514, 10, 56] (by decide +kernel) (by decide +kernel))) (am_cs_cons (calX9_tryStart (by decide) (by decide)) am_cs_nil) (am_cv_of (by decide +kernel))
theorem calX9_startFirst {l : Launch} {dC : Nat → ClassId} {dI ad : Nat → Nat → Nat} {cy : Nat → ClassId} {R : Room} (h1 : rmX9_startFirst.frames + 1 ≤ R.frames) (h2 : 8 + (3 + 11) + rmX9_startFirst.locals ≤ R.locals) : am_Cal l dC dI ad cy R 0 0 cqX9_startFirst fX9_startFirst :=
  ⟨okX9_startFirst, am_inU 511 (by decide +kernel) (by decide +kernel), Nat.le_refl _, Nat.le_refl _, h1, h2, ⟨by decide, by decide, by decide +kernel⟩, ⟨by decide, rfl⟩, Or.inl ⟨_, _, rfl⟩⟩
abbrev rmX9_step : Room := { frames := 6, cells := 0, slots := 0, locals := 154 }
def cqX9_step : am_C := (yX9_step, .code yX9_step cX9_step 2 (some .int), rmX9_step, some 9, 0, 2)
theorem okX9_step {l : Launch} {dC : Nat → ClassId} {dI ad : Nat → Nat → Nat} {cy : Nat → ClassId} : am_Ok l dC dI ad cy yX9_step (.code yX9_step cX9_step 2 (some .int)) rmX9_step fX9_step :=
  am_meth_ok (ci := [cqX9_turnDisc, cqX9_giveReagent, cqX9_takeReadings, cqX9_judgeEndedRuns, cqX9_startFirst]) (by decide +kernel) rfl ⟨rfl, rfl⟩ (am_rows_of (by decide +kernel) (am_words_of [355, 357, 0, 56, 371, 373, 2, 56, 410, 412, 5, 56, 433, 435, 7, 56, 508, 510, 9, 56, 508, 510, 9, 56, 323, 323] (by decide +kernel) (by decide +kernel))) (am_cs_cons (calX9_turnDisc (by decide) (by decide)) (am_cs_cons (calX9_giveReagent (by decide) (by decide)) (am_cs_cons (calX9_takeReadings (by decide) (by decide)) (am_cs_cons (calX9_judgeEndedRuns (by decide) (by decide)) (am_cs_cons (calX9_startFirst (by decide) (by decide)) am_cs_nil))))) (am_cv_of (by decide +kernel))
theorem calX9_step {l : Launch} {dC : Nat → ClassId} {dI ad : Nat → Nat → Nat} {cy : Nat → ClassId} {R : Room} (h1 : rmX9_step.frames + 1 ≤ R.frames) (h2 : 8 + (2 + 11) + rmX9_step.locals ≤ R.locals) : am_Cal l dC dI ad cy R 0 0 cqX9_step fX9_step :=
  ⟨okX9_step, am_inU 354 (by decide +kernel) (by decide +kernel), Nat.le_refl _, Nat.le_refl _, h1, h2, ⟨by decide, by decide, by decide +kernel⟩, ⟨by decide, rfl⟩, Or.inl ⟨_, _, rfl⟩⟩
abbrev rmX9_idle : Room := { frames := 0, cells := 0, slots := 0, locals := 0 }
def cqX9_idle : am_C := (yX9_idle, .code yX9_idle cX9_idle 1 (some .int), rmX9_idle, some 9, 0, 1)
theorem okX9_idle {l : Launch} {dC : Nat → ClassId} {dI ad : Nat → Nat → Nat} {cy : Nat → ClassId} : am_Ok l dC dI ad cy yX9_idle (.code yX9_idle cX9_idle 1 (some .int)) rmX9_idle fX9_idle :=
  am_meth_ok (ci := []) (by decide +kernel) rfl ⟨rfl, rfl⟩ (am_rows_of (by decide +kernel) (am_words_of [323] (by decide +kernel) (by decide +kernel))) am_cs_nil (am_cv_of (by decide +kernel))
theorem calX9_idle {l : Launch} {dC : Nat → ClassId} {dI ad : Nat → Nat → Nat} {cy : Nat → ClassId} {R : Room} (h1 : rmX9_idle.frames + 1 ≤ R.frames) (h2 : 8 + (1 + 11) + rmX9_idle.locals ≤ R.locals) : am_Cal l dC dI ad cy R 0 0 cqX9_idle fX9_idle :=
  ⟨okX9_idle, am_inU 592 (by decide +kernel) (by decide +kernel), Nat.le_refl _, Nat.le_refl _, h1, h2, ⟨by decide, by decide, by decide +kernel⟩, ⟨by decide, rfl⟩, Or.inl ⟨_, _, rfl⟩⟩
abbrev rmX9_state : Room := { frames := 7, cells := 0, slots := 0, locals := 140 }
def cqX9_state : am_C := (yX9_state, .code yX9_state cX9_state 5 (some .int), rmX9_state, some 9, 2, 5)
theorem okX9_state {l : Launch} {dC : Nat → ClassId} {dI ad : Nat → Nat → Nat} {cy : Nat → ClassId} : am_Ok l dC dI ad cy yX9_state (.code yX9_state cX9_state 5 (some .int)) rmX9_state fX9_state :=
  am_meth_ok (ci := [cqX9_isWithin, cqX9_demandArgument, cqX9_cuvetteOf]) (by decide +kernel) rfl ⟨rfl, rfl⟩ (am_rows_of (by decide +kernel) (am_words_of [318, 380, 56, 379, 380, 56, 379, 610, 56, 609, 315, 420, 422, 6, 56, 277, 279, 281, 285, 239, 287, 289] (by decide +kernel) (by decide +kernel))) (am_cs_cons (calX9_isWithin (by decide) (by decide)) (am_cs_cons (calX9_demandArgument (by decide) (by decide)) (am_cs_cons (calX9_cuvetteOf (by decide) (by decide)) am_cs_nil))) (am_cv_of (by decide +kernel))
theorem calX9_state {l : Launch} {dC : Nat → ClassId} {dI ad : Nat → Nat → Nat} {cy : Nat → ClassId} {R : Room} (h1 : rmX9_state.frames + 1 ≤ R.frames) (h2 : 8 + (5 + 11) + rmX9_state.locals ≤ R.locals) : am_Cal l dC dI ad cy R 0 0 cqX9_state fX9_state :=
  ⟨okX9_state, am_inU 868 (by decide +kernel) (by decide +kernel), Nat.le_refl _, Nat.le_refl _, h1, h2, ⟨by decide, by decide, by decide +kernel⟩, ⟨by decide, rfl⟩, Or.inl ⟨_, _, rfl⟩⟩
abbrev rmX9_cuvette : Room := { frames := 7, cells := 0, slots := 0, locals := 140 }
def cqX9_cuvette : am_C := (yX9_cuvette, .code yX9_cuvette cX9_cuvette 4 (some .int), rmX9_cuvette, some 9, 2, 4)
theorem okX9_cuvette {l : Launch} {dC : Nat → ClassId} {dI ad : Nat → Nat → Nat} {cy : Nat → ClassId} : am_Ok l dC dI ad cy yX9_cuvette (.code yX9_cuvette cX9_cuvette 4 (some .int)) rmX9_cuvette fX9_cuvette :=
  am_meth_ok (ci := [cqX9_isWithin, cqX9_demandArgument]) (by decide +kernel) rfl ⟨rfl, rfl⟩ (am_rows_of (by decide +kernel) (am_words_of [380, 56, 379, 380, 56, 379, 610, 56, 609, 314, 235, 241, 243] (by decide +kernel) (by decide +kernel))) (am_cs_cons (calX9_isWithin (by decide) (by decide)) (am_cs_cons (calX9_demandArgument (by decide) (by decide)) am_cs_nil)) (am_cv_of (by decide +kernel))
theorem calX9_cuvette {l : Launch} {dC : Nat → ClassId} {dI ad : Nat → Nat → Nat} {cy : Nat → ClassId} {R : Room} (h1 : rmX9_cuvette.frames + 1 ≤ R.frames) (h2 : 8 + (4 + 11) + rmX9_cuvette.locals ≤ R.locals) : am_Cal l dC dI ad cy R 0 0 cqX9_cuvette fX9_cuvette :=
  ⟨okX9_cuvette, am_inU 875 (by decide +kernel) (by decide +kernel), Nat.le_refl _, Nat.le_refl _, h1, h2, ⟨by decide, by decide, by decide +kernel⟩, ⟨by decide, rfl⟩, Or.inl ⟨_, _, rfl⟩⟩
abbrev rmX9_volume : Room := { frames := 7, cells := 0, slots := 0, locals := 140 }
def cqX9_volume : am_C := (yX9_volume, .code yX9_volume cX9_volume 3 (some .int), rmX9_volume, some 9, 2, 3)
theorem okX9_volume {l : Launch} {dC : Nat → ClassId} {dI ad : Nat → Nat → Nat} {cy : Nat → ClassId} : am_Ok l dC dI ad cy yX9_volume (.code yX9_volume cX9_volume 3 (some .int)) rmX9_volume fX9_volume :=
  am_meth_ok (ci := [cqX9_isWithin, cqX9_demandArgument, cqX8_isEmpty, cqX9_demandElement, cqX5_isEmpty]) (by decide +kernel) rfl ⟨rfl, rfl⟩ (am_rows_of (by decide +kernel) (am_words_of [380, 56, 379, 380, 56, 379, 610, 56, 609, 312, 770, 771, 772, 62, 787, 56, 786, 312, 190, 313, 883, 884, 885, 63, 787, 56, 786, 313, 205, 313, 207] (by decide +kernel) (by decide +kernel))) (am_cs_cons (calX9_isWithin (by decide) (by decide)) (am_cs_cons (calX9_demandArgument (by decide) (by decide)) (am_cs_cons (calX8_isEmpty (by decide) (by decide)) (am_cs_cons (calX9_demandElement (by decide) (by decide)) (am_cs_cons (calX5_isEmpty (by decide) (by decide)) am_cs_nil))))) (am_cv_of (by decide +kernel))
theorem calX9_volume {l : Launch} {dC : Nat → ClassId} {dI ad : Nat → Nat → Nat} {cy : Nat → ClassId} {R : Room} (h1 : rmX9_volume.frames + 1 ≤ R.frames) (h2 : 8 + (3 + 11) + rmX9_volume.locals ≤ R.locals) : am_Cal l dC dI ad cy R 0 0 cqX9_volume fX9_volume :=
  ⟨okX9_volume, am_inU 882 (by decide +kernel) (by decide +kernel), Nat.le_refl _, Nat.le_refl _, h1, h2, ⟨by decide, by decide, by decide +kernel⟩, ⟨by decide, rfl⟩, Or.inl ⟨_, _, rfl⟩⟩
abbrev rmX9_demandIndex : Room := { frames := 6, cells := 0, slots := 0, locals := 120 }
def cqX9_demandIndex : am_C := (yX9_demandIndex, .code yX9_demandIndex cX9_demandIndex 1 none, rmX9_demandIndex, none, 1, 1)
theorem okX9_demandIndex {l : Launch} {dC : Nat → ClassId} {dI ad : Nat → Nat → Nat} {cy : Nat → ClassId} : am_Ok l dC dI ad cy yX9_demandIndex (.code yX9_demandIndex cX9_demandIndex 1 none) rmX9_demandIndex fX9_demandIndex := by
  intro av M M2 r hav hF
  refine am_meth_ok (cs := []) (ci := []) (rt := 0) (nL := 1) (N := 3) (P := am_pD) (by decide +kernel) rfl ⟨rfl, rfl⟩ (am_rows_of (by decide +kernel) (am_words_of [] (by decide +kernel) (by decide +kernel))) am_cs_nil (am_cv_of (by decide +kernel)) av M M2 r hav ?_
  unfold fX9_demandIndex at hF
  split at hF
  · rename_i x
    split at hF
    · cases hF
    · rename_i hx
      cases hF
      show (if x = 0 then _ else _) = _
      rw [if_neg hx]
      rfl
  · cases hF
theorem calX9_demandIndex {l : Launch} {dC : Nat → ClassId} {dI ad : Nat → Nat → Nat} {cy : Nat → ClassId} {R : Room} (h1 : rmX9_demandIndex.frames + 1 ≤ R.frames) (h2 : 8 + (1 + 11) + rmX9_demandIndex.locals ≤ R.locals) : am_Cal l dC dI ad cy R 0 0 cqX9_demandIndex fX9_demandIndex :=
  ⟨okX9_demandIndex, am_inU 897 (by decide +kernel) (by decide +kernel), Nat.le_refl _, Nat.le_refl _, h1, h2, ⟨by decide, by decide, by decide +kernel⟩, trivial, Or.inl ⟨_, _, rfl⟩⟩
abbrev rmX9_trend : Room := { frames := 7, cells := 0, slots := 0, locals := 140 }
def cqX9_trend : am_C := (yX9_trend, .code yX9_trend cX9_trend 4 (some .int), rmX9_trend, some 9, 2, 4)
theorem okX9_trend {l : Launch} {dC : Nat → ClassId} {dI ad : Nat → Nat → Nat} {cy : Nat → ClassId} : am_Ok l dC dI ad cy yX9_trend (.code yX9_trend cX9_trend 4 (some .int)) rmX9_trend fX9_trend :=
  am_meth_ok (ci := [cqX9_isWithin, cqX9_demandArgument, cqX9_demandIndex, cqX2_fromLatest]) (by decide +kernel) rfl ⟨rfl, rfl⟩ (am_rows_of (by decide +kernel) (am_words_of [380, 56, 379, 610, 56, 609, 311, 168, 157, 380, 56, 379, 896, 56, 895, 913, 914, 915, 61] (by decide +kernel) (by decide +kernel))) (am_cs_cons (calX9_isWithin (by decide) (by decide)) (am_cs_cons (calX9_demandArgument (by decide) (by decide)) (am_cs_cons (calX9_demandIndex (by decide) (by decide)) (am_cs_cons (calX2_fromLatest (by decide) (by decide)) am_cs_nil)))) (am_cv_of (by decide +kernel))
theorem calX9_trend {l : Launch} {dC : Nat → ClassId} {dI ad : Nat → Nat → Nat} {cy : Nat → ClassId} {R : Room} (h1 : rmX9_trend.frames + 1 ≤ R.frames) (h2 : 8 + (4 + 11) + rmX9_trend.locals ≤ R.locals) : am_Cal l dC dI ad cy R 0 0 cqX9_trend fX9_trend :=
  ⟨okX9_trend, am_inU 894 (by decide +kernel) (by decide +kernel), Nat.le_refl _, Nat.le_refl _, h1, h2, ⟨by decide, by decide, by decide +kernel⟩, ⟨by decide, rfl⟩, Or.inl ⟨_, _, rfl⟩⟩
abbrev rmX9_rules : Room := { frames := 7, cells := 0, slots := 0, locals := 140 }
def cqX9_rules : am_C := (yX9_rules, .code yX9_rules cX9_rules 2 (some .int), rmX9_rules, some 9, 1, 2)
theorem okX9_rules {l : Launch} {dC : Nat → ClassId} {dI ad : Nat → Nat → Nat} {cy : Nat → ClassId} : am_Ok l dC dI ad cy yX9_rules (.code yX9_rules cX9_rules 2 (some .int)) rmX9_rules fX9_rules :=
  am_meth_ok (ci := [cqX9_isWithin, cqX9_demandArgument, cqX6_brokenRules]) (by decide +kernel) rfl ⟨rfl, rfl⟩ (am_rows_of (by decide +kernel) (am_words_of [380, 56, 379, 610, 56, 609, 311, 925, 926, 927, 59] (by decide +kernel) (by decide +kernel))) (am_cs_cons (calX9_isWithin (by decide) (by decide)) (am_cs_cons (calX9_demandArgument (by decide) (by decide)) (am_cs_cons (calX6_brokenRules (by decide) (by decide)) am_cs_nil))) (am_cv_of (by decide +kernel))
theorem calX9_rules {l : Launch} {dC : Nat → ClassId} {dI ad : Nat → Nat → Nat} {cy : Nat → ClassId} {R : Room} (h1 : rmX9_rules.frames + 1 ≤ R.frames) (h2 : 8 + (2 + 11) + rmX9_rules.locals ≤ R.locals) : am_Cal l dC dI ad cy R 0 0 cqX9_rules fX9_rules :=
  ⟨okX9_rules, am_inU 924 (by decide +kernel) (by decide +kernel), Nat.le_refl _, Nat.le_refl _, h1, h2, ⟨by decide, by decide, by decide +kernel⟩, ⟨by decide, rfl⟩, Or.inl ⟨_, _, rfl⟩⟩
abbrev rmX9_host : Room := { frames := 7, cells := 0, slots := 0, locals := 140 }
def cqX9_host : am_C := (yX9_host, .code yX9_host cX9_host 2 (some .int), rmX9_host, some 9, 1, 2)
theorem okX9_host {l : Launch} {dC : Nat → ClassId} {dI ad : Nat → Nat → Nat} {cy : Nat → ClassId} : am_Ok l dC dI ad cy yX9_host (.code yX9_host cX9_host 2 (some .int)) rmX9_host fX9_host :=
  am_meth_ok (ci := [cqX9_isWithin, cqX9_demandIndex]) (by decide +kernel) rfl ⟨rfl, rfl⟩ (am_rows_of (by decide +kernel) (am_words_of [317, 120, 380, 56, 379, 896, 56, 895, 317, 118] (by decide +kernel) (by decide +kernel))) (am_cs_cons (calX9_isWithin (by decide) (by decide)) (am_cs_cons (calX9_demandIndex (by decide) (by decide)) am_cs_nil)) (am_cv_of (by decide +kernel))
theorem calX9_host {l : Launch} {dC : Nat → ClassId} {dI ad : Nat → Nat → Nat} {cy : Nat → ClassId} {R : Room} (h1 : rmX9_host.frames + 1 ≤ R.frames) (h2 : 8 + (2 + 11) + rmX9_host.locals ≤ R.locals) : am_Cal l dC dI ad cy R 0 0 cqX9_host fX9_host :=
  ⟨okX9_host, am_inU 946 (by decide +kernel) (by decide +kernel), Nat.le_refl _, Nat.le_refl _, h1, h2, ⟨by decide, by decide, by decide +kernel⟩, ⟨by decide, rfl⟩, Or.inl ⟨_, _, rfl⟩⟩
abbrev rmX9_took : Room := { frames := 7, cells := 0, slots := 0, locals := 140 }
def cqX9_took : am_C := (yX9_took, .code yX9_took cX9_took 2 (some .int), rmX9_took, some 9, 1, 2)
theorem okX9_took {l : Launch} {dC : Nat → ClassId} {dI ad : Nat → Nat → Nat} {cy : Nat → ClassId} : am_Ok l dC dI ad cy yX9_took (.code yX9_took cX9_took 2 (some .int)) rmX9_took fX9_took :=
  am_meth_ok (ci := [cqX9_isWithin, cqX9_demandArgument, cqX3_dropFirst]) (by decide +kernel) rfl ⟨rfl, rfl⟩ (am_rows_of (by decide +kernel) (am_words_of [317, 120, 380, 56, 379, 610, 56, 609, 317, 954, 955, 956, 58, 317, 120] (by decide +kernel) (by decide +kernel))) (am_cs_cons (calX9_isWithin (by decide) (by decide)) (am_cs_cons (calX9_demandArgument (by decide) (by decide)) (am_cs_cons (calX3_dropFirst (by decide) (by decide)) am_cs_nil))) (am_cv_of (by decide +kernel))
theorem calX9_took {l : Launch} {dC : Nat → ClassId} {dI ad : Nat → Nat → Nat} {cy : Nat → ClassId} {R : Room} (h1 : rmX9_took.frames + 1 ≤ R.frames) (h2 : 8 + (2 + 11) + rmX9_took.locals ≤ R.locals) : am_Cal l dC dI ad cy R 0 0 cqX9_took fX9_took :=
  ⟨okX9_took, am_inU 953 (by decide +kernel) (by decide +kernel), Nat.le_refl _, Nat.le_refl _, h1, h2, ⟨by decide, by decide, by decide +kernel⟩, ⟨by decide, rfl⟩, Or.inl ⟨_, _, rfl⟩⟩
abbrev rmX10_thrown : Room := { frames := 0, cells := 0, slots := 0, locals := 0 }
def cqX10_thrown : am_C := (yX10_thrown, .code yX10_thrown cX10_thrown 1 (some .int), rmX10_thrown, some 10, 0, 1)
theorem okX10_thrown {l : Launch} {dC : Nat → ClassId} {dI ad : Nat → Nat → Nat} {cy : Nat → ClassId} : am_Ok l dC dI ad cy yX10_thrown (.code yX10_thrown cX10_thrown 1 (some .int)) rmX10_thrown fX10_thrown :=
  am_meth_ok (ci := []) (by decide +kernel) rfl ⟨rfl, rfl⟩ (am_rows_of (by decide +kernel) (am_words_of [1010] (by decide +kernel) (by decide +kernel))) am_cs_nil (am_cv_of (by decide +kernel))
theorem calX10_thrown {l : Launch} {dC : Nat → ClassId} {dI ad : Nat → Nat → Nat} {cy : Nat → ClassId} {R : Room} (h1 : rmX10_thrown.frames + 1 ≤ R.frames) (h2 : 8 + (1 + 11) + rmX10_thrown.locals ≤ R.locals) : am_Cal l dC dI ad cy R 0 0 cqX10_thrown fX10_thrown :=
  ⟨okX10_thrown, am_inU 1113 (by decide +kernel) (by decide +kernel), Nat.le_refl _, Nat.le_refl _, h1, h2, ⟨by decide, by decide, by decide +kernel⟩, ⟨by decide, rfl⟩, Or.inl ⟨_, _, rfl⟩⟩
abbrev rmX10_within : Room := { frames := 0, cells := 0, slots := 0, locals := 0 }
def cqX10_within : am_C := (yX10_within, .code yX10_within cX10_within 3 (some .boolean), rmX10_within, none, 3, 3)
theorem okX10_within {l : Launch} {dC : Nat → ClassId} {dI ad : Nat → Nat → Nat} {cy : Nat → ClassId} : am_Ok l dC dI ad cy yX10_within (.code yX10_within cX10_within 3 (some .boolean)) rmX10_within fX10_within :=
  am_meth_ok (ci := []) (by decide +kernel) rfl ⟨rfl, rfl⟩ (am_rows_of (by decide +kernel) (am_words_of [] (by decide +kernel) (by decide +kernel))) am_cs_nil (am_cv_of (by decide +kernel))
theorem calX10_within {l : Launch} {dC : Nat → ClassId} {dI ad : Nat → Nat → Nat} {cy : Nat → ClassId} {R : Room} (h1 : rmX10_within.frames + 1 ≤ R.frames) (h2 : 8 + (3 + 11) + rmX10_within.locals ≤ R.locals) : am_Cal l dC dI ad cy R 0 0 cqX10_within fX10_within :=
  ⟨okX10_within, am_inU 1123 (by decide +kernel) (by decide +kernel), Nat.le_refl _, Nat.le_refl _, h1, h2, ⟨by decide, by decide, by decide +kernel⟩, trivial, Or.inl ⟨_, _, rfl⟩⟩
abbrev rmX10_isTest : Room := { frames := 1, cells := 0, slots := 0, locals := 22 }
def cqX10_isTest : am_C := (yX10_isTest, .code yX10_isTest cX10_isTest 1 (some .boolean), rmX10_isTest, none, 1, 1)
theorem okX10_isTest {l : Launch} {dC : Nat → ClassId} {dI ad : Nat → Nat → Nat} {cy : Nat → ClassId} : am_Ok l dC dI ad cy yX10_isTest (.code yX10_isTest cX10_isTest 1 (some .boolean)) rmX10_isTest fX10_isTest :=
  am_meth_ok (ci := [cqX10_within]) (by decide +kernel) rfl ⟨rfl, rfl⟩ (am_rows_of (by decide +kernel) (am_words_of [1122, 66, 1121] (by decide +kernel) (by decide +kernel))) (am_cs_cons (calX10_within (by decide) (by decide)) am_cs_nil) (am_cv_of (by decide +kernel))
theorem calX10_isTest {l : Launch} {dC : Nat → ClassId} {dI ad : Nat → Nat → Nat} {cy : Nat → ClassId} {R : Room} (h1 : rmX10_isTest.frames + 1 ≤ R.frames) (h2 : 8 + (1 + 11) + rmX10_isTest.locals ≤ R.locals) : am_Cal l dC dI ad cy R 0 0 cqX10_isTest fX10_isTest :=
  ⟨okX10_isTest, am_inU 1120 (by decide +kernel) (by decide +kernel), Nat.le_refl _, Nat.le_refl _, h1, h2, ⟨by decide, by decide, by decide +kernel⟩, trivial, Or.inl ⟨_, _, rfl⟩⟩
abbrev rmX10_of : Room := { frames := 0, cells := 0, slots := 0, locals := 0 }
def cqX10_of : am_C := (yX10_of, .code yX10_of cX10_of 3 (some .int), rmX10_of, some 10, 2, 3)
theorem okX10_of {l : Launch} {dC : Nat → ClassId} {dI ad : Nat → Nat → Nat} {cy : Nat → ClassId} : am_Ok l dC dI ad cy yX10_of (.code yX10_of cX10_of 3 (some .int)) rmX10_of fX10_of :=
  am_meth_ok (ci := []) (by decide +kernel) rfl ⟨rfl, rfl⟩ (am_rows_of (by decide +kernel) (am_words_of [965] (by decide +kernel) (by decide +kernel))) am_cs_nil (am_cv_of (by decide +kernel))
theorem calX10_of {l : Launch} {dC : Nat → ClassId} {dI ad : Nat → Nat → Nat} {cy : Nat → ClassId} {R : Room} (h1 : rmX10_of.frames + 1 ≤ R.frames) (h2 : 8 + (3 + 11) + rmX10_of.locals ≤ R.locals) : am_Cal l dC dI ad cy R 0 0 cqX10_of fX10_of :=
  ⟨okX10_of, am_inU 1144 (by decide +kernel) (by decide +kernel), Nat.le_refl _, Nat.le_refl _, h1, h2, ⟨by decide, by decide, by decide +kernel⟩, ⟨by decide, rfl⟩, Or.inl ⟨_, _, rfl⟩⟩
abbrev rmX10_pending : Room := { frames := 0, cells := 0, slots := 0, locals := 0 }
def cqX10_pending : am_C := (yX10_pending, .code yX10_pending cX10_pending 3 (some .boolean), rmX10_pending, some 10, 1, 3)
theorem okX10_pending {l : Launch} {dC : Nat → ClassId} {dI ad : Nat → Nat → Nat} {cy : Nat → ClassId} : am_Ok l dC dI ad cy yX10_pending (.code yX10_pending cX10_pending 3 (some .boolean)) rmX10_pending fX10_pending :=
  am_meth_ok (ci := []) (by decide +kernel) rfl ⟨rfl, rfl⟩ (am_rows_of (by decide +kernel) (am_words_of [979, 981, 983] (by decide +kernel) (by decide +kernel))) am_cs_nil (am_cv_of (by decide +kernel))
theorem calX10_pending {l : Launch} {dC : Nat → ClassId} {dI ad : Nat → Nat → Nat} {cy : Nat → ClassId} {R : Room} (h1 : rmX10_pending.frames + 1 ≤ R.frames) (h2 : 8 + (3 + 11) + rmX10_pending.locals ≤ R.locals) : am_Cal l dC dI ad cy R 0 0 cqX10_pending fX10_pending :=
  ⟨okX10_pending, am_inU 1131 (by decide +kernel) (by decide +kernel), Nat.le_refl _, Nat.le_refl _, h1, h2, ⟨by decide, by decide, by decide +kernel⟩, ⟨by decide, rfl⟩, Or.inl ⟨_, _, rfl⟩⟩
abbrev rmX10_fits : Room := { frames := 1, cells := 0, slots := 0, locals := 22 }
def cqX10_fits : am_C := (yX10_fits, .code yX10_fits cX10_fits 2 (some .boolean), rmX10_fits, none, 2, 2)
theorem okX10_fits {l : Launch} {dC : Nat → ClassId} {dI ad : Nat → Nat → Nat} {cy : Nat → ClassId} : am_Ok l dC dI ad cy yX10_fits (.code yX10_fits cX10_fits 2 (some .boolean)) rmX10_fits fX10_fits :=
  am_meth_ok (ci := [cqX10_within]) (by decide +kernel) rfl ⟨rfl, rfl⟩ (am_rows_of (by decide +kernel) (am_words_of [1122, 66, 1121, 1122, 66, 1121, 1122, 66, 1121, 1122, 66, 1121, 1122, 66, 1121, 1122, 66, 1121, 1127, 1122, 66, 1121] (by decide +kernel) (by decide +kernel))) (am_cs_cons (calX10_within (by decide) (by decide)) am_cs_nil) (am_cv_of (by decide +kernel))
theorem calX10_fits {l : Launch} {dC : Nat → ClassId} {dI ad : Nat → Nat → Nat} {cy : Nat → ClassId} {R : Room} (h1 : rmX10_fits.frames + 1 ≤ R.frames) (h2 : 8 + (2 + 11) + rmX10_fits.locals ≤ R.locals) : am_Cal l dC dI ad cy R 0 0 cqX10_fits fX10_fits :=
  ⟨okX10_fits, am_inU 1126 (by decide +kernel) (by decide +kernel), Nat.le_refl _, Nat.le_refl _, h1, h2, ⟨by decide, by decide, by decide +kernel⟩, trivial, Or.inl ⟨_, _, rfl⟩⟩
abbrev rmX10_define : Room := { frames := 2, cells := 0, slots := 0, locals := 43 }
def cqX10_define : am_C := (yX10_define, .code yX10_define cX10_define 4 none, rmX10_define, some 10, 3, 4)
theorem okX10_define {l : Launch} {dC : Nat → ClassId} {dI ad : Nat → Nat → Nat} {cy : Nat → ClassId} : am_Ok l dC dI ad cy yX10_define (.code yX10_define cX10_define 4 none) rmX10_define fX10_define :=
  am_meth_ok (ci := [cqX10_isTest, cqX10_within, cqX10_fits, cqX10_pending]) (by decide +kernel) rfl ⟨rfl, rfl⟩ (am_rows_of (by decide +kernel) (am_words_of [1119, 66, 1118, 1122, 66, 1121, 1125, 66, 1124, 1128, 1130, 26, 66, 1010, 1010, 965, 966] (by decide +kernel) (by decide +kernel))) (am_cs_cons (calX10_isTest (by decide) (by decide)) (am_cs_cons (calX10_within (by decide) (by decide)) (am_cs_cons (calX10_fits (by decide) (by decide)) (am_cs_cons (calX10_pending (by decide) (by decide)) am_cs_nil)))) (am_cv_of (by decide +kernel))
theorem calX10_define {l : Launch} {dC : Nat → ClassId} {dI ad : Nat → Nat → Nat} {cy : Nat → ClassId} {R : Room} (h1 : rmX10_define.frames + 1 ≤ R.frames) (h2 : 8 + (4 + 11) + rmX10_define.locals ≤ R.locals) : am_Cal l dC dI ad cy R 0 0 cqX10_define fX10_define :=
  ⟨okX10_define, am_inU 1117 (by decide +kernel) (by decide +kernel), Nat.le_refl _, Nat.le_refl _, h1, h2, ⟨by decide, by decide, by decide +kernel⟩, ⟨by decide, rfl⟩, Or.inl ⟨_, _, rfl⟩⟩
abbrev rmX10_curve : Room := { frames := 2, cells := 0, slots := 0, locals := 42 }
def cqX10_curve : am_C := (yX10_curve, .code yX10_curve cX10_curve 5 (some .int), rmX10_curve, some 10, 3, 5)
theorem okX10_curve {l : Launch} {dC : Nat → ClassId} {dI ad : Nat → Nat → Nat} {cy : Nat → ClassId} : am_Ok l dC dI ad cy yX10_curve (.code yX10_curve cX10_curve 5 (some .int)) rmX10_curve fX10_curve :=
  am_meth_ok (ci := [cqX10_isTest, cqX10_within, cqX10_pending]) (by decide +kernel) rfl ⟨rfl, rfl⟩ (am_rows_of (by decide +kernel) (am_words_of [1119, 66, 1118, 1136, 1127, 1122, 66, 1121, 1136, 1127, 1122, 66, 1121, 1128, 1130, 26, 66, 969, 969, 967, 969, 1010, 1010, 969, 967, 969, 969, 967, 969, 968, 969, 969, 966, 969] (by decide +kernel) (by decide +kernel))) (am_cs_cons (calX10_isTest (by decide) (by decide)) (am_cs_cons (calX10_within (by decide) (by decide)) (am_cs_cons (calX10_pending (by decide) (by decide)) am_cs_nil))) (am_cv_of (by decide +kernel))
theorem calX10_curve {l : Launch} {dC : Nat → ClassId} {dI ad : Nat → Nat → Nat} {cy : Nat → ClassId} {R : Room} (h1 : rmX10_curve.frames + 1 ≤ R.frames) (h2 : 8 + (5 + 11) + rmX10_curve.locals ≤ R.locals) : am_Cal l dC dI ad cy R 0 0 cqX10_curve fX10_curve :=
  ⟨okX10_curve, am_inU 1135 (by decide +kernel) (by decide +kernel), Nat.le_refl _, Nat.le_refl _, h1, h2, ⟨by decide, by decide, by decide +kernel⟩, ⟨by decide, rfl⟩, Or.inl ⟨_, _, rfl⟩⟩
abbrev rmX10_reagentGood : Room := { frames := 1, cells := 0, slots := 0, locals := 22 }
def cqX10_reagentGood : am_C := (yX10_reagentGood, .code yX10_reagentGood cX10_reagentGood 3 (some .boolean), rmX10_reagentGood, some 10, 2, 3)
theorem okX10_reagentGood {l : Launch} {dC : Nat → ClassId} {dI ad : Nat → Nat → Nat} {cy : Nat → ClassId} : am_Ok l dC dI ad cy yX10_reagentGood (.code yX10_reagentGood cX10_reagentGood 3 (some .boolean)) rmX10_reagentGood fX10_reagentGood :=
  am_meth_ok (ci := [cqX10_of]) (by decide +kernel) rfl ⟨rfl, rfl⟩ (am_rows_of (by decide +kernel) (am_words_of [1141, 1143, 27, 66, 1141, 1143, 27, 66, 1141, 1143, 27, 66, 1141, 1143, 27, 66, 1141, 1143, 27, 66] (by decide +kernel) (by decide +kernel))) (am_cs_cons (calX10_of (by decide) (by decide)) am_cs_nil) (am_cv_of (by decide +kernel))
theorem calX10_reagentGood {l : Launch} {dC : Nat → ClassId} {dI ad : Nat → Nat → Nat} {cy : Nat → ClassId} {R : Room} (h1 : rmX10_reagentGood.frames + 1 ≤ R.frames) (h2 : 8 + (3 + 11) + rmX10_reagentGood.locals ≤ R.locals) : am_Cal l dC dI ad cy R 0 0 cqX10_reagentGood fX10_reagentGood :=
  ⟨okX10_reagentGood, am_inU 1148 (by decide +kernel) (by decide +kernel), Nat.le_refl _, Nat.le_refl _, h1, h2, ⟨by decide, by decide, by decide +kernel⟩, ⟨by decide, rfl⟩, Or.inl ⟨_, _, rfl⟩⟩
abbrev rmX10_curveGood : Room := { frames := 0, cells := 0, slots := 0, locals := 0 }
def cqX10_curveGood : am_C := (yX10_curveGood, .code yX10_curveGood cX10_curveGood 5 (some .boolean), rmX10_curveGood, some 10, 1, 5)
theorem okX10_curveGood {l : Launch} {dC : Nat → ClassId} {dI ad : Nat → Nat → Nat} {cy : Nat → ClassId} : am_Ok l dC dI ad cy yX10_curveGood (.code yX10_curveGood cX10_curveGood 5 (some .boolean)) rmX10_curveGood fX10_curveGood :=
  am_meth_ok (ci := []) (by decide +kernel) rfl ⟨rfl, rfl⟩ (am_rows_of (by decide +kernel) (am_words_of [969, 969, 969, 968, 968, 968, 968] (by decide +kernel) (by decide +kernel))) am_cs_nil (am_cv_of (by decide +kernel))
theorem calX10_curveGood {l : Launch} {dC : Nat → ClassId} {dI ad : Nat → Nat → Nat} {cy : Nat → ClassId} {R : Room} (h1 : rmX10_curveGood.frames + 1 ≤ R.frames) (h2 : 8 + (5 + 11) + rmX10_curveGood.locals ≤ R.locals) : am_Cal l dC dI ad cy R 0 0 cqX10_curveGood fX10_curveGood :=
  ⟨okX10_curveGood, am_inU 1152 (by decide +kernel) (by decide +kernel), Nat.le_refl _, Nat.le_refl _, h1, h2, ⟨by decide, by decide, by decide +kernel⟩, ⟨by decide, rfl⟩, Or.inl ⟨_, _, rfl⟩⟩
abbrev rmX10_seal : Room := { frames := 2, cells := 0, slots := 0, locals := 44 }
def cqX10_seal : am_C := (yX10_seal, .code yX10_seal cX10_seal 4 (some .boolean), rmX10_seal, some 10, 1, 4)
theorem okX10_seal {l : Launch} {dC : Nat → ClassId} {dI ad : Nat → Nat → Nat} {cy : Nat → ClassId} : am_Ok l dC dI ad cy yX10_seal (.code yX10_seal cX10_seal 4 (some .boolean)) rmX10_seal fX10_seal :=
  am_meth_ok (ci := [cqX10_isTest, cqX10_of, cqX10_reagentGood, cqX10_curveGood]) (by decide +kernel) rfl ⟨rfl, rfl⟩ (am_rows_of (by decide +kernel) (am_words_of [1119, 66, 1118, 1010, 1010, 1141, 1143, 27, 66, 1145, 1147, 28, 66, 1145, 1147, 28, 66, 1149, 1151, 29, 66, 1141, 1143, 27, 66, 1141, 1143, 27, 66, 1141, 1143, 27, 66, 1141, 1143, 27, 66, 1141, 1143, 27, 66, 1141, 1143, 27, 66, 1141, 1143, 27, 66, 1141, 1143, 27, 66, 1141, 1143, 27, 66, 1141, 1143, 27, 66, 1141, 1143, 27, 66, 1141, 1143, 27, 66, 1141, 1143, 27, 66, 966] (by decide +kernel) (by decide +kernel))) (am_cs_cons (calX10_isTest (by decide) (by decide)) (am_cs_cons (calX10_of (by decide) (by decide)) (am_cs_cons (calX10_reagentGood (by decide) (by decide)) (am_cs_cons (calX10_curveGood (by decide) (by decide)) am_cs_nil)))) (am_cv_of (by decide +kernel))
theorem calX10_seal {l : Launch} {dC : Nat → ClassId} {dI ad : Nat → Nat → Nat} {cy : Nat → ClassId} {R : Room} (h1 : rmX10_seal.frames + 1 ≤ R.frames) (h2 : 8 + (4 + 11) + rmX10_seal.locals ≤ R.locals) : am_Cal l dC dI ad cy R 0 0 cqX10_seal fX10_seal :=
  ⟨okX10_seal, am_inU 1140 (by decide +kernel) (by decide +kernel), Nat.le_refl _, Nat.le_refl _, h1, h2, ⟨by decide, by decide, by decide +kernel⟩, ⟨by decide, rfl⟩, Or.inl ⟨_, _, rfl⟩⟩
abbrev rmX10_slotOf : Room := { frames := 0, cells := 0, slots := 0, locals := 0 }
def cqX10_slotOf : am_C := (yX10_slotOf, .code yX10_slotOf cX10_slotOf 3 (some .int), rmX10_slotOf, some 10, 1, 3)
theorem okX10_slotOf {l : Launch} {dC : Nat → ClassId} {dI ad : Nat → Nat → Nat} {cy : Nat → ClassId} : am_Ok l dC dI ad cy yX10_slotOf (.code yX10_slotOf cX10_slotOf 3 (some .int)) rmX10_slotOf fX10_slotOf :=
  am_meth_ok (ci := []) (by decide +kernel) rfl ⟨rfl, rfl⟩ (am_rows_of (by decide +kernel) (am_words_of [972] (by decide +kernel) (by decide +kernel))) am_cs_nil (am_cv_of (by decide +kernel))
theorem calX10_slotOf {l : Launch} {dC : Nat → ClassId} {dI ad : Nat → Nat → Nat} {cy : Nat → ClassId} {R : Room} (h1 : rmX10_slotOf.frames + 1 ≤ R.frames) (h2 : 8 + (3 + 11) + rmX10_slotOf.locals ≤ R.locals) : am_Cal l dC dI ad cy R 0 0 cqX10_slotOf fX10_slotOf :=
  ⟨okX10_slotOf, am_inU 1162 (by decide +kernel) (by decide +kernel), Nat.le_refl _, Nat.le_refl _, h1, h2, ⟨by decide, by decide, by decide +kernel⟩, ⟨by decide, rfl⟩, Or.inl ⟨_, _, rfl⟩⟩
abbrev rmX10_rack : Room := { frames := 1, cells := 0, slots := 0, locals := 22 }
def cqX10_rack : am_C := (yX10_rack, .code yX10_rack cX10_rack 6 none, rmX10_rack, some 10, 4, 6)
theorem okX10_rack {l : Launch} {dC : Nat → ClassId} {dI ad : Nat → Nat → Nat} {cy : Nat → ClassId} : am_Ok l dC dI ad cy yX10_rack (.code yX10_rack cX10_rack 6 none) rmX10_rack fX10_rack :=
  am_meth_ok (ci := [cqX10_within, cqX10_slotOf]) (by decide +kernel) rfl ⟨rfl, rfl⟩ (am_rows_of (by decide +kernel) (am_words_of [1122, 66, 1121, 1157, 1122, 66, 1121, 1122, 66, 1121, 1158, 1122, 66, 1121, 972, 1159, 1161, 30, 66, 1010, 1010, 972, 973, 974] (by decide +kernel) (by decide +kernel))) (am_cs_cons (calX10_within (by decide) (by decide)) (am_cs_cons (calX10_slotOf (by decide) (by decide)) am_cs_nil)) (am_cv_of (by decide +kernel))
theorem calX10_rack {l : Launch} {dC : Nat → ClassId} {dI ad : Nat → Nat → Nat} {cy : Nat → ClassId} {R : Room} (h1 : rmX10_rack.frames + 1 ≤ R.frames) (h2 : 8 + (6 + 11) + rmX10_rack.locals ≤ R.locals) : am_Cal l dC dI ad cy R 0 0 cqX10_rack fX10_rack :=
  ⟨okX10_rack, am_inU 1156 (by decide +kernel) (by decide +kernel), Nat.le_refl _, Nat.le_refl _, h1, h2, ⟨by decide, by decide, by decide +kernel⟩, ⟨by decide, rfl⟩, Or.inl ⟨_, _, rfl⟩⟩
abbrev rmX10_removeRack : Room := { frames := 1, cells := 0, slots := 0, locals := 22 }
def cqX10_removeRack : am_C := (yX10_removeRack, .code yX10_removeRack cX10_removeRack 3 (some .int), rmX10_removeRack, some 10, 1, 3)
theorem okX10_removeRack {l : Launch} {dC : Nat → ClassId} {dI ad : Nat → Nat → Nat} {cy : Nat → ClassId} : am_Ok l dC dI ad cy yX10_removeRack (.code yX10_removeRack cX10_removeRack 3 (some .int)) rmX10_removeRack fX10_removeRack :=
  am_meth_ok (ci := [cqX10_within]) (by decide +kernel) rfl ⟨rfl, rfl⟩ (am_rows_of (by decide +kernel) (am_words_of [1122, 66, 1121, 972, 1010, 979, 1010, 980, 972, 983, 1010, 1010, 972, 974] (by decide +kernel) (by decide +kernel))) (am_cs_cons (calX10_within (by decide) (by decide)) am_cs_nil) (am_cv_of (by decide +kernel))
theorem calX10_removeRack {l : Launch} {dC : Nat → ClassId} {dI ad : Nat → Nat → Nat} {cy : Nat → ClassId} {R : Room} (h1 : rmX10_removeRack.frames + 1 ≤ R.frames) (h2 : 8 + (3 + 11) + rmX10_removeRack.locals ≤ R.locals) : am_Cal l dC dI ad cy R 0 0 cqX10_removeRack fX10_removeRack :=
  ⟨okX10_removeRack, am_inU 1166 (by decide +kernel) (by decide +kernel), Nat.le_refl _, Nat.le_refl _, h1, h2, ⟨by decide, by decide, by decide +kernel⟩, ⟨by decide, rfl⟩, Or.inl ⟨_, _, rfl⟩⟩
