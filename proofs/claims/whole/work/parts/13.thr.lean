/-! ===== which meanings never throw ===== -/
theorem ntX9_isWithin : am_nt fX9_isWithin := am_meth_nt am_nt_nil
theorem ntX0_accepts : am_nt fX0_accepts := am_meth_nt (am_nt_cons ntX9_isWithin am_nt_nil)
theorem ntX0_takes : am_nt fX0_takes := am_meth_nt am_nt_nil
theorem ntX0_add : am_nt fX0_add := am_meth_nt am_nt_nil
theorem ntX0_isMonotone : am_nt fX0_isMonotone := am_meth_nt am_nt_nil
theorem ntX0_isComplete : am_nt fX0_isComplete := am_meth_nt (am_nt_cons ntX0_isMonotone am_nt_nil)
theorem ntJ9_floorDiv_f86c9 : am_nt fJ9_floorDiv_f86c9 := am_meth_nt am_nt_nil
theorem ntX9_rounded : am_nt fX9_rounded := am_meth_nt (am_nt_cons ntJ9_floorDiv_f86c9 am_nt_nil)
theorem ntX0_valueAt : am_nt fX0_valueAt := am_meth_nt (am_nt_cons ntX9_rounded am_nt_nil)
theorem ntX1_isClean : am_nt fX1_isClean := am_meth_nt am_nt_nil
theorem ntX1_turn : am_nt fX1_turn := am_meth_nt am_nt_nil
theorem ntX1_start : am_nt fX1_start := am_meth_nt am_nt_nil
theorem ntX1_addReading : am_nt fX1_addReading := am_meth_nt am_nt_nil
theorem ntX1_sendToWash : am_nt fX1_sendToWash := am_meth_nt am_nt_nil
theorem ntX2_append : am_nt fX2_append := am_meth_nt am_nt_nil
theorem ntX2_fromLatest : am_nt fX2_fromLatest := am_meth_nt (am_nt_cons ntX9_isWithin am_nt_nil)
theorem ntX2_above : am_nt fX2_above := am_meth_nt (am_nt_cons ntX2_fromLatest am_nt_nil)
theorem ntX2_below : am_nt fX2_below := am_meth_nt (am_nt_cons ntX2_fromLatest am_nt_nil)
theorem ntX3_append : am_nt fX3_append := am_meth_nt am_nt_nil
theorem ntX3_dropFirst : am_nt fX3_dropFirst := am_meth_nt am_nt_nil
theorem ntX4_place : am_nt fX4_place := am_meth_nt am_nt_nil
theorem ntX4_isOpen : am_nt fX4_isOpen := am_meth_nt am_nt_nil
theorem ntX4_startRun : am_nt fX4_startRun := am_meth_nt am_nt_nil
theorem ntX4_waitAgain : am_nt fX4_waitAgain := am_meth_nt am_nt_nil
theorem ntX4_fail : am_nt fX4_fail := am_meth_nt am_nt_nil
theorem ntX4_breakOff : am_nt fX4_breakOff := am_meth_nt (am_nt_cons ntX4_waitAgain (am_nt_cons ntX4_fail am_nt_nil))
theorem ntX4_release : am_nt fX4_release := am_meth_nt am_nt_nil
theorem ntX4_runFlags : am_nt fX4_runFlags := am_meth_nt am_nt_nil
theorem ntX5_isEmpty : am_nt fX5_isEmpty := am_meth_nt am_nt_nil
theorem ntX5_fill : am_nt fX5_fill := am_meth_nt am_nt_nil
theorem ntX5_canGive : am_nt fX5_canGive := am_meth_nt am_nt_nil
theorem ntX6_accepts : am_nt fX6_accepts := am_meth_nt (am_nt_cons ntX9_isWithin am_nt_nil)
theorem ntX6_kindOf : am_nt fX6_kindOf := am_meth_nt am_nt_nil
theorem ntX6_doseOf : am_nt fX6_doseOf := am_meth_nt am_nt_nil
theorem ntX6_ageOf : am_nt fX6_ageOf := am_meth_nt am_nt_nil
theorem ntX6_lacks : am_nt fX6_lacks := am_meth_nt (am_nt_cons ntX6_kindOf am_nt_nil)
theorem ntX6_sampleVolume : am_nt fX6_sampleVolume := am_meth_nt am_nt_nil
theorem ntX6_isReagentRight : am_nt fX6_isReagentRight := am_meth_nt (am_nt_cons ntX6_doseOf (am_nt_cons ntX6_ageOf am_nt_nil))
theorem ntX6_areReagentsRight : am_nt fX6_areReagentsRight := am_meth_nt (am_nt_cons ntX6_kindOf (am_nt_cons ntX6_isReagentRight (am_nt_cons ntX6_ageOf am_nt_nil)))
theorem ntX6_areReadingsRight : am_nt fX6_areReadingsRight := am_meth_nt (am_nt_cons ntX9_isWithin am_nt_nil)
theorem ntX6_dilutes : am_nt fX6_dilutes := am_meth_nt am_nt_nil
theorem ntX6_isDilutionRight : am_nt fX6_isDilutionRight := am_meth_nt (am_nt_cons ntX6_dilutes am_nt_nil)
theorem ntX6_isComplete : am_nt fX6_isComplete := am_meth_nt (am_nt_cons ntX6_areReagentsRight (am_nt_cons ntX6_areReadingsRight (am_nt_cons ntX6_isDilutionRight (am_nt_cons ntX0_isComplete am_nt_nil))))
theorem ntX6_isReadAt : am_nt fX6_isReadAt := am_meth_nt (am_nt_cons ntX9_isWithin am_nt_nil)
theorem ntX6_isOverAt : am_nt fX6_isOverAt := am_meth_nt am_nt_nil
theorem ntX6_asksAgain : am_nt fX6_asksAgain := am_meth_nt am_nt_nil
theorem ntX6_limitFlags : am_nt fX6_limitFlags := am_meth_nt am_nt_nil
theorem ntX6_valueAt : am_nt fX6_valueAt := am_meth_nt (am_nt_cons ntX0_valueAt am_nt_nil)
theorem ntX6_rateOf : am_nt fX6_rateOf := am_meth_nt (am_nt_cons ntX9_rounded am_nt_nil)
theorem ntX6_formulaOf : am_nt fX6_formulaOf := am_meth_nt (am_nt_cons ntX9_isWithin (am_nt_cons ntX6_rateOf am_nt_nil))
theorem ntX6_brokenRules : am_nt fX6_brokenRules := am_meth_nt (am_nt_cons ntX2_above (am_nt_cons ntX2_below am_nt_nil))
theorem ntX7_turnSuccession : am_nt fX7_turnSuccession := am_meth_nt am_nt_nil
theorem ntX7_clear : am_nt fX7_clear := am_meth_nt am_nt_nil
theorem ntX7_turn : am_nt fX7_turn := am_meth_nt (am_nt_cons ntX7_clear am_nt_nil)
theorem ntX7_userNow : am_nt fX7_userNow := am_meth_nt am_nt_nil
theorem ntX7_isFree : am_nt fX7_isFree := am_meth_nt (am_nt_cons ntX9_isWithin am_nt_nil)
theorem ntX7_hasForbiddenSuccession : am_nt fX7_hasForbiddenSuccession := am_meth_nt am_nt_nil
theorem ntX7_cancel : am_nt fX7_cancel := am_meth_nt (am_nt_cons ntX7_clear am_nt_nil)
theorem ntX7_book : am_nt fX7_book := am_meth_nt (am_nt_cons ntX6_kindOf (am_nt_cons ntX6_ageOf (am_nt_cons ntX7_isFree (am_nt_cons ntX7_hasForbiddenSuccession (am_nt_cons ntX7_cancel am_nt_nil)))))
theorem ntX8_isEmpty : am_nt fX8_isEmpty := am_meth_nt am_nt_nil
theorem ntX8_fill : am_nt fX8_fill := am_meth_nt am_nt_nil
theorem ntX9_isOrdered : am_nt fX9_isOrdered := am_meth_nt (am_nt_cons ntX4_isOpen am_nt_nil)
theorem ntX9_slotOf : am_nt fX9_slotOf := am_meth_nt am_nt_nil
theorem ntX9_isAwaited : am_nt fX9_isAwaited := am_meth_nt (am_nt_cons ntX4_isOpen am_nt_nil)
theorem ntX9_turnDisc : am_nt fX9_turnDisc := am_meth_nt (am_nt_cons ntX1_turn (am_nt_cons ntX7_turn am_nt_nil))
theorem ntX9_breakOff : am_nt fX9_breakOff := am_meth_nt (am_nt_cons ntX9_isWithin (am_nt_cons ntX7_cancel (am_nt_cons ntX4_breakOff (am_nt_cons ntX1_sendToWash am_nt_nil))))
theorem ntX9_giveNextDose : am_nt fX9_giveNextDose := am_meth_nt (am_nt_cons ntX9_isWithin am_nt_nil)
theorem ntX9_giveReagent : am_nt fX9_giveReagent := am_meth_nt (am_nt_cons ntX7_userNow (am_nt_cons ntX9_isWithin (am_nt_cons ntX9_breakOff (am_nt_cons ntX9_giveNextDose am_nt_nil))))
theorem ntX9_absorbanceOf : am_nt fX9_absorbanceOf := am_meth_nt am_nt_nil
theorem ntX9_cuvetteOf : am_nt fX9_cuvetteOf := am_meth_nt (am_nt_cons ntX9_isWithin am_nt_nil)
theorem ntX9_takeReadings : am_nt fX9_takeReadings := am_meth_nt (am_nt_cons ntX9_absorbanceOf (am_nt_cons ntX9_cuvetteOf (am_nt_cons ntX6_isReadAt (am_nt_cons ntX1_addReading am_nt_nil))))
theorem ntJ9_min_f86c9 : am_nt fJ9_min_f86c9 := am_meth_nt am_nt_nil
theorem ntJ9_max_f86c9 : am_nt fJ9_max_f86c9 := am_meth_nt am_nt_nil
theorem ntX9_limited : am_nt fX9_limited := am_meth_nt (am_nt_cons ntJ9_min_f86c9 (am_nt_cons ntJ9_max_f86c9 am_nt_nil))
theorem ntX9_judge : am_nt fX9_judge := am_meth_nt (am_nt_cons ntX6_formulaOf (am_nt_cons ntX6_valueAt (am_nt_cons ntX9_limited (am_nt_cons ntX6_limitFlags (am_nt_cons ntX4_runFlags (am_nt_cons ntX1_sendToWash (am_nt_cons ntX6_asksAgain (am_nt_cons ntX6_dilutes (am_nt_cons ntX4_waitAgain (am_nt_cons ntX4_release (am_nt_cons ntX3_append (am_nt_cons ntX2_append am_nt_nil))))))))))))
theorem ntX9_judgeEndedRuns : am_nt fX9_judgeEndedRuns := am_meth_nt (am_nt_cons ntX9_cuvetteOf (am_nt_cons ntX6_isOverAt (am_nt_cons ntX9_judge am_nt_nil)))
theorem ntX9_positionFor : am_nt fX9_positionFor := am_meth_nt (am_nt_cons ntX6_kindOf (am_nt_cons ntX6_doseOf (am_nt_cons ntX5_canGive am_nt_nil)))
theorem ntX9_cleanCuvette : am_nt fX9_cleanCuvette := am_meth_nt (am_nt_cons ntX1_isClean am_nt_nil)
theorem ntX9_reserve : am_nt fX9_reserve := am_meth_nt am_nt_nil
theorem ntX9_takeSample : am_nt fX9_takeSample := am_meth_nt (am_nt_cons ntX9_breakOff am_nt_nil)
theorem ntX9_tryStart : am_nt fX9_tryStart := am_meth_nt (am_nt_cons ntX9_slotOf (am_nt_cons ntX6_sampleVolume (am_nt_cons ntX4_fail (am_nt_cons ntX9_positionFor (am_nt_cons ntX6_lacks (am_nt_cons ntX9_cleanCuvette (am_nt_cons ntX7_book (am_nt_cons ntX1_start (am_nt_cons ntX6_doseOf (am_nt_cons ntX9_reserve (am_nt_cons ntX4_startRun (am_nt_cons ntX9_takeSample am_nt_nil))))))))))))
theorem ntX9_startFirst : am_nt fX9_startFirst := am_meth_nt (am_nt_cons ntX9_tryStart am_nt_nil)
theorem ntX9_step : am_nt fX9_step := am_meth_nt (am_nt_cons ntX9_turnDisc (am_nt_cons ntX9_giveReagent (am_nt_cons ntX9_takeReadings (am_nt_cons ntX9_judgeEndedRuns (am_nt_cons ntX9_startFirst am_nt_nil)))))
theorem ntX9_idle : am_nt fX9_idle := am_meth_nt am_nt_nil
theorem ntX10_thrown : am_nt fX10_thrown := am_meth_nt am_nt_nil
theorem ntX10_within : am_nt fX10_within := am_meth_nt am_nt_nil
theorem ntX10_isTest : am_nt fX10_isTest := am_meth_nt (am_nt_cons ntX10_within am_nt_nil)
theorem ntX10_of : am_nt fX10_of := am_meth_nt am_nt_nil
theorem ntX10_pending : am_nt fX10_pending := am_meth_nt am_nt_nil
theorem ntX10_fits : am_nt fX10_fits := am_meth_nt (am_nt_cons ntX10_within am_nt_nil)
theorem ntX10_define : am_nt fX10_define := am_meth_nt (am_nt_cons ntX10_isTest (am_nt_cons ntX10_within (am_nt_cons ntX10_fits (am_nt_cons ntX10_pending am_nt_nil))))
theorem ntX10_curve : am_nt fX10_curve := am_meth_nt (am_nt_cons ntX10_isTest (am_nt_cons ntX10_within (am_nt_cons ntX10_pending am_nt_nil)))
theorem ntX10_reagentGood : am_nt fX10_reagentGood := am_meth_nt (am_nt_cons ntX10_of am_nt_nil)
theorem ntX10_curveGood : am_nt fX10_curveGood := am_meth_nt am_nt_nil
theorem ntX10_seal : am_nt fX10_seal := am_meth_nt (am_nt_cons ntX10_isTest (am_nt_cons ntX10_of (am_nt_cons ntX10_reagentGood (am_nt_cons ntX10_curveGood am_nt_nil))))
theorem ntX10_slotOf : am_nt fX10_slotOf := am_meth_nt am_nt_nil
theorem ntX10_rack : am_nt fX10_rack := am_meth_nt (am_nt_cons ntX10_within (am_nt_cons ntX10_slotOf am_nt_nil))
theorem ntX10_removeRack : am_nt fX10_removeRack := am_meth_nt (am_nt_cons ntX10_within am_nt_nil)
theorem ntX10_reserved : am_nt fX10_reserved := am_meth_nt am_nt_nil
theorem ntX10_reagent : am_nt fX10_reagent := am_meth_nt (am_nt_cons ntX10_within (am_nt_cons ntX10_reserved am_nt_nil))
theorem ntX10_forbid : am_nt fX10_forbid := am_meth_nt (am_nt_cons ntX10_within am_nt_nil)
theorem ntX10_order : am_nt fX10_order := am_meth_nt (am_nt_cons ntX10_within (am_nt_cons ntX10_isTest am_nt_nil))
theorem ntX10_clock : am_nt fX10_clock := am_meth_nt am_nt_nil
theorem ntX10_light : am_nt fX10_light := am_meth_nt (am_nt_cons ntX10_within am_nt_nil)
theorem ntX10_spoil : am_nt fX10_spoil := am_meth_nt (am_nt_cons ntX10_within am_nt_nil)
theorem ntX10_copyBook : am_nt fX10_copyBook := am_meth_nt am_nt_nil
theorem ntX10_cancel : am_nt fX10_cancel := am_meth_nt (am_nt_cons ntX10_copyBook am_nt_nil)
theorem ntX10_nextUse : am_nt fX10_nextUse := am_meth_nt am_nt_nil
theorem ntX10_follows : am_nt fX10_follows := am_meth_nt (am_nt_cons ntX10_nextUse am_nt_nil)
theorem ntX10_allowed : am_nt fX10_allowed := am_meth_nt (am_nt_cons ntX10_follows am_nt_nil)
theorem ntX10_placeFor : am_nt fX10_placeFor := am_meth_nt (am_nt_cons ntX10_reserved am_nt_nil)
theorem ntX10_book : am_nt fX10_book := am_meth_nt (am_nt_cons ntX10_of (am_nt_cons ntX10_placeFor am_nt_nil))
theorem ntX10_fail : am_nt fX10_fail := am_meth_nt am_nt_nil
theorem ntX10_leave : am_nt fX10_leave := am_meth_nt (am_nt_cons ntX10_cancel am_nt_nil)
theorem ntX10_breaksOff : am_nt fX10_breaksOff := am_meth_nt (am_nt_cons ntX10_leave (am_nt_cons ntX10_fail am_nt_nil))
theorem ntX10_give : am_nt fX10_give := am_meth_nt (am_nt_cons ntX10_breaksOff (am_nt_cons ntX10_copyBook am_nt_nil))
theorem ntX10_absorbance : am_nt fX10_absorbance := am_meth_nt am_nt_nil
theorem ntX10_floor : am_nt fX10_floor := am_meth_nt am_nt_nil
theorem ntX10_rounded : am_nt fX10_rounded := am_meth_nt (am_nt_cons ntX10_floor am_nt_nil)
theorem ntX10_resultOf : am_nt fX10_resultOf := am_meth_nt (am_nt_cons ntX10_of (am_nt_cons ntX10_rounded am_nt_nil))
theorem ntX10_byCurve : am_nt fX10_byCurve := am_meth_nt (am_nt_cons ntX10_rounded am_nt_nil)
theorem ntX10_release : am_nt fX10_release := am_meth_nt am_nt_nil
theorem ntX10_remember : am_nt fX10_remember := am_meth_nt am_nt_nil
theorem ntX10_judge : am_nt fX10_judge := am_meth_nt (am_nt_cons ntX10_resultOf (am_nt_cons ntX10_byCurve (am_nt_cons ntX10_of (am_nt_cons ntX10_leave (am_nt_cons ntX10_remember (am_nt_cons ntX10_release am_nt_nil))))))
theorem ntX10_goOn : am_nt fX10_goOn := am_meth_nt am_nt_nil
theorem ntX10_measure : am_nt fX10_measure := am_meth_nt (am_nt_cons ntX10_of (am_nt_cons ntX10_absorbance am_nt_nil))
theorem ntX10_clean : am_nt fX10_clean := am_meth_nt am_nt_nil
theorem ntX10_start : am_nt fX10_start := am_meth_nt (am_nt_cons ntX10_breaksOff am_nt_nil)
theorem ntX10_tries : am_nt fX10_tries := am_meth_nt (am_nt_cons ntX10_slotOf (am_nt_cons ntX10_of (am_nt_cons ntX10_fail (am_nt_cons ntX10_book (am_nt_cons ntX10_cancel (am_nt_cons ntX10_clean (am_nt_cons ntX10_allowed (am_nt_cons ntX10_start am_nt_nil))))))))
theorem ntX10_startOne : am_nt fX10_startOne := am_meth_nt (am_nt_cons ntX10_tries am_nt_nil)
theorem ntX10_step : am_nt fX10_step := am_meth_nt (am_nt_cons ntX10_goOn (am_nt_cons ntX10_give (am_nt_cons ntX10_measure (am_nt_cons ntX10_of (am_nt_cons ntX10_judge (am_nt_cons ntX10_startOne am_nt_nil))))))
theorem ntX10_idle : am_nt fX10_idle := am_meth_nt am_nt_nil
theorem ntX10_state : am_nt fX10_state := am_meth_nt (am_nt_cons ntX10_within am_nt_nil)
theorem ntX10_cuvette : am_nt fX10_cuvette := am_meth_nt (am_nt_cons ntX10_within am_nt_nil)
theorem ntX10_volume : am_nt fX10_volume := am_meth_nt (am_nt_cons ntX10_within (am_nt_cons ntX10_reserved am_nt_nil))
theorem ntX10_trend : am_nt fX10_trend := am_meth_nt (am_nt_cons ntX10_isTest am_nt_nil)
theorem ntX10_above : am_nt fX10_above := am_meth_nt (am_nt_cons ntX10_of am_nt_nil)
theorem ntX10_rules : am_nt fX10_rules := am_meth_nt (am_nt_cons ntX10_isTest (am_nt_cons ntX10_of (am_nt_cons ntX10_above am_nt_nil)))
theorem ntX10_host : am_nt fX10_host := am_meth_nt am_nt_nil
theorem ntX10_took : am_nt fX10_took := am_meth_nt am_nt_nil
/-! ===== throwing contracts ===== -/
theorem am_nl9 : ∀ q ∈ am_nl, q.1 ≠ RX9 ∧ q.1 ≠ RL := by decide +kernel
theorem am_castE : ∀ E ∈ am_ex, Cond.castable E E ∈ am_xw := by decide +kernel
theorem am_split {L : List Cond} (h : L.all (fun w => decide (w ∈ lw_tbl) && (goodWord w || am_isx w)) = true) : ∀ w ∈ L, w ∈ am_U ∨ w ∈ am_xw := by
  intro w hw
  have h1 := List.all_eq_true.mp h w hw
  simp only [Bool.and_eq_true, Bool.or_eq_true, decide_eq_true_eq] at h1
  exact h1.2.imp (fun g => List.mem_filter.mpr ⟨h1.1, g⟩) (fun g => List.mem_filter.mpr ⟨h1.1, g⟩)
theorem am_cT_nil {l : Launch} {dC : Nat → ClassId} {dI ad : Nat → Nat → Nat} {cy : Nat → ClassId} {R : Room} {own : String} : ∀ (a : Nat) (F : am_F) (q : am_C), ([] : List am_F)[a]? = some F → ([] : List am_C)[a]? = some q → (∃ av M E M', F av M = some (.inr E, M')) → am_CalT l dC dI ad cy R q F ∧ ∀ idx, (own, idx, q.1, RX9) ∉ am_nl := fun a F q h => by simp at h
theorem am_cT_nt {l : Launch} {dC : Nat → ClassId} {dI ad : Nat → Nat → Nat} {cy : Nat → ClassId} {R : Room} {own : String} {F0' : am_F} {q0 : am_C} {cs : List am_F} {ci : List am_C} (h : am_nt F0') (t : ∀ (a : Nat) (F : am_F) (q : am_C), cs[a]? = some F → ci[a]? = some q → (∃ av M E M', F av M = some (.inr E, M')) → am_CalT l dC dI ad cy R q F ∧ ∀ idx, (own, idx, q.1, RX9) ∉ am_nl) :
    ∀ (a : Nat) (F : am_F) (q : am_C), (F0' :: cs)[a]? = some F → (q0 :: ci)[a]? = some q → (∃ av M E M', F av M = some (.inr E, M')) → am_CalT l dC dI ad cy R q F ∧ ∀ idx, (own, idx, q.1, RX9) ∉ am_nl
  | 0, F, q, h1, h2, h3 => by cases h1; obtain ⟨av, M, E, M', h4⟩ := h3; exact absurd h4 (h av M E M')
  | a + 1, F, q, h1, h2, h3 => t a F q h1 h2 h3
theorem am_cT_T {l : Launch} {dC : Nat → ClassId} {dI ad : Nat → Nat → Nat} {cy : Nat → ClassId} {R : Room} {own : String} (ho : own = RX9 ∨ own = RL) {F0' : am_F} {q0 : am_C} {cs : List am_F} {ci : List am_C} (h : am_CalT l dC dI ad cy R q0 F0') (t : ∀ (a : Nat) (F : am_F) (q : am_C), cs[a]? = some F → ci[a]? = some q → (∃ av M E M', F av M = some (.inr E, M')) → am_CalT l dC dI ad cy R q F ∧ ∀ idx, (own, idx, q.1, RX9) ∉ am_nl) :
    ∀ (a : Nat) (F : am_F) (q : am_C), (F0' :: cs)[a]? = some F → (q0 :: ci)[a]? = some q → (∃ av M E M', F av M = some (.inr E, M')) → am_CalT l dC dI ad cy R q F ∧ ∀ idx, (own, idx, q.1, RX9) ∉ am_nl
  | 0, F, q, h1, h2, h3 => by
    cases h1; cases h2
    refine ⟨h, fun idx hm => ?_⟩
    have := am_nl9 _ hm
    rcases ho with e | e
    · exact this.1 e
    · exact this.2 e
  | a + 1, F, q, h1, h2, h3 => t a F q h1 h2 h3
theorem okTX9_demandArgument {l : Launch} {dC : Nat → ClassId} {dI ad : Nat → Nat → Nat} {cy : Nat → ClassId} (htr : l.stackTraces = false) : am_OkT l dC dI ad cy yX9_demandArgument (.code yX9_demandArgument cX9_demandArgument 1 none) rmX9_demandArgument fX9_demandArgument :=
  am_demT (E := "java/lang/IllegalArgumentException") (ik := 421) (ic := 423) htr (by decide) rfl (by decide) (by decide +kernel) (by decide +kernel) (by decide +kernel) (by decide +kernel) (by decide +kernel) (by decide +kernel) (by decide +kernel) (am_inU 612 (by decide +kernel) (by decide +kernel)) (am_inU 70 (by decide +kernel) (by decide +kernel)) (am_split (by decide +kernel)) (by decide +kernel) (by decide) (by decide) (fun av M E2 M2 h => by
    unfold fX9_demandArgument at h
    split at h
    · split at h
      · rename_i hx
        cases h
        rw [hx]
        exact ⟨rfl, rfl, rfl⟩
      · cases h
    · cases h)
theorem calTX9_demandArgument {l : Launch} {dC : Nat → ClassId} {dI ad : Nat → Nat → Nat} {cy : Nat → ClassId} {R : Room} (htr : l.stackTraces = false) (h1 : rmX9_demandArgument.frames + 1 ≤ R.frames) (h2 : 8 + (1 + 11) + rmX9_demandArgument.locals ≤ R.locals) : am_CalT l dC dI ad cy R cqX9_demandArgument fX9_demandArgument :=
  ⟨okTX9_demandArgument htr, am_inU 611 (by decide +kernel) (by decide +kernel), h1, h2, ⟨by decide, by decide, by decide +kernel⟩, trivial, _, _, rfl⟩
theorem okTX9_demandState {l : Launch} {dC : Nat → ClassId} {dI ad : Nat → Nat → Nat} {cy : Nat → ClassId} (htr : l.stackTraces = false) : am_OkT l dC dI ad cy yX9_demandState (.code yX9_demandState cX9_demandState 1 none) rmX9_demandState fX9_demandState :=
  am_demT (E := "java/lang/IllegalStateException") (ik := 424) (ic := 426) htr (by decide) rfl (by decide) (by decide +kernel) (by decide +kernel) (by decide +kernel) (by decide +kernel) (by decide +kernel) (by decide +kernel) (by decide +kernel) (am_inU 687 (by decide +kernel) (by decide +kernel)) (am_inU 71 (by decide +kernel) (by decide +kernel)) (am_split (by decide +kernel)) (by decide +kernel) (by decide) (by decide) (fun av M E2 M2 h => by
    unfold fX9_demandState at h
    split at h
    · split at h
      · rename_i hx
        cases h
        rw [hx]
        exact ⟨rfl, rfl, rfl⟩
      · cases h
    · cases h)
theorem calTX9_demandState {l : Launch} {dC : Nat → ClassId} {dI ad : Nat → Nat → Nat} {cy : Nat → ClassId} {R : Room} (htr : l.stackTraces = false) (h1 : rmX9_demandState.frames + 1 ≤ R.frames) (h2 : 8 + (1 + 11) + rmX9_demandState.locals ≤ R.locals) : am_CalT l dC dI ad cy R cqX9_demandState fX9_demandState :=
  ⟨okTX9_demandState htr, am_inU 686 (by decide +kernel) (by decide +kernel), h1, h2, ⟨by decide, by decide, by decide +kernel⟩, trivial, _, _, rfl⟩
theorem okTX9_demandElement {l : Launch} {dC : Nat → ClassId} {dI ad : Nat → Nat → Nat} {cy : Nat → ClassId} (htr : l.stackTraces = false) : am_OkT l dC dI ad cy yX9_demandElement (.code yX9_demandElement cX9_demandElement 1 none) rmX9_demandElement fX9_demandElement :=
  am_demT (E := "java/util/NoSuchElementException") (ik := 427) (ic := 429) htr (by decide) rfl (by decide) (by decide +kernel) (by decide +kernel) (by decide +kernel) (by decide +kernel) (by decide +kernel) (by decide +kernel) (by decide +kernel) (am_inU 789 (by decide +kernel) (by decide +kernel)) (am_inU 72 (by decide +kernel) (by decide +kernel)) (am_split (by decide +kernel)) (by decide +kernel) (by decide) (by decide) (fun av M E2 M2 h => by
    unfold fX9_demandElement at h
    split at h
    · split at h
      · rename_i hx
        cases h
        rw [hx]
        exact ⟨rfl, rfl, rfl⟩
      · cases h
    · cases h)
theorem calTX9_demandElement {l : Launch} {dC : Nat → ClassId} {dI ad : Nat → Nat → Nat} {cy : Nat → ClassId} {R : Room} (htr : l.stackTraces = false) (h1 : rmX9_demandElement.frames + 1 ≤ R.frames) (h2 : 8 + (1 + 11) + rmX9_demandElement.locals ≤ R.locals) : am_CalT l dC dI ad cy R cqX9_demandElement fX9_demandElement :=
  ⟨okTX9_demandElement htr, am_inU 788 (by decide +kernel) (by decide +kernel), h1, h2, ⟨by decide, by decide, by decide +kernel⟩, trivial, _, _, rfl⟩
theorem okTX9_demandIndex {l : Launch} {dC : Nat → ClassId} {dI ad : Nat → Nat → Nat} {cy : Nat → ClassId} (htr : l.stackTraces = false) : am_OkT l dC dI ad cy yX9_demandIndex (.code yX9_demandIndex cX9_demandIndex 1 none) rmX9_demandIndex fX9_demandIndex :=
  am_demT (E := "java/lang/IndexOutOfBoundsException") (ik := 430) (ic := 432) htr (by decide) rfl (by decide) (by decide +kernel) (by decide +kernel) (by decide +kernel) (by decide +kernel) (by decide +kernel) (by decide +kernel) (by decide +kernel) (am_inU 898 (by decide +kernel) (by decide +kernel)) (am_inU 74 (by decide +kernel) (by decide +kernel)) (am_split (by decide +kernel)) (by decide +kernel) (by decide) (by decide) (fun av M E2 M2 h => by
    unfold fX9_demandIndex at h
    split at h
    · split at h
      · rename_i hx
        cases h
        rw [hx]
        exact ⟨rfl, rfl, rfl⟩
      · cases h
    · cases h)
theorem calTX9_demandIndex {l : Launch} {dC : Nat → ClassId} {dI ad : Nat → Nat → Nat} {cy : Nat → ClassId} {R : Room} (htr : l.stackTraces = false) (h1 : rmX9_demandIndex.frames + 1 ≤ R.frames) (h2 : 8 + (1 + 11) + rmX9_demandIndex.locals ≤ R.locals) : am_CalT l dC dI ad cy R cqX9_demandIndex fX9_demandIndex :=
  ⟨okTX9_demandIndex htr, am_inU 897 (by decide +kernel) (by decide +kernel), h1, h2, ⟨by decide, by decide, by decide +kernel⟩, trivial, _, _, rfl⟩
theorem okTX9_define {l : Launch} {dC : Nat → ClassId} {dI ad : Nat → Nat → Nat} {cy : Nat → ClassId} (htr : l.stackTraces = false) : am_OkT l dC dI ad cy yX9_define (.code yX9_define cX9_define 5 none) rmX9_define fX9_define :=
  am_meth_okT (ci := [cqX9_isWithin, cqX6_accepts, cqX9_demandArgument, cqX9_isOrdered, cqX9_demandState]) (by decide) rfl (am_rows_of (by decide +kernel) (am_words_of [380, 56, 379, 603, 59, 602, 610, 56, 609, 676, 678, 19, 56, 685, 56, 684, 311, 164, 170] (by decide +kernel) (by decide +kernel))) (am_cs_cons (calX9_isWithin (by decide) (by decide)) (am_cs_cons (calX6_accepts (by decide) (by decide)) (am_cs_cons (calX9_demandArgument (by decide) (by decide)) (am_cs_cons (calX9_isOrdered (by decide) (by decide)) (am_cs_cons (calX9_demandState (by decide) (by decide)) am_cs_nil))))) (am_cT_nt ntX9_isWithin (am_cT_nt ntX6_accepts (am_cT_T (Or.inl rfl) (calTX9_demandArgument htr (by decide) (by decide)) (am_cT_nt ntX9_isOrdered (am_cT_T (Or.inl rfl) (calTX9_demandState htr (by decide) (by decide)) am_cT_nil))))) (am_cv_of (by decide +kernel))
theorem calTX9_define {l : Launch} {dC : Nat → ClassId} {dI ad : Nat → Nat → Nat} {cy : Nat → ClassId} {R : Room} (htr : l.stackTraces = false) (h1 : rmX9_define.frames + 1 ≤ R.frames) (h2 : 8 + (5 + 11) + rmX9_define.locals ≤ R.locals) : am_CalT l dC dI ad cy R cqX9_define fX9_define :=
  ⟨okTX9_define htr, am_inU 601 (by decide +kernel) (by decide +kernel), h1, h2, ⟨by decide, by decide, by decide +kernel⟩, ⟨by decide, rfl⟩, _, _, rfl⟩
theorem okTX9_curve {l : Launch} {dC : Nat → ClassId} {dI ad : Nat → Nat → Nat} {cy : Nat → ClassId} (htr : l.stackTraces = false) : am_OkT l dC dI ad cy yX9_curve (.code yX9_curve cX9_curve 5 (some .int)) rmX9_curve fX9_curve :=
  am_meth_okT (ci := [cqX9_isWithin, cqX0_accepts, cqX9_demandArgument, cqX9_isOrdered, cqX0_takes, cqX9_demandState, cqX0_add]) (by decide) rfl (am_rows_of (by decide +kernel) (am_words_of [380, 56, 379, 710, 60, 709, 710, 60, 709, 610, 56, 609, 311, 676, 678, 19, 56, 166, 715, 716, 717, 60, 685, 56, 684, 166, 719, 720, 721, 60, 170, 166, 141] (by decide +kernel) (by decide +kernel))) (am_cs_cons (calX9_isWithin (by decide) (by decide)) (am_cs_cons (calX0_accepts (by decide) (by decide)) (am_cs_cons (calX9_demandArgument (by decide) (by decide)) (am_cs_cons (calX9_isOrdered (by decide) (by decide)) (am_cs_cons (calX0_takes (by decide) (by decide)) (am_cs_cons (calX9_demandState (by decide) (by decide)) (am_cs_cons (calX0_add (by decide) (by decide)) am_cs_nil))))))) (am_cT_nt ntX9_isWithin (am_cT_nt ntX0_accepts (am_cT_T (Or.inl rfl) (calTX9_demandArgument htr (by decide) (by decide)) (am_cT_nt ntX9_isOrdered (am_cT_nt ntX0_takes (am_cT_T (Or.inl rfl) (calTX9_demandState htr (by decide) (by decide)) (am_cT_nt ntX0_add am_cT_nil))))))) (am_cv_of (by decide +kernel))
theorem calTX9_curve {l : Launch} {dC : Nat → ClassId} {dI ad : Nat → Nat → Nat} {cy : Nat → ClassId} {R : Room} (htr : l.stackTraces = false) (h1 : rmX9_curve.frames + 1 ≤ R.frames) (h2 : 8 + (5 + 11) + rmX9_curve.locals ≤ R.locals) : am_CalT l dC dI ad cy R cqX9_curve fX9_curve :=
  ⟨okTX9_curve htr, am_inU 708 (by decide +kernel) (by decide +kernel), h1, h2, ⟨by decide, by decide, by decide +kernel⟩, ⟨by decide, rfl⟩, _, _, rfl⟩
theorem okTX9_seal {l : Launch} {dC : Nat → ClassId} {dI ad : Nat → Nat → Nat} {cy : Nat → ClassId} (htr : l.stackTraces = false) : am_OkT l dC dI ad cy yX9_seal (.code yX9_seal cX9_seal 3 (some .boolean)) rmX9_seal fX9_seal :=
  am_meth_okT (ci := [cqX9_isWithin, cqX9_demandArgument, cqX6_isComplete]) (by decide) rfl (am_rows_of (by decide +kernel) (am_words_of [380, 56, 379, 610, 56, 609, 311, 730, 731, 732, 59, 170, 170] (by decide +kernel) (by decide +kernel))) (am_cs_cons (calX9_isWithin (by decide) (by decide)) (am_cs_cons (calX9_demandArgument (by decide) (by decide)) (am_cs_cons (calX6_isComplete (by decide) (by decide)) am_cs_nil))) (am_cT_nt ntX9_isWithin (am_cT_T (Or.inl rfl) (calTX9_demandArgument htr (by decide) (by decide)) (am_cT_nt ntX6_isComplete am_cT_nil))) (am_cv_of (by decide +kernel))
theorem calTX9_seal {l : Launch} {dC : Nat → ClassId} {dI ad : Nat → Nat → Nat} {cy : Nat → ClassId} {R : Room} (htr : l.stackTraces = false) (h1 : rmX9_seal.frames + 1 ≤ R.frames) (h2 : 8 + (3 + 11) + rmX9_seal.locals ≤ R.locals) : am_CalT l dC dI ad cy R cqX9_seal fX9_seal :=
  ⟨okTX9_seal htr, am_inU 729 (by decide +kernel) (by decide +kernel), h1, h2, ⟨by decide, by decide, by decide +kernel⟩, ⟨by decide, rfl⟩, _, _, rfl⟩
theorem okTX9_rack {l : Launch} {dC : Nat → ClassId} {dI ad : Nat → Nat → Nat} {cy : Nat → ClassId} (htr : l.stackTraces = false) : am_OkT l dC dI ad cy yX9_rack (.code yX9_rack cX9_rack 5 none) rmX9_rack fX9_rack :=
  am_meth_okT (ci := [cqX9_isWithin, cqX9_demandArgument, cqX8_isEmpty, cqX9_slotOf, cqX9_demandState, cqX8_fill]) (by decide) rfl (am_rows_of (by decide +kernel) (am_words_of [380, 56, 379, 768, 380, 56, 379, 610, 56, 609, 380, 56, 379, 769, 380, 56, 379, 610, 56, 609, 312, 770, 771, 772, 62, 516, 518, 11, 56, 685, 56, 684, 312, 774, 775, 776, 62] (by decide +kernel) (by decide +kernel))) (am_cs_cons (calX9_isWithin (by decide) (by decide)) (am_cs_cons (calX9_demandArgument (by decide) (by decide)) (am_cs_cons (calX8_isEmpty (by decide) (by decide)) (am_cs_cons (calX9_slotOf (by decide) (by decide)) (am_cs_cons (calX9_demandState (by decide) (by decide)) (am_cs_cons (calX8_fill (by decide) (by decide)) am_cs_nil)))))) (am_cT_nt ntX9_isWithin (am_cT_T (Or.inl rfl) (calTX9_demandArgument htr (by decide) (by decide)) (am_cT_nt ntX8_isEmpty (am_cT_nt ntX9_slotOf (am_cT_T (Or.inl rfl) (calTX9_demandState htr (by decide) (by decide)) (am_cT_nt ntX8_fill am_cT_nil)))))) (am_cv_of (by decide +kernel))
theorem calTX9_rack {l : Launch} {dC : Nat → ClassId} {dI ad : Nat → Nat → Nat} {cy : Nat → ClassId} {R : Room} (htr : l.stackTraces = false) (h1 : rmX9_rack.frames + 1 ≤ R.frames) (h2 : 8 + (5 + 11) + rmX9_rack.locals ≤ R.locals) : am_CalT l dC dI ad cy R cqX9_rack fX9_rack :=
  ⟨okTX9_rack htr, am_inU 767 (by decide +kernel) (by decide +kernel), h1, h2, ⟨by decide, by decide, by decide +kernel⟩, ⟨by decide, rfl⟩, _, _, rfl⟩
theorem okTX9_removeRack {l : Launch} {dC : Nat → ClassId} {dI ad : Nat → Nat → Nat} {cy : Nat → ClassId} (htr : l.stackTraces = false) : am_OkT l dC dI ad cy yX9_removeRack (.code yX9_removeRack cX9_removeRack 2 (some .int)) rmX9_removeRack fX9_removeRack :=
  am_meth_okT (ci := [cqX9_isWithin, cqX9_demandArgument, cqX8_isEmpty, cqX9_demandElement, cqX9_isAwaited, cqX9_demandState]) (by decide) rfl (am_rows_of (by decide +kernel) (am_words_of [380, 56, 379, 610, 56, 609, 312, 770, 771, 772, 62, 787, 56, 786, 312, 186, 804, 806, 25, 56, 685, 56, 684, 312, 186, 312, 190] (by decide +kernel) (by decide +kernel))) (am_cs_cons (calX9_isWithin (by decide) (by decide)) (am_cs_cons (calX9_demandArgument (by decide) (by decide)) (am_cs_cons (calX8_isEmpty (by decide) (by decide)) (am_cs_cons (calX9_demandElement (by decide) (by decide)) (am_cs_cons (calX9_isAwaited (by decide) (by decide)) (am_cs_cons (calX9_demandState (by decide) (by decide)) am_cs_nil)))))) (am_cT_nt ntX9_isWithin (am_cT_T (Or.inl rfl) (calTX9_demandArgument htr (by decide) (by decide)) (am_cT_nt ntX8_isEmpty (am_cT_T (Or.inl rfl) (calTX9_demandElement htr (by decide) (by decide)) (am_cT_nt ntX9_isAwaited (am_cT_T (Or.inl rfl) (calTX9_demandState htr (by decide) (by decide)) am_cT_nil)))))) (am_cv_of (by decide +kernel))
theorem calTX9_removeRack {l : Launch} {dC : Nat → ClassId} {dI ad : Nat → Nat → Nat} {cy : Nat → ClassId} {R : Room} (htr : l.stackTraces = false) (h1 : rmX9_removeRack.frames + 1 ≤ R.frames) (h2 : 8 + (2 + 11) + rmX9_removeRack.locals ≤ R.locals) : am_CalT l dC dI ad cy R cqX9_removeRack fX9_removeRack :=
  ⟨okTX9_removeRack htr, am_inU 785 (by decide +kernel) (by decide +kernel), h1, h2, ⟨by decide, by decide, by decide +kernel⟩, ⟨by decide, rfl⟩, _, _, rfl⟩
theorem okTX9_reagent {l : Launch} {dC : Nat → ClassId} {dI ad : Nat → Nat → Nat} {cy : Nat → ClassId} (htr : l.stackTraces = false) : am_OkT l dC dI ad cy yX9_reagent (.code yX9_reagent cX9_reagent 5 none) rmX9_reagent fX9_reagent :=
  am_meth_okT (ci := [cqX9_isWithin, cqX9_demandArgument, cqX9_demandState, cqX5_fill]) (by decide) rfl (am_rows_of (by decide +kernel) (am_words_of [380, 56, 379, 380, 56, 379, 610, 56, 609, 769, 380, 56, 379, 610, 56, 609, 313, 207, 685, 56, 684, 313, 815, 816, 817, 63] (by decide +kernel) (by decide +kernel))) (am_cs_cons (calX9_isWithin (by decide) (by decide)) (am_cs_cons (calX9_demandArgument (by decide) (by decide)) (am_cs_cons (calX9_demandState (by decide) (by decide)) (am_cs_cons (calX5_fill (by decide) (by decide)) am_cs_nil)))) (am_cT_nt ntX9_isWithin (am_cT_T (Or.inl rfl) (calTX9_demandArgument htr (by decide) (by decide)) (am_cT_T (Or.inl rfl) (calTX9_demandState htr (by decide) (by decide)) (am_cT_nt ntX5_fill am_cT_nil)))) (am_cv_of (by decide +kernel))
theorem calTX9_reagent {l : Launch} {dC : Nat → ClassId} {dI ad : Nat → Nat → Nat} {cy : Nat → ClassId} {R : Room} (htr : l.stackTraces = false) (h1 : rmX9_reagent.frames + 1 ≤ R.frames) (h2 : 8 + (5 + 11) + rmX9_reagent.locals ≤ R.locals) : am_CalT l dC dI ad cy R cqX9_reagent fX9_reagent :=
  ⟨okTX9_reagent htr, am_inU 814 (by decide +kernel) (by decide +kernel), h1, h2, ⟨by decide, by decide, by decide +kernel⟩, ⟨by decide, rfl⟩, _, _, rfl⟩
theorem okTX9_forbid {l : Launch} {dC : Nat → ClassId} {dI ad : Nat → Nat → Nat} {cy : Nat → ClassId} (htr : l.stackTraces = false) : am_OkT l dC dI ad cy yX9_forbid (.code yX9_forbid cX9_forbid 3 (some .boolean)) rmX9_forbid fX9_forbid :=
  am_meth_okT (ci := [cqX9_isWithin, cqX9_demandArgument, cqX7_turnSuccession]) (by decide) rfl (am_rows_of (by decide +kernel) (am_words_of [380, 56, 379, 380, 56, 379, 610, 56, 609, 316, 826, 827, 828, 57] (by decide +kernel) (by decide +kernel))) (am_cs_cons (calX9_isWithin (by decide) (by decide)) (am_cs_cons (calX9_demandArgument (by decide) (by decide)) (am_cs_cons (calX7_turnSuccession (by decide) (by decide)) am_cs_nil))) (am_cT_nt ntX9_isWithin (am_cT_T (Or.inl rfl) (calTX9_demandArgument htr (by decide) (by decide)) (am_cT_nt ntX7_turnSuccession am_cT_nil))) (am_cv_of (by decide +kernel))
theorem calTX9_forbid {l : Launch} {dC : Nat → ClassId} {dI ad : Nat → Nat → Nat} {cy : Nat → ClassId} {R : Room} (htr : l.stackTraces = false) (h1 : rmX9_forbid.frames + 1 ≤ R.frames) (h2 : 8 + (3 + 11) + rmX9_forbid.locals ≤ R.locals) : am_CalT l dC dI ad cy R cqX9_forbid fX9_forbid :=
  ⟨okTX9_forbid htr, am_inU 825 (by decide +kernel) (by decide +kernel), h1, h2, ⟨by decide, by decide, by decide +kernel⟩, ⟨by decide, rfl⟩, _, _, rfl⟩
theorem okTX9_order {l : Launch} {dC : Nat → ClassId} {dI ad : Nat → Nat → Nat} {cy : Nat → ClassId} (htr : l.stackTraces = false) : am_OkT l dC dI ad cy yX9_order (.code yX9_order cX9_order 5 (some .int)) rmX9_order fX9_order :=
  am_meth_okT (ci := [cqX9_isWithin, cqX9_demandArgument, cqX9_demandState, cqX4_place]) (by decide) rfl (am_rows_of (by decide +kernel) (am_words_of [768, 380, 56, 379, 380, 56, 379, 610, 56, 609, 311, 170, 318, 685, 56, 684, 318, 315, 837, 838, 839, 65, 318] (by decide +kernel) (by decide +kernel))) (am_cs_cons (calX9_isWithin (by decide) (by decide)) (am_cs_cons (calX9_demandArgument (by decide) (by decide)) (am_cs_cons (calX9_demandState (by decide) (by decide)) (am_cs_cons (calX4_place (by decide) (by decide)) am_cs_nil)))) (am_cT_nt ntX9_isWithin (am_cT_T (Or.inl rfl) (calTX9_demandArgument htr (by decide) (by decide)) (am_cT_T (Or.inl rfl) (calTX9_demandState htr (by decide) (by decide)) (am_cT_nt ntX4_place am_cT_nil)))) (am_cv_of (by decide +kernel))
theorem calTX9_order {l : Launch} {dC : Nat → ClassId} {dI ad : Nat → Nat → Nat} {cy : Nat → ClassId} {R : Room} (htr : l.stackTraces = false) (h1 : rmX9_order.frames + 1 ≤ R.frames) (h2 : 8 + (5 + 11) + rmX9_order.locals ≤ R.locals) : am_CalT l dC dI ad cy R cqX9_order fX9_order :=
  ⟨okTX9_order htr, am_inU 836 (by decide +kernel) (by decide +kernel), h1, h2, ⟨by decide, by decide, by decide +kernel⟩, ⟨by decide, rfl⟩, _, _, rfl⟩
theorem okTX9_clock {l : Launch} {dC : Nat → ClassId} {dI ad : Nat → Nat → Nat} {cy : Nat → ClassId} (htr : l.stackTraces = false) : am_OkT l dC dI ad cy yX9_clock (.code yX9_clock cX9_clock 2 none) rmX9_clock fX9_clock :=
  am_meth_okT (ci := [cqX9_demandArgument]) (by decide) rfl (am_rows_of (by decide +kernel) (am_words_of [319, 610, 56, 609, 319] (by decide +kernel) (by decide +kernel))) (am_cs_cons (calX9_demandArgument (by decide) (by decide)) am_cs_nil) (am_cT_T (Or.inl rfl) (calTX9_demandArgument htr (by decide) (by decide)) am_cT_nil) (am_cv_of (by decide +kernel))
theorem calTX9_clock {l : Launch} {dC : Nat → ClassId} {dI ad : Nat → Nat → Nat} {cy : Nat → ClassId} {R : Room} (htr : l.stackTraces = false) (h1 : rmX9_clock.frames + 1 ≤ R.frames) (h2 : 8 + (2 + 11) + rmX9_clock.locals ≤ R.locals) : am_CalT l dC dI ad cy R cqX9_clock fX9_clock :=
  ⟨okTX9_clock htr, am_inU 847 (by decide +kernel) (by decide +kernel), h1, h2, ⟨by decide, by decide, by decide +kernel⟩, ⟨by decide, rfl⟩, _, _, rfl⟩
theorem okTX9_light {l : Launch} {dC : Nat → ClassId} {dI ad : Nat → Nat → Nat} {cy : Nat → ClassId} (htr : l.stackTraces = false) : am_OkT l dC dI ad cy yX9_light (.code yX9_light cX9_light 2 none) rmX9_light fX9_light :=
  am_meth_okT (ci := [cqX9_isWithin, cqX9_demandArgument]) (by decide) rfl (am_rows_of (by decide +kernel) (am_words_of [126, 380, 56, 379, 610, 56, 609, 320] (by decide +kernel) (by decide +kernel))) (am_cs_cons (calX9_isWithin (by decide) (by decide)) (am_cs_cons (calX9_demandArgument (by decide) (by decide)) am_cs_nil)) (am_cT_nt ntX9_isWithin (am_cT_T (Or.inl rfl) (calTX9_demandArgument htr (by decide) (by decide)) am_cT_nil)) (am_cv_of (by decide +kernel))
theorem calTX9_light {l : Launch} {dC : Nat → ClassId} {dI ad : Nat → Nat → Nat} {cy : Nat → ClassId} {R : Room} (htr : l.stackTraces = false) (h1 : rmX9_light.frames + 1 ≤ R.frames) (h2 : 8 + (2 + 11) + rmX9_light.locals ≤ R.locals) : am_CalT l dC dI ad cy R cqX9_light fX9_light :=
  ⟨okTX9_light htr, am_inU 854 (by decide +kernel) (by decide +kernel), h1, h2, ⟨by decide, by decide, by decide +kernel⟩, ⟨by decide, rfl⟩, _, _, rfl⟩
theorem okTX9_spoil {l : Launch} {dC : Nat → ClassId} {dI ad : Nat → Nat → Nat} {cy : Nat → ClassId} (htr : l.stackTraces = false) : am_OkT l dC dI ad cy yX9_spoil (.code yX9_spoil cX9_spoil 2 none) rmX9_spoil fX9_spoil :=
  am_meth_okT (ci := [cqX9_isWithin, cqX9_demandArgument]) (by decide) rfl (am_rows_of (by decide +kernel) (am_words_of [380, 56, 379, 610, 56, 609, 321, 322] (by decide +kernel) (by decide +kernel))) (am_cs_cons (calX9_isWithin (by decide) (by decide)) (am_cs_cons (calX9_demandArgument (by decide) (by decide)) am_cs_nil)) (am_cT_nt ntX9_isWithin (am_cT_T (Or.inl rfl) (calTX9_demandArgument htr (by decide) (by decide)) am_cT_nil)) (am_cv_of (by decide +kernel))
theorem calTX9_spoil {l : Launch} {dC : Nat → ClassId} {dI ad : Nat → Nat → Nat} {cy : Nat → ClassId} {R : Room} (htr : l.stackTraces = false) (h1 : rmX9_spoil.frames + 1 ≤ R.frames) (h2 : 8 + (2 + 11) + rmX9_spoil.locals ≤ R.locals) : am_CalT l dC dI ad cy R cqX9_spoil fX9_spoil :=
  ⟨okTX9_spoil htr, am_inU 861 (by decide +kernel) (by decide +kernel), h1, h2, ⟨by decide, by decide, by decide +kernel⟩, ⟨by decide, rfl⟩, _, _, rfl⟩
theorem okTX9_state {l : Launch} {dC : Nat → ClassId} {dI ad : Nat → Nat → Nat} {cy : Nat → ClassId} (htr : l.stackTraces = false) : am_OkT l dC dI ad cy yX9_state (.code yX9_state cX9_state 5 (some .int)) rmX9_state fX9_state :=
  am_meth_okT (ci := [cqX9_isWithin, cqX9_demandArgument, cqX9_cuvetteOf]) (by decide) rfl (am_rows_of (by decide +kernel) (am_words_of [318, 380, 56, 379, 380, 56, 379, 610, 56, 609, 315, 420, 422, 6, 56, 277, 279, 281, 285, 239, 287, 289] (by decide +kernel) (by decide +kernel))) (am_cs_cons (calX9_isWithin (by decide) (by decide)) (am_cs_cons (calX9_demandArgument (by decide) (by decide)) (am_cs_cons (calX9_cuvetteOf (by decide) (by decide)) am_cs_nil))) (am_cT_nt ntX9_isWithin (am_cT_T (Or.inl rfl) (calTX9_demandArgument htr (by decide) (by decide)) (am_cT_nt ntX9_cuvetteOf am_cT_nil))) (am_cv_of (by decide +kernel))
theorem calTX9_state {l : Launch} {dC : Nat → ClassId} {dI ad : Nat → Nat → Nat} {cy : Nat → ClassId} {R : Room} (htr : l.stackTraces = false) (h1 : rmX9_state.frames + 1 ≤ R.frames) (h2 : 8 + (5 + 11) + rmX9_state.locals ≤ R.locals) : am_CalT l dC dI ad cy R cqX9_state fX9_state :=
  ⟨okTX9_state htr, am_inU 868 (by decide +kernel) (by decide +kernel), h1, h2, ⟨by decide, by decide, by decide +kernel⟩, ⟨by decide, rfl⟩, _, _, rfl⟩
theorem okTX9_cuvette {l : Launch} {dC : Nat → ClassId} {dI ad : Nat → Nat → Nat} {cy : Nat → ClassId} (htr : l.stackTraces = false) : am_OkT l dC dI ad cy yX9_cuvette (.code yX9_cuvette cX9_cuvette 4 (some .int)) rmX9_cuvette fX9_cuvette :=
  am_meth_okT (ci := [cqX9_isWithin, cqX9_demandArgument]) (by decide) rfl (am_rows_of (by decide +kernel) (am_words_of [380, 56, 379, 380, 56, 379, 610, 56, 609, 314, 235, 241, 243] (by decide +kernel) (by decide +kernel))) (am_cs_cons (calX9_isWithin (by decide) (by decide)) (am_cs_cons (calX9_demandArgument (by decide) (by decide)) am_cs_nil)) (am_cT_nt ntX9_isWithin (am_cT_T (Or.inl rfl) (calTX9_demandArgument htr (by decide) (by decide)) am_cT_nil)) (am_cv_of (by decide +kernel))
theorem calTX9_cuvette {l : Launch} {dC : Nat → ClassId} {dI ad : Nat → Nat → Nat} {cy : Nat → ClassId} {R : Room} (htr : l.stackTraces = false) (h1 : rmX9_cuvette.frames + 1 ≤ R.frames) (h2 : 8 + (4 + 11) + rmX9_cuvette.locals ≤ R.locals) : am_CalT l dC dI ad cy R cqX9_cuvette fX9_cuvette :=
  ⟨okTX9_cuvette htr, am_inU 875 (by decide +kernel) (by decide +kernel), h1, h2, ⟨by decide, by decide, by decide +kernel⟩, ⟨by decide, rfl⟩, _, _, rfl⟩
theorem okTX9_volume {l : Launch} {dC : Nat → ClassId} {dI ad : Nat → Nat → Nat} {cy : Nat → ClassId} (htr : l.stackTraces = false) : am_OkT l dC dI ad cy yX9_volume (.code yX9_volume cX9_volume 3 (some .int)) rmX9_volume fX9_volume :=
  am_meth_okT (ci := [cqX9_isWithin, cqX9_demandArgument, cqX8_isEmpty, cqX9_demandElement, cqX5_isEmpty]) (by decide) rfl (am_rows_of (by decide +kernel) (am_words_of [380, 56, 379, 380, 56, 379, 610, 56, 609, 312, 770, 771, 772, 62, 787, 56, 786, 312, 190, 313, 883, 884, 885, 63, 787, 56, 786, 313, 205, 313, 207] (by decide +kernel) (by decide +kernel))) (am_cs_cons (calX9_isWithin (by decide) (by decide)) (am_cs_cons (calX9_demandArgument (by decide) (by decide)) (am_cs_cons (calX8_isEmpty (by decide) (by decide)) (am_cs_cons (calX9_demandElement (by decide) (by decide)) (am_cs_cons (calX5_isEmpty (by decide) (by decide)) am_cs_nil))))) (am_cT_nt ntX9_isWithin (am_cT_T (Or.inl rfl) (calTX9_demandArgument htr (by decide) (by decide)) (am_cT_nt ntX8_isEmpty (am_cT_T (Or.inl rfl) (calTX9_demandElement htr (by decide) (by decide)) (am_cT_nt ntX5_isEmpty am_cT_nil))))) (am_cv_of (by decide +kernel))
theorem calTX9_volume {l : Launch} {dC : Nat → ClassId} {dI ad : Nat → Nat → Nat} {cy : Nat → ClassId} {R : Room} (htr : l.stackTraces = false) (h1 : rmX9_volume.frames + 1 ≤ R.frames) (h2 : 8 + (3 + 11) + rmX9_volume.locals ≤ R.locals) : am_CalT l dC dI ad cy R cqX9_volume fX9_volume :=
  ⟨okTX9_volume htr, am_inU 882 (by decide +kernel) (by decide +kernel), h1, h2, ⟨by decide, by decide, by decide +kernel⟩, ⟨by decide, rfl⟩, _, _, rfl⟩
theorem okTX9_trend {l : Launch} {dC : Nat → ClassId} {dI ad : Nat → Nat → Nat} {cy : Nat → ClassId} (htr : l.stackTraces = false) : am_OkT l dC dI ad cy yX9_trend (.code yX9_trend cX9_trend 4 (some .int)) rmX9_trend fX9_trend :=
  am_meth_okT (ci := [cqX9_isWithin, cqX9_demandArgument, cqX9_demandIndex, cqX2_fromLatest]) (by decide) rfl (am_rows_of (by decide +kernel) (am_words_of [380, 56, 379, 610, 56, 609, 311, 168, 157, 380, 56, 379, 896, 56, 895, 913, 914, 915, 61] (by decide +kernel) (by decide +kernel))) (am_cs_cons (calX9_isWithin (by decide) (by decide)) (am_cs_cons (calX9_demandArgument (by decide) (by decide)) (am_cs_cons (calX9_demandIndex (by decide) (by decide)) (am_cs_cons (calX2_fromLatest (by decide) (by decide)) am_cs_nil)))) (am_cT_nt ntX9_isWithin (am_cT_T (Or.inl rfl) (calTX9_demandArgument htr (by decide) (by decide)) (am_cT_T (Or.inl rfl) (calTX9_demandIndex htr (by decide) (by decide)) (am_cT_nt ntX2_fromLatest am_cT_nil)))) (am_cv_of (by decide +kernel))
theorem calTX9_trend {l : Launch} {dC : Nat → ClassId} {dI ad : Nat → Nat → Nat} {cy : Nat → ClassId} {R : Room} (htr : l.stackTraces = false) (h1 : rmX9_trend.frames + 1 ≤ R.frames) (h2 : 8 + (4 + 11) + rmX9_trend.locals ≤ R.locals) : am_CalT l dC dI ad cy R cqX9_trend fX9_trend :=
  ⟨okTX9_trend htr, am_inU 894 (by decide +kernel) (by decide +kernel), h1, h2, ⟨by decide, by decide, by decide +kernel⟩, ⟨by decide, rfl⟩, _, _, rfl⟩
theorem okTX9_rules {l : Launch} {dC : Nat → ClassId} {dI ad : Nat → Nat → Nat} {cy : Nat → ClassId} (htr : l.stackTraces = false) : am_OkT l dC dI ad cy yX9_rules (.code yX9_rules cX9_rules 2 (some .int)) rmX9_rules fX9_rules :=
  am_meth_okT (ci := [cqX9_isWithin, cqX9_demandArgument, cqX6_brokenRules]) (by decide) rfl (am_rows_of (by decide +kernel) (am_words_of [380, 56, 379, 610, 56, 609, 311, 925, 926, 927, 59] (by decide +kernel) (by decide +kernel))) (am_cs_cons (calX9_isWithin (by decide) (by decide)) (am_cs_cons (calX9_demandArgument (by decide) (by decide)) (am_cs_cons (calX6_brokenRules (by decide) (by decide)) am_cs_nil))) (am_cT_nt ntX9_isWithin (am_cT_T (Or.inl rfl) (calTX9_demandArgument htr (by decide) (by decide)) (am_cT_nt ntX6_brokenRules am_cT_nil))) (am_cv_of (by decide +kernel))
theorem calTX9_rules {l : Launch} {dC : Nat → ClassId} {dI ad : Nat → Nat → Nat} {cy : Nat → ClassId} {R : Room} (htr : l.stackTraces = false) (h1 : rmX9_rules.frames + 1 ≤ R.frames) (h2 : 8 + (2 + 11) + rmX9_rules.locals ≤ R.locals) : am_CalT l dC dI ad cy R cqX9_rules fX9_rules :=
  ⟨okTX9_rules htr, am_inU 924 (by decide +kernel) (by decide +kernel), h1, h2, ⟨by decide, by decide, by decide +kernel⟩, ⟨by decide, rfl⟩, _, _, rfl⟩
theorem okTX9_host {l : Launch} {dC : Nat → ClassId} {dI ad : Nat → Nat → Nat} {cy : Nat → ClassId} (htr : l.stackTraces = false) : am_OkT l dC dI ad cy yX9_host (.code yX9_host cX9_host 2 (some .int)) rmX9_host fX9_host :=
  am_meth_okT (ci := [cqX9_isWithin, cqX9_demandIndex]) (by decide) rfl (am_rows_of (by decide +kernel) (am_words_of [317, 120, 380, 56, 379, 896, 56, 895, 317, 118] (by decide +kernel) (by decide +kernel))) (am_cs_cons (calX9_isWithin (by decide) (by decide)) (am_cs_cons (calX9_demandIndex (by decide) (by decide)) am_cs_nil)) (am_cT_nt ntX9_isWithin (am_cT_T (Or.inl rfl) (calTX9_demandIndex htr (by decide) (by decide)) am_cT_nil)) (am_cv_of (by decide +kernel))
theorem calTX9_host {l : Launch} {dC : Nat → ClassId} {dI ad : Nat → Nat → Nat} {cy : Nat → ClassId} {R : Room} (htr : l.stackTraces = false) (h1 : rmX9_host.frames + 1 ≤ R.frames) (h2 : 8 + (2 + 11) + rmX9_host.locals ≤ R.locals) : am_CalT l dC dI ad cy R cqX9_host fX9_host :=
  ⟨okTX9_host htr, am_inU 946 (by decide +kernel) (by decide +kernel), h1, h2, ⟨by decide, by decide, by decide +kernel⟩, ⟨by decide, rfl⟩, _, _, rfl⟩
theorem okTX9_took {l : Launch} {dC : Nat → ClassId} {dI ad : Nat → Nat → Nat} {cy : Nat → ClassId} (htr : l.stackTraces = false) : am_OkT l dC dI ad cy yX9_took (.code yX9_took cX9_took 2 (some .int)) rmX9_took fX9_took :=
  am_meth_okT (ci := [cqX9_isWithin, cqX9_demandArgument, cqX3_dropFirst]) (by decide) rfl (am_rows_of (by decide +kernel) (am_words_of [317, 120, 380, 56, 379, 610, 56, 609, 317, 954, 955, 956, 58, 317, 120] (by decide +kernel) (by decide +kernel))) (am_cs_cons (calX9_isWithin (by decide) (by decide)) (am_cs_cons (calX9_demandArgument (by decide) (by decide)) (am_cs_cons (calX3_dropFirst (by decide) (by decide)) am_cs_nil))) (am_cT_nt ntX9_isWithin (am_cT_T (Or.inl rfl) (calTX9_demandArgument htr (by decide) (by decide)) (am_cT_nt ntX3_dropFirst am_cT_nil))) (am_cv_of (by decide +kernel))
theorem calTX9_took {l : Launch} {dC : Nat → ClassId} {dI ad : Nat → Nat → Nat} {cy : Nat → ClassId} {R : Room} (htr : l.stackTraces = false) (h1 : rmX9_took.frames + 1 ≤ R.frames) (h2 : 8 + (2 + 11) + rmX9_took.locals ≤ R.locals) : am_CalT l dC dI ad cy R cqX9_took fX9_took :=
  ⟨okTX9_took htr, am_inU 953 (by decide +kernel) (by decide +kernel), h1, h2, ⟨by decide, by decide, by decide +kernel⟩, ⟨by decide, rfl⟩, _, _, rfl⟩
theorem am_mc {w : Cond} {L : List Cond} (h : w ∈ am_U) (tl : ∀ x ∈ L, x ∈ am_U) : ∀ x ∈ w :: L, x ∈ am_U := fun x hx => (List.mem_cons.mp hx).elim (fun e => e ▸ h) (tl x)
abbrev rmL_define : Room := { frames := 8, cells := 1, slots := 6, locals := 164 }
def cqL_define : am_C := (yL_define, .codeWith yL_define cL_define 5 (some .int) [(0, 7, 10, 13), (0, 7, 14, 15)], rmL_define, none, 4, 5)
theorem okL_define {l : Launch} {dC : Nat → ClassId} {dI ad : Nat → Nat → Nat} {cy : Nat → ClassId} (htr : l.stackTraces = false) : am_Ok l dC dI ad cy yL_define (.codeWith yL_define cL_define 5 (some .int) [(0, 7, 10, 13), (0, 7, 14, 15)]) rmL_define fL_define :=
  am_wrap_ok (ci := [cqX9_define]) (by decide) ⟨rfl, rfl⟩ (am_rows_of (by decide +kernel) (am_words_of [598, 599, 600, 56] (by decide +kernel) (by decide +kernel))) (am_cs_cons (calX9_define (by decide) (by decide)) am_cs_nil) (am_cT_T (Or.inr rfl) (calTX9_define htr (by decide) (by decide)) am_cT_nil) (am_cv_of (by decide +kernel)) (by decide +kernel) (am_mc (am_inU 596 (by decide +kernel) (by decide +kernel)) (am_mc (am_inU 597 (by decide +kernel) (by decide +kernel)) (fun _ h => nomatch h))) am_castE
theorem calL_define {l : Launch} {dC : Nat → ClassId} {dI ad : Nat → Nat → Nat} {cy : Nat → ClassId} {R : Room} (htr : l.stackTraces = false) (h1 : rmL_define.frames + 1 ≤ R.frames) (h2 : 8 + (5 + 11) + rmL_define.locals ≤ R.locals) : am_Cal l dC dI ad cy R 1 6 cqL_define fL_define :=
  ⟨okL_define htr, am_inU 595 (by decide +kernel) (by decide +kernel), Nat.le_refl _, Nat.le_refl _, h1, h2, ⟨by decide, by decide, by decide +kernel⟩, trivial, Or.inr ⟨rfl, _, _, _, rfl⟩⟩
abbrev rmL_curve : Room := { frames := 8, cells := 1, slots := 6, locals := 164 }
def cqL_curve : am_C := (yL_curve, .codeWith yL_curve cL_curve 6 (some .int) [(0, 12, 15, 13), (0, 12, 19, 15)], rmL_curve, none, 5, 6)
theorem okL_curve {l : Launch} {dC : Nat → ClassId} {dI ad : Nat → Nat → Nat} {cy : Nat → ClassId} (htr : l.stackTraces = false) : am_Ok l dC dI ad cy yL_curve (.codeWith yL_curve cL_curve 6 (some .int) [(0, 12, 15, 13), (0, 12, 19, 15)]) rmL_curve fL_curve :=
  am_wrap_ok (ci := [cqX9_curve]) (by decide) ⟨rfl, rfl⟩ (am_rows_of (by decide +kernel) (am_words_of [705, 706, 707, 56] (by decide +kernel) (by decide +kernel))) (am_cs_cons (calX9_curve (by decide) (by decide)) am_cs_nil) (am_cT_T (Or.inr rfl) (calTX9_curve htr (by decide) (by decide)) am_cT_nil) (am_cv_of (by decide +kernel)) (by decide +kernel) (am_mc (am_inU 596 (by decide +kernel) (by decide +kernel)) (am_mc (am_inU 597 (by decide +kernel) (by decide +kernel)) (fun _ h => nomatch h))) am_castE
theorem calL_curve {l : Launch} {dC : Nat → ClassId} {dI ad : Nat → Nat → Nat} {cy : Nat → ClassId} {R : Room} (htr : l.stackTraces = false) (h1 : rmL_curve.frames + 1 ≤ R.frames) (h2 : 8 + (6 + 11) + rmL_curve.locals ≤ R.locals) : am_Cal l dC dI ad cy R 1 6 cqL_curve fL_curve :=
  ⟨okL_curve htr, am_inU 704 (by decide +kernel) (by decide +kernel), Nat.le_refl _, Nat.le_refl _, h1, h2, ⟨by decide, by decide, by decide +kernel⟩, trivial, Or.inr ⟨rfl, _, _, _, rfl⟩⟩
abbrev rmL_seal : Room := { frames := 8, cells := 1, slots := 6, locals := 162 }
def cqL_seal : am_C := (yL_seal, .codeWith yL_seal cL_seal 4 (some .int) [(0, 16, 19, 13)], rmL_seal, none, 3, 4)
theorem okL_seal {l : Launch} {dC : Nat → ClassId} {dI ad : Nat → Nat → Nat} {cy : Nat → ClassId} (htr : l.stackTraces = false) : am_Ok l dC dI ad cy yL_seal (.codeWith yL_seal cL_seal 4 (some .int) [(0, 16, 19, 13)]) rmL_seal fL_seal :=
  am_wrap_ok (ci := [cqX9_seal]) (by decide) ⟨rfl, rfl⟩ (am_rows_of (by decide +kernel) (am_words_of [726, 727, 728, 56] (by decide +kernel) (by decide +kernel))) (am_cs_cons (calX9_seal (by decide) (by decide)) am_cs_nil) (am_cT_T (Or.inr rfl) (calTX9_seal htr (by decide) (by decide)) am_cT_nil) (am_cv_of (by decide +kernel)) (by decide +kernel) (am_mc (am_inU 596 (by decide +kernel) (by decide +kernel)) (fun _ h => nomatch h)) am_castE
theorem calL_seal {l : Launch} {dC : Nat → ClassId} {dI ad : Nat → Nat → Nat} {cy : Nat → ClassId} {R : Room} (htr : l.stackTraces = false) (h1 : rmL_seal.frames + 1 ≤ R.frames) (h2 : 8 + (4 + 11) + rmL_seal.locals ≤ R.locals) : am_Cal l dC dI ad cy R 1 6 cqL_seal fL_seal :=
  ⟨okL_seal htr, am_inU 725 (by decide +kernel) (by decide +kernel), Nat.le_refl _, Nat.le_refl _, h1, h2, ⟨by decide, by decide, by decide +kernel⟩, trivial, Or.inr ⟨rfl, _, _, _, rfl⟩⟩
abbrev rmL_rack : Room := { frames := 8, cells := 1, slots := 6, locals := 164 }
def cqL_rack : am_C := (yL_rack, .codeWith yL_rack cL_rack 6 (some .int) [(0, 9, 12, 13), (0, 9, 16, 15)], rmL_rack, none, 5, 6)
theorem okL_rack {l : Launch} {dC : Nat → ClassId} {dI ad : Nat → Nat → Nat} {cy : Nat → ClassId} (htr : l.stackTraces = false) : am_Ok l dC dI ad cy yL_rack (.codeWith yL_rack cL_rack 6 (some .int) [(0, 9, 12, 13), (0, 9, 16, 15)]) rmL_rack fL_rack :=
  am_wrap_ok (ci := [cqX9_rack]) (by decide) ⟨rfl, rfl⟩ (am_rows_of (by decide +kernel) (am_words_of [764, 765, 766, 56] (by decide +kernel) (by decide +kernel))) (am_cs_cons (calX9_rack (by decide) (by decide)) am_cs_nil) (am_cT_T (Or.inr rfl) (calTX9_rack htr (by decide) (by decide)) am_cT_nil) (am_cv_of (by decide +kernel)) (by decide +kernel) (am_mc (am_inU 596 (by decide +kernel) (by decide +kernel)) (am_mc (am_inU 597 (by decide +kernel) (by decide +kernel)) (fun _ h => nomatch h))) am_castE
theorem calL_rack {l : Launch} {dC : Nat → ClassId} {dI ad : Nat → Nat → Nat} {cy : Nat → ClassId} {R : Room} (htr : l.stackTraces = false) (h1 : rmL_rack.frames + 1 ≤ R.frames) (h2 : 8 + (6 + 11) + rmL_rack.locals ≤ R.locals) : am_Cal l dC dI ad cy R 1 6 cqL_rack fL_rack :=
  ⟨okL_rack htr, am_inU 763 (by decide +kernel) (by decide +kernel), Nat.le_refl _, Nat.le_refl _, h1, h2, ⟨by decide, by decide, by decide +kernel⟩, trivial, Or.inr ⟨rfl, _, _, _, rfl⟩⟩
abbrev rmL_removeRack : Room := { frames := 8, cells := 1, slots := 6, locals := 161 }
def cqL_removeRack : am_C := (yL_removeRack, .codeWith yL_removeRack cL_removeRack 4 (some .int) [(0, 9, 12, 13), (0, 9, 15, 33), (0, 9, 18, 15)], rmL_removeRack, none, 3, 4)
theorem okL_removeRack {l : Launch} {dC : Nat → ClassId} {dI ad : Nat → Nat → Nat} {cy : Nat → ClassId} (htr : l.stackTraces = false) : am_Ok l dC dI ad cy yL_removeRack (.codeWith yL_removeRack cL_removeRack 4 (some .int) [(0, 9, 12, 13), (0, 9, 15, 33), (0, 9, 18, 15)]) rmL_removeRack fL_removeRack :=
  am_wrap_ok (ci := [cqX9_removeRack]) (by decide) ⟨rfl, rfl⟩ (am_rows_of (by decide +kernel) (am_words_of [782, 783, 784, 56] (by decide +kernel) (by decide +kernel))) (am_cs_cons (calX9_removeRack (by decide) (by decide)) am_cs_nil) (am_cT_T (Or.inr rfl) (calTX9_removeRack htr (by decide) (by decide)) am_cT_nil) (am_cv_of (by decide +kernel)) (by decide +kernel) (am_mc (am_inU 596 (by decide +kernel) (by decide +kernel)) (am_mc (am_inU 781 (by decide +kernel) (by decide +kernel)) (am_mc (am_inU 597 (by decide +kernel) (by decide +kernel)) (fun _ h => nomatch h)))) am_castE
theorem calL_removeRack {l : Launch} {dC : Nat → ClassId} {dI ad : Nat → Nat → Nat} {cy : Nat → ClassId} {R : Room} (htr : l.stackTraces = false) (h1 : rmL_removeRack.frames + 1 ≤ R.frames) (h2 : 8 + (4 + 11) + rmL_removeRack.locals ≤ R.locals) : am_Cal l dC dI ad cy R 1 6 cqL_removeRack fL_removeRack :=
  ⟨okL_removeRack htr, am_inU 780 (by decide +kernel) (by decide +kernel), Nat.le_refl _, Nat.le_refl _, h1, h2, ⟨by decide, by decide, by decide +kernel⟩, trivial, Or.inr ⟨rfl, _, _, _, rfl⟩⟩
abbrev rmL_reagent : Room := { frames := 8, cells := 1, slots := 6, locals := 164 }
def cqL_reagent : am_C := (yL_reagent, .codeWith yL_reagent cL_reagent 6 (some .int) [(0, 9, 12, 13), (0, 9, 16, 15)], rmL_reagent, none, 5, 6)
theorem okL_reagent {l : Launch} {dC : Nat → ClassId} {dI ad : Nat → Nat → Nat} {cy : Nat → ClassId} (htr : l.stackTraces = false) : am_Ok l dC dI ad cy yL_reagent (.codeWith yL_reagent cL_reagent 6 (some .int) [(0, 9, 12, 13), (0, 9, 16, 15)]) rmL_reagent fL_reagent :=
  am_wrap_ok (ci := [cqX9_reagent]) (by decide) ⟨rfl, rfl⟩ (am_rows_of (by decide +kernel) (am_words_of [811, 812, 813, 56] (by decide +kernel) (by decide +kernel))) (am_cs_cons (calX9_reagent (by decide) (by decide)) am_cs_nil) (am_cT_T (Or.inr rfl) (calTX9_reagent htr (by decide) (by decide)) am_cT_nil) (am_cv_of (by decide +kernel)) (by decide +kernel) (am_mc (am_inU 596 (by decide +kernel) (by decide +kernel)) (am_mc (am_inU 597 (by decide +kernel) (by decide +kernel)) (fun _ h => nomatch h))) am_castE
theorem calL_reagent {l : Launch} {dC : Nat → ClassId} {dI ad : Nat → Nat → Nat} {cy : Nat → ClassId} {R : Room} (htr : l.stackTraces = false) (h1 : rmL_reagent.frames + 1 ≤ R.frames) (h2 : 8 + (6 + 11) + rmL_reagent.locals ≤ R.locals) : am_Cal l dC dI ad cy R 1 6 cqL_reagent fL_reagent :=
  ⟨okL_reagent htr, am_inU 810 (by decide +kernel) (by decide +kernel), Nat.le_refl _, Nat.le_refl _, h1, h2, ⟨by decide, by decide, by decide +kernel⟩, trivial, Or.inr ⟨rfl, _, _, _, rfl⟩⟩
abbrev rmL_forbid : Room := { frames := 8, cells := 1, slots := 6, locals := 162 }
def cqL_forbid : am_C := (yL_forbid, .codeWith yL_forbid cL_forbid 5 (some .int) [(0, 17, 20, 13)], rmL_forbid, none, 4, 5)
theorem okL_forbid {l : Launch} {dC : Nat → ClassId} {dI ad : Nat → Nat → Nat} {cy : Nat → ClassId} (htr : l.stackTraces = false) : am_Ok l dC dI ad cy yL_forbid (.codeWith yL_forbid cL_forbid 5 (some .int) [(0, 17, 20, 13)]) rmL_forbid fL_forbid :=
  am_wrap_ok (ci := [cqX9_forbid]) (by decide) ⟨rfl, rfl⟩ (am_rows_of (by decide +kernel) (am_words_of [822, 823, 824, 56] (by decide +kernel) (by decide +kernel))) (am_cs_cons (calX9_forbid (by decide) (by decide)) am_cs_nil) (am_cT_T (Or.inr rfl) (calTX9_forbid htr (by decide) (by decide)) am_cT_nil) (am_cv_of (by decide +kernel)) (by decide +kernel) (am_mc (am_inU 596 (by decide +kernel) (by decide +kernel)) (fun _ h => nomatch h)) am_castE
theorem calL_forbid {l : Launch} {dC : Nat → ClassId} {dI ad : Nat → Nat → Nat} {cy : Nat → ClassId} {R : Room} (htr : l.stackTraces = false) (h1 : rmL_forbid.frames + 1 ≤ R.frames) (h2 : 8 + (5 + 11) + rmL_forbid.locals ≤ R.locals) : am_Cal l dC dI ad cy R 1 6 cqL_forbid fL_forbid :=
  ⟨okL_forbid htr, am_inU 821 (by decide +kernel) (by decide +kernel), Nat.le_refl _, Nat.le_refl _, h1, h2, ⟨by decide, by decide, by decide +kernel⟩, trivial, Or.inr ⟨rfl, _, _, _, rfl⟩⟩
abbrev rmL_order : Room := { frames := 8, cells := 1, slots := 6, locals := 164 }
def cqL_order : am_C := (yL_order, .codeWith yL_order cL_order 6 (some .int) [(0, 12, 15, 13), (0, 12, 19, 15)], rmL_order, none, 5, 6)
theorem okL_order {l : Launch} {dC : Nat → ClassId} {dI ad : Nat → Nat → Nat} {cy : Nat → ClassId} (htr : l.stackTraces = false) : am_Ok l dC dI ad cy yL_order (.codeWith yL_order cL_order 6 (some .int) [(0, 12, 15, 13), (0, 12, 19, 15)]) rmL_order fL_order :=
  am_wrap_ok (ci := [cqX9_order]) (by decide) ⟨rfl, rfl⟩ (am_rows_of (by decide +kernel) (am_words_of [833, 834, 835, 56] (by decide +kernel) (by decide +kernel))) (am_cs_cons (calX9_order (by decide) (by decide)) am_cs_nil) (am_cT_T (Or.inr rfl) (calTX9_order htr (by decide) (by decide)) am_cT_nil) (am_cv_of (by decide +kernel)) (by decide +kernel) (am_mc (am_inU 596 (by decide +kernel) (by decide +kernel)) (am_mc (am_inU 597 (by decide +kernel) (by decide +kernel)) (fun _ h => nomatch h))) am_castE
theorem calL_order {l : Launch} {dC : Nat → ClassId} {dI ad : Nat → Nat → Nat} {cy : Nat → ClassId} {R : Room} (htr : l.stackTraces = false) (h1 : rmL_order.frames + 1 ≤ R.frames) (h2 : 8 + (6 + 11) + rmL_order.locals ≤ R.locals) : am_Cal l dC dI ad cy R 1 6 cqL_order fL_order :=
  ⟨okL_order htr, am_inU 832 (by decide +kernel) (by decide +kernel), Nat.le_refl _, Nat.le_refl _, h1, h2, ⟨by decide, by decide, by decide +kernel⟩, trivial, Or.inr ⟨rfl, _, _, _, rfl⟩⟩
abbrev rmL_clock : Room := { frames := 8, cells := 1, slots := 6, locals := 161 }
def cqL_clock : am_C := (yL_clock, .codeWith yL_clock cL_clock 3 (some .int) [(0, 5, 8, 13)], rmL_clock, none, 2, 3)
theorem okL_clock {l : Launch} {dC : Nat → ClassId} {dI ad : Nat → Nat → Nat} {cy : Nat → ClassId} (htr : l.stackTraces = false) : am_Ok l dC dI ad cy yL_clock (.codeWith yL_clock cL_clock 3 (some .int) [(0, 5, 8, 13)]) rmL_clock fL_clock :=
  am_wrap_ok (ci := [cqX9_clock]) (by decide) ⟨rfl, rfl⟩ (am_rows_of (by decide +kernel) (am_words_of [844, 845, 846, 56] (by decide +kernel) (by decide +kernel))) (am_cs_cons (calX9_clock (by decide) (by decide)) am_cs_nil) (am_cT_T (Or.inr rfl) (calTX9_clock htr (by decide) (by decide)) am_cT_nil) (am_cv_of (by decide +kernel)) (by decide +kernel) (am_mc (am_inU 596 (by decide +kernel) (by decide +kernel)) (fun _ h => nomatch h)) am_castE
theorem calL_clock {l : Launch} {dC : Nat → ClassId} {dI ad : Nat → Nat → Nat} {cy : Nat → ClassId} {R : Room} (htr : l.stackTraces = false) (h1 : rmL_clock.frames + 1 ≤ R.frames) (h2 : 8 + (3 + 11) + rmL_clock.locals ≤ R.locals) : am_Cal l dC dI ad cy R 1 6 cqL_clock fL_clock :=
  ⟨okL_clock htr, am_inU 843 (by decide +kernel) (by decide +kernel), Nat.le_refl _, Nat.le_refl _, h1, h2, ⟨by decide, by decide, by decide +kernel⟩, trivial, Or.inr ⟨rfl, _, _, _, rfl⟩⟩
abbrev rmL_light : Room := { frames := 8, cells := 1, slots := 6, locals := 161 }
def cqL_light : am_C := (yL_light, .codeWith yL_light cL_light 3 (some .int) [(0, 5, 8, 13)], rmL_light, none, 2, 3)
theorem okL_light {l : Launch} {dC : Nat → ClassId} {dI ad : Nat → Nat → Nat} {cy : Nat → ClassId} (htr : l.stackTraces = false) : am_Ok l dC dI ad cy yL_light (.codeWith yL_light cL_light 3 (some .int) [(0, 5, 8, 13)]) rmL_light fL_light :=
  am_wrap_ok (ci := [cqX9_light]) (by decide) ⟨rfl, rfl⟩ (am_rows_of (by decide +kernel) (am_words_of [851, 852, 853, 56] (by decide +kernel) (by decide +kernel))) (am_cs_cons (calX9_light (by decide) (by decide)) am_cs_nil) (am_cT_T (Or.inr rfl) (calTX9_light htr (by decide) (by decide)) am_cT_nil) (am_cv_of (by decide +kernel)) (by decide +kernel) (am_mc (am_inU 596 (by decide +kernel) (by decide +kernel)) (fun _ h => nomatch h)) am_castE
theorem calL_light {l : Launch} {dC : Nat → ClassId} {dI ad : Nat → Nat → Nat} {cy : Nat → ClassId} {R : Room} (htr : l.stackTraces = false) (h1 : rmL_light.frames + 1 ≤ R.frames) (h2 : 8 + (3 + 11) + rmL_light.locals ≤ R.locals) : am_Cal l dC dI ad cy R 1 6 cqL_light fL_light :=
  ⟨okL_light htr, am_inU 850 (by decide +kernel) (by decide +kernel), Nat.le_refl _, Nat.le_refl _, h1, h2, ⟨by decide, by decide, by decide +kernel⟩, trivial, Or.inr ⟨rfl, _, _, _, rfl⟩⟩
abbrev rmL_spoil : Room := { frames := 8, cells := 1, slots := 6, locals := 161 }
def cqL_spoil : am_C := (yL_spoil, .codeWith yL_spoil cL_spoil 3 (some .int) [(0, 5, 8, 13)], rmL_spoil, none, 2, 3)
theorem okL_spoil {l : Launch} {dC : Nat → ClassId} {dI ad : Nat → Nat → Nat} {cy : Nat → ClassId} (htr : l.stackTraces = false) : am_Ok l dC dI ad cy yL_spoil (.codeWith yL_spoil cL_spoil 3 (some .int) [(0, 5, 8, 13)]) rmL_spoil fL_spoil :=
  am_wrap_ok (ci := [cqX9_spoil]) (by decide) ⟨rfl, rfl⟩ (am_rows_of (by decide +kernel) (am_words_of [858, 859, 860, 56] (by decide +kernel) (by decide +kernel))) (am_cs_cons (calX9_spoil (by decide) (by decide)) am_cs_nil) (am_cT_T (Or.inr rfl) (calTX9_spoil htr (by decide) (by decide)) am_cT_nil) (am_cv_of (by decide +kernel)) (by decide +kernel) (am_mc (am_inU 596 (by decide +kernel) (by decide +kernel)) (fun _ h => nomatch h)) am_castE
theorem calL_spoil {l : Launch} {dC : Nat → ClassId} {dI ad : Nat → Nat → Nat} {cy : Nat → ClassId} {R : Room} (htr : l.stackTraces = false) (h1 : rmL_spoil.frames + 1 ≤ R.frames) (h2 : 8 + (3 + 11) + rmL_spoil.locals ≤ R.locals) : am_Cal l dC dI ad cy R 1 6 cqL_spoil fL_spoil :=
  ⟨okL_spoil htr, am_inU 857 (by decide +kernel) (by decide +kernel), Nat.le_refl _, Nat.le_refl _, h1, h2, ⟨by decide, by decide, by decide +kernel⟩, trivial, Or.inr ⟨rfl, _, _, _, rfl⟩⟩
abbrev rmL_state : Room := { frames := 8, cells := 1, slots := 6, locals := 164 }
def cqL_state : am_C := (yL_state, .codeWith yL_state cL_state 5 (some .int) [(0, 10, 13, 13)], rmL_state, none, 4, 5)
theorem okL_state {l : Launch} {dC : Nat → ClassId} {dI ad : Nat → Nat → Nat} {cy : Nat → ClassId} (htr : l.stackTraces = false) : am_Ok l dC dI ad cy yL_state (.codeWith yL_state cL_state 5 (some .int) [(0, 10, 13, 13)]) rmL_state fL_state :=
  am_wrap_ok (ci := [cqX9_state]) (by decide) ⟨rfl, rfl⟩ (am_rows_of (by decide +kernel) (am_words_of [865, 866, 867, 56] (by decide +kernel) (by decide +kernel))) (am_cs_cons (calX9_state (by decide) (by decide)) am_cs_nil) (am_cT_T (Or.inr rfl) (calTX9_state htr (by decide) (by decide)) am_cT_nil) (am_cv_of (by decide +kernel)) (by decide +kernel) (am_mc (am_inU 596 (by decide +kernel) (by decide +kernel)) (fun _ h => nomatch h)) am_castE
theorem calL_state {l : Launch} {dC : Nat → ClassId} {dI ad : Nat → Nat → Nat} {cy : Nat → ClassId} {R : Room} (htr : l.stackTraces = false) (h1 : rmL_state.frames + 1 ≤ R.frames) (h2 : 8 + (5 + 11) + rmL_state.locals ≤ R.locals) : am_Cal l dC dI ad cy R 1 6 cqL_state fL_state :=
  ⟨okL_state htr, am_inU 864 (by decide +kernel) (by decide +kernel), Nat.le_refl _, Nat.le_refl _, h1, h2, ⟨by decide, by decide, by decide +kernel⟩, trivial, Or.inr ⟨rfl, _, _, _, rfl⟩⟩
abbrev rmL_cuvette : Room := { frames := 8, cells := 1, slots := 6, locals := 163 }
def cqL_cuvette : am_C := (yL_cuvette, .codeWith yL_cuvette cL_cuvette 5 (some .int) [(0, 10, 13, 13)], rmL_cuvette, none, 4, 5)
theorem okL_cuvette {l : Launch} {dC : Nat → ClassId} {dI ad : Nat → Nat → Nat} {cy : Nat → ClassId} (htr : l.stackTraces = false) : am_Ok l dC dI ad cy yL_cuvette (.codeWith yL_cuvette cL_cuvette 5 (some .int) [(0, 10, 13, 13)]) rmL_cuvette fL_cuvette :=
  am_wrap_ok (ci := [cqX9_cuvette]) (by decide) ⟨rfl, rfl⟩ (am_rows_of (by decide +kernel) (am_words_of [872, 873, 874, 56] (by decide +kernel) (by decide +kernel))) (am_cs_cons (calX9_cuvette (by decide) (by decide)) am_cs_nil) (am_cT_T (Or.inr rfl) (calTX9_cuvette htr (by decide) (by decide)) am_cT_nil) (am_cv_of (by decide +kernel)) (by decide +kernel) (am_mc (am_inU 596 (by decide +kernel) (by decide +kernel)) (fun _ h => nomatch h)) am_castE
theorem calL_cuvette {l : Launch} {dC : Nat → ClassId} {dI ad : Nat → Nat → Nat} {cy : Nat → ClassId} {R : Room} (htr : l.stackTraces = false) (h1 : rmL_cuvette.frames + 1 ≤ R.frames) (h2 : 8 + (5 + 11) + rmL_cuvette.locals ≤ R.locals) : am_Cal l dC dI ad cy R 1 6 cqL_cuvette fL_cuvette :=
  ⟨okL_cuvette htr, am_inU 871 (by decide +kernel) (by decide +kernel), Nat.le_refl _, Nat.le_refl _, h1, h2, ⟨by decide, by decide, by decide +kernel⟩, trivial, Or.inr ⟨rfl, _, _, _, rfl⟩⟩
abbrev rmL_volume : Room := { frames := 8, cells := 1, slots := 6, locals := 162 }
def cqL_volume : am_C := (yL_volume, .codeWith yL_volume cL_volume 5 (some .int) [(0, 10, 13, 13), (0, 10, 17, 33)], rmL_volume, none, 4, 5)
theorem okL_volume {l : Launch} {dC : Nat → ClassId} {dI ad : Nat → Nat → Nat} {cy : Nat → ClassId} (htr : l.stackTraces = false) : am_Ok l dC dI ad cy yL_volume (.codeWith yL_volume cL_volume 5 (some .int) [(0, 10, 13, 13), (0, 10, 17, 33)]) rmL_volume fL_volume :=
  am_wrap_ok (ci := [cqX9_volume]) (by decide) ⟨rfl, rfl⟩ (am_rows_of (by decide +kernel) (am_words_of [879, 880, 881, 56] (by decide +kernel) (by decide +kernel))) (am_cs_cons (calX9_volume (by decide) (by decide)) am_cs_nil) (am_cT_T (Or.inr rfl) (calTX9_volume htr (by decide) (by decide)) am_cT_nil) (am_cv_of (by decide +kernel)) (by decide +kernel) (am_mc (am_inU 596 (by decide +kernel) (by decide +kernel)) (am_mc (am_inU 781 (by decide +kernel) (by decide +kernel)) (fun _ h => nomatch h))) am_castE
theorem calL_volume {l : Launch} {dC : Nat → ClassId} {dI ad : Nat → Nat → Nat} {cy : Nat → ClassId} {R : Room} (htr : l.stackTraces = false) (h1 : rmL_volume.frames + 1 ≤ R.frames) (h2 : 8 + (5 + 11) + rmL_volume.locals ≤ R.locals) : am_Cal l dC dI ad cy R 1 6 cqL_volume fL_volume :=
  ⟨okL_volume htr, am_inU 878 (by decide +kernel) (by decide +kernel), Nat.le_refl _, Nat.le_refl _, h1, h2, ⟨by decide, by decide, by decide +kernel⟩, trivial, Or.inr ⟨rfl, _, _, _, rfl⟩⟩
abbrev rmL_trend : Room := { frames := 8, cells := 1, slots := 6, locals := 163 }
def cqL_trend : am_C := (yL_trend, .codeWith yL_trend cL_trend 5 (some .int) [(0, 10, 13, 13), (0, 10, 17, 69)], rmL_trend, none, 4, 5)
theorem okL_trend {l : Launch} {dC : Nat → ClassId} {dI ad : Nat → Nat → Nat} {cy : Nat → ClassId} (htr : l.stackTraces = false) : am_Ok l dC dI ad cy yL_trend (.codeWith yL_trend cL_trend 5 (some .int) [(0, 10, 13, 13), (0, 10, 17, 69)]) rmL_trend fL_trend :=
  am_wrap_ok (ci := [cqX9_trend]) (by decide) ⟨rfl, rfl⟩ (am_rows_of (by decide +kernel) (am_words_of [891, 892, 893, 56] (by decide +kernel) (by decide +kernel))) (am_cs_cons (calX9_trend (by decide) (by decide)) am_cs_nil) (am_cT_T (Or.inr rfl) (calTX9_trend htr (by decide) (by decide)) am_cT_nil) (am_cv_of (by decide +kernel)) (by decide +kernel) (am_mc (am_inU 596 (by decide +kernel) (by decide +kernel)) (am_mc (am_inU 890 (by decide +kernel) (by decide +kernel)) (fun _ h => nomatch h))) am_castE
theorem calL_trend {l : Launch} {dC : Nat → ClassId} {dI ad : Nat → Nat → Nat} {cy : Nat → ClassId} {R : Room} (htr : l.stackTraces = false) (h1 : rmL_trend.frames + 1 ≤ R.frames) (h2 : 8 + (5 + 11) + rmL_trend.locals ≤ R.locals) : am_Cal l dC dI ad cy R 1 6 cqL_trend fL_trend :=
  ⟨okL_trend htr, am_inU 889 (by decide +kernel) (by decide +kernel), Nat.le_refl _, Nat.le_refl _, h1, h2, ⟨by decide, by decide, by decide +kernel⟩, trivial, Or.inr ⟨rfl, _, _, _, rfl⟩⟩
abbrev rmL_rules : Room := { frames := 8, cells := 1, slots := 6, locals := 161 }
def cqL_rules : am_C := (yL_rules, .codeWith yL_rules cL_rules 4 (some .int) [(0, 9, 12, 13)], rmL_rules, none, 3, 4)
theorem okL_rules {l : Launch} {dC : Nat → ClassId} {dI ad : Nat → Nat → Nat} {cy : Nat → ClassId} (htr : l.stackTraces = false) : am_Ok l dC dI ad cy yL_rules (.codeWith yL_rules cL_rules 4 (some .int) [(0, 9, 12, 13)]) rmL_rules fL_rules :=
  am_wrap_ok (ci := [cqX9_rules]) (by decide) ⟨rfl, rfl⟩ (am_rows_of (by decide +kernel) (am_words_of [921, 922, 923, 56] (by decide +kernel) (by decide +kernel))) (am_cs_cons (calX9_rules (by decide) (by decide)) am_cs_nil) (am_cT_T (Or.inr rfl) (calTX9_rules htr (by decide) (by decide)) am_cT_nil) (am_cv_of (by decide +kernel)) (by decide +kernel) (am_mc (am_inU 596 (by decide +kernel) (by decide +kernel)) (fun _ h => nomatch h)) am_castE
theorem calL_rules {l : Launch} {dC : Nat → ClassId} {dI ad : Nat → Nat → Nat} {cy : Nat → ClassId} {R : Room} (htr : l.stackTraces = false) (h1 : rmL_rules.frames + 1 ≤ R.frames) (h2 : 8 + (4 + 11) + rmL_rules.locals ≤ R.locals) : am_Cal l dC dI ad cy R 1 6 cqL_rules fL_rules :=
  ⟨okL_rules htr, am_inU 920 (by decide +kernel) (by decide +kernel), Nat.le_refl _, Nat.le_refl _, h1, h2, ⟨by decide, by decide, by decide +kernel⟩, trivial, Or.inr ⟨rfl, _, _, _, rfl⟩⟩
abbrev rmL_host : Room := { frames := 8, cells := 1, slots := 6, locals := 161 }
def cqL_host : am_C := (yL_host, .codeWith yL_host cL_host 4 (some .int) [(0, 9, 12, 69)], rmL_host, none, 3, 4)
theorem okL_host {l : Launch} {dC : Nat → ClassId} {dI ad : Nat → Nat → Nat} {cy : Nat → ClassId} (htr : l.stackTraces = false) : am_Ok l dC dI ad cy yL_host (.codeWith yL_host cL_host 4 (some .int) [(0, 9, 12, 69)]) rmL_host fL_host :=
  am_wrap_ok (ci := [cqX9_host]) (by decide) ⟨rfl, rfl⟩ (am_rows_of (by decide +kernel) (am_words_of [943, 944, 945, 56] (by decide +kernel) (by decide +kernel))) (am_cs_cons (calX9_host (by decide) (by decide)) am_cs_nil) (am_cT_T (Or.inr rfl) (calTX9_host htr (by decide) (by decide)) am_cT_nil) (am_cv_of (by decide +kernel)) (by decide +kernel) (am_mc (am_inU 890 (by decide +kernel) (by decide +kernel)) (fun _ h => nomatch h)) am_castE
theorem calL_host {l : Launch} {dC : Nat → ClassId} {dI ad : Nat → Nat → Nat} {cy : Nat → ClassId} {R : Room} (htr : l.stackTraces = false) (h1 : rmL_host.frames + 1 ≤ R.frames) (h2 : 8 + (4 + 11) + rmL_host.locals ≤ R.locals) : am_Cal l dC dI ad cy R 1 6 cqL_host fL_host :=
  ⟨okL_host htr, am_inU 942 (by decide +kernel) (by decide +kernel), Nat.le_refl _, Nat.le_refl _, h1, h2, ⟨by decide, by decide, by decide +kernel⟩, trivial, Or.inr ⟨rfl, _, _, _, rfl⟩⟩
abbrev rmL_took : Room := { frames := 8, cells := 1, slots := 6, locals := 161 }
def cqL_took : am_C := (yL_took, .codeWith yL_took cL_took 4 (some .int) [(0, 9, 12, 13)], rmL_took, none, 3, 4)
theorem okL_took {l : Launch} {dC : Nat → ClassId} {dI ad : Nat → Nat → Nat} {cy : Nat → ClassId} (htr : l.stackTraces = false) : am_Ok l dC dI ad cy yL_took (.codeWith yL_took cL_took 4 (some .int) [(0, 9, 12, 13)]) rmL_took fL_took :=
  am_wrap_ok (ci := [cqX9_took]) (by decide) ⟨rfl, rfl⟩ (am_rows_of (by decide +kernel) (am_words_of [950, 951, 952, 56] (by decide +kernel) (by decide +kernel))) (am_cs_cons (calX9_took (by decide) (by decide)) am_cs_nil) (am_cT_T (Or.inr rfl) (calTX9_took htr (by decide) (by decide)) am_cT_nil) (am_cv_of (by decide +kernel)) (by decide +kernel) (am_mc (am_inU 596 (by decide +kernel) (by decide +kernel)) (fun _ h => nomatch h)) am_castE
theorem calL_took {l : Launch} {dC : Nat → ClassId} {dI ad : Nat → Nat → Nat} {cy : Nat → ClassId} {R : Room} (htr : l.stackTraces = false) (h1 : rmL_took.frames + 1 ≤ R.frames) (h2 : 8 + (4 + 11) + rmL_took.locals ≤ R.locals) : am_Cal l dC dI ad cy R 1 6 cqL_took fL_took :=
  ⟨okL_took htr, am_inU 949 (by decide +kernel) (by decide +kernel), Nat.le_refl _, Nat.le_refl _, h1, h2, ⟨by decide, by decide, by decide +kernel⟩, trivial, Or.inr ⟨rfl, _, _, _, rfl⟩⟩
