section
-- ===== PART A: goes FIRST, ahead of the names: the tables' words, and 'selects' of the private methods out of them =====
/-- a private method of a class that the tables say can be made, by its rows of tables_1 -/
def lw_okq (q : MethodName × Nat) : Prop := (q.1.cls ≠ "java/lang/invoke/MethodHandle" ∧ q.1.cls ≠ "java/lang/invoke/VarHandle") ∧ Cond.instantiable q.1.cls q.2 ∈ tables_1 ∧ Cond.privateMethod q.1 ∈ tables_1 ∧ Cond.instanceMethod q.1 ∈ tables_1
theorem lw_p0 : lw_okq (⟨"SampleAnalyser", "turnDisc", "()V"⟩, 13) := ⟨⟨by decide +kernel, by decide +kernel⟩, List.mem_of_getElem? (i := 21) (by decide +kernel), List.mem_of_getElem? (i := 301) (by decide +kernel), List.mem_of_getElem? (i := 302) (by decide +kernel)⟩
theorem lw_p1 : lw_okq (⟨"SampleAnalyser$ReagentArm", "clear", "(I)V"⟩, 3) := ⟨⟨by decide +kernel, by decide +kernel⟩, List.mem_of_getElem? (i := 39) (by decide +kernel), List.mem_of_getElem? (i := 313) (by decide +kernel), List.mem_of_getElem? (i := 314) (by decide +kernel)⟩
theorem lw_p2 : lw_okq (⟨"SampleAnalyser", "giveReagent", "()V"⟩, 13) := ⟨⟨by decide +kernel, by decide +kernel⟩, List.mem_of_getElem? (i := 21) (by decide +kernel), List.mem_of_getElem? (i := 317) (by decide +kernel), List.mem_of_getElem? (i := 318) (by decide +kernel)⟩
theorem lw_p3 : lw_okq (⟨"SampleAnalyser", "breakOff", "(II)V"⟩, 13) := ⟨⟨by decide +kernel, by decide +kernel⟩, List.mem_of_getElem? (i := 21) (by decide +kernel), List.mem_of_getElem? (i := 328) (by decide +kernel), List.mem_of_getElem? (i := 329) (by decide +kernel)⟩
theorem lw_p4 : lw_okq (⟨"SampleAnalyser", "giveNextDose", "(LSampleAnalyser$Cuvette;)V"⟩, 13) := ⟨⟨by decide +kernel, by decide +kernel⟩, List.mem_of_getElem? (i := 21) (by decide +kernel), List.mem_of_getElem? (i := 352) (by decide +kernel), List.mem_of_getElem? (i := 353) (by decide +kernel)⟩
theorem lw_p5 : lw_okq (⟨"SampleAnalyser", "takeReadings", "()V"⟩, 13) := ⟨⟨by decide +kernel, by decide +kernel⟩, List.mem_of_getElem? (i := 21) (by decide +kernel), List.mem_of_getElem? (i := 356) (by decide +kernel), List.mem_of_getElem? (i := 357) (by decide +kernel)⟩
theorem lw_p6 : lw_okq (⟨"SampleAnalyser", "cuvetteOf", "(LSampleAnalyser$Order;)LSampleAnalyser$Cuvette;"⟩, 13) := ⟨⟨by decide +kernel, by decide +kernel⟩, List.mem_of_getElem? (i := 21) (by decide +kernel), List.mem_of_getElem? (i := 366) (by decide +kernel), List.mem_of_getElem? (i := 367) (by decide +kernel)⟩
theorem lw_p7 : lw_okq (⟨"SampleAnalyser", "judgeEndedRuns", "()V"⟩, 13) := ⟨⟨by decide +kernel, by decide +kernel⟩, List.mem_of_getElem? (i := 21) (by decide +kernel), List.mem_of_getElem? (i := 379) (by decide +kernel), List.mem_of_getElem? (i := 380) (by decide +kernel)⟩
theorem lw_p8 : lw_okq (⟨"SampleAnalyser", "judge", "(ILSampleAnalyser$Cuvette;)V"⟩, 13) := ⟨⟨by decide +kernel, by decide +kernel⟩, List.mem_of_getElem? (i := 21) (by decide +kernel), List.mem_of_getElem? (i := 387) (by decide +kernel), List.mem_of_getElem? (i := 388) (by decide +kernel)⟩
theorem lw_p9 : lw_okq (⟨"SampleAnalyser", "startFirst", "(Z)I"⟩, 13) := ⟨⟨by decide +kernel, by decide +kernel⟩, List.mem_of_getElem? (i := 21) (by decide +kernel), List.mem_of_getElem? (i := 454) (by decide +kernel), List.mem_of_getElem? (i := 455) (by decide +kernel)⟩
theorem lw_p10 : lw_okq (⟨"SampleAnalyser", "tryStart", "(I)Z"⟩, 13) := ⟨⟨by decide +kernel, by decide +kernel⟩, List.mem_of_getElem? (i := 21) (by decide +kernel), List.mem_of_getElem? (i := 458) (by decide +kernel), List.mem_of_getElem? (i := 459) (by decide +kernel)⟩
theorem lw_p11 : lw_okq (⟨"SampleAnalyser", "slotOf", "(I)I"⟩, 13) := ⟨⟨by decide +kernel, by decide +kernel⟩, List.mem_of_getElem? (i := 21) (by decide +kernel), List.mem_of_getElem? (i := 462) (by decide +kernel), List.mem_of_getElem? (i := 463) (by decide +kernel)⟩
theorem lw_p12 : lw_okq (⟨"SampleAnalyser", "positionFor", "(LSampleAnalyser$Protocol;II)I"⟩, 13) := ⟨⟨by decide +kernel, by decide +kernel⟩, List.mem_of_getElem? (i := 21) (by decide +kernel), List.mem_of_getElem? (i := 471) (by decide +kernel), List.mem_of_getElem? (i := 472) (by decide +kernel)⟩
theorem lw_p13 : lw_okq (⟨"SampleAnalyser", "cleanCuvette", "()I"⟩, 13) := ⟨⟨by decide +kernel, by decide +kernel⟩, List.mem_of_getElem? (i := 21) (by decide +kernel), List.mem_of_getElem? (i := 492) (by decide +kernel), List.mem_of_getElem? (i := 493) (by decide +kernel)⟩
theorem lw_p14 : lw_okq (⟨"SampleAnalyser$ReagentArm", "isFree", "(I)Z"⟩, 3) := ⟨⟨by decide +kernel, by decide +kernel⟩, List.mem_of_getElem? (i := 39) (by decide +kernel), List.mem_of_getElem? (i := 509) (by decide +kernel), List.mem_of_getElem? (i := 510) (by decide +kernel)⟩
theorem lw_p15 : lw_okq (⟨"SampleAnalyser$ReagentArm", "hasForbiddenSuccession", "()Z"⟩, 3) := ⟨⟨by decide +kernel, by decide +kernel⟩, List.mem_of_getElem? (i := 39) (by decide +kernel), List.mem_of_getElem? (i := 514) (by decide +kernel), List.mem_of_getElem? (i := 515) (by decide +kernel)⟩
def lw_privs_1 : List (MethodName × Nat) := [(⟨"SampleAnalyser", "turnDisc", "()V"⟩, 13), (⟨"SampleAnalyser$ReagentArm", "clear", "(I)V"⟩, 3), (⟨"SampleAnalyser", "giveReagent", "()V"⟩, 13), (⟨"SampleAnalyser", "breakOff", "(II)V"⟩, 13), (⟨"SampleAnalyser", "giveNextDose", "(LSampleAnalyser$Cuvette;)V"⟩, 13), (⟨"SampleAnalyser", "takeReadings", "()V"⟩, 13), (⟨"SampleAnalyser", "cuvetteOf", "(LSampleAnalyser$Order;)LSampleAnalyser$Cuvette;"⟩, 13), (⟨"SampleAnalyser", "judgeEndedRuns", "()V"⟩, 13), (⟨"SampleAnalyser", "judge", "(ILSampleAnalyser$Cuvette;)V"⟩, 13), (⟨"SampleAnalyser", "startFirst", "(Z)I"⟩, 13), (⟨"SampleAnalyser", "tryStart", "(I)Z"⟩, 13), (⟨"SampleAnalyser", "slotOf", "(I)I"⟩, 13), (⟨"SampleAnalyser", "positionFor", "(LSampleAnalyser$Protocol;II)I"⟩, 13), (⟨"SampleAnalyser", "cleanCuvette", "()I"⟩, 13), (⟨"SampleAnalyser$ReagentArm", "isFree", "(I)Z"⟩, 3), (⟨"SampleAnalyser$ReagentArm", "hasForbiddenSuccession", "()Z"⟩, 3)]
theorem lw_r1 : ∀ q ∈ lw_privs_1, lw_okq q := List.forall_mem_cons.mpr ⟨lw_p0, List.forall_mem_cons.mpr ⟨lw_p1, List.forall_mem_cons.mpr ⟨lw_p2, List.forall_mem_cons.mpr ⟨lw_p3, List.forall_mem_cons.mpr ⟨lw_p4, List.forall_mem_cons.mpr ⟨lw_p5, List.forall_mem_cons.mpr ⟨lw_p6, List.forall_mem_cons.mpr ⟨lw_p7, List.forall_mem_cons.mpr ⟨lw_p8, List.forall_mem_cons.mpr ⟨lw_p9, List.forall_mem_cons.mpr ⟨lw_p10, List.forall_mem_cons.mpr ⟨lw_p11, List.forall_mem_cons.mpr ⟨lw_p12, List.forall_mem_cons.mpr ⟨lw_p13, List.forall_mem_cons.mpr ⟨lw_p14, List.forall_mem_cons.mpr ⟨lw_p15, fun _ h => absurd h List.not_mem_nil⟩⟩⟩⟩⟩⟩⟩⟩⟩⟩⟩⟩⟩⟩⟩⟩
theorem lw_p16 : lw_okq (⟨"SampleAnalyser", "reserve", "(LSampleAnalyser$Cuvette;III)V"⟩, 13) := ⟨⟨by decide +kernel, by decide +kernel⟩, List.mem_of_getElem? (i := 21) (by decide +kernel), List.mem_of_getElem? (i := 523) (by decide +kernel), List.mem_of_getElem? (i := 524) (by decide +kernel)⟩
theorem lw_p17 : lw_okq (⟨"SampleAnalyser", "takeSample", "(LSampleAnalyser$Slot;II)V"⟩, 13) := ⟨⟨by decide +kernel, by decide +kernel⟩, List.mem_of_getElem? (i := 21) (by decide +kernel), List.mem_of_getElem? (i := 531) (by decide +kernel), List.mem_of_getElem? (i := 532) (by decide +kernel)⟩
theorem lw_p18 : lw_okq (⟨"java/lang/Throwable", "fillInStackTrace", "(I)Ljava/lang/Throwable;"⟩, 6) := ⟨⟨by decide +kernel, by decide +kernel⟩, List.mem_of_getElem? (i := 597) (by decide +kernel), List.mem_of_getElem? (i := 595) (by decide +kernel), List.mem_of_getElem? (i := 596) (by decide +kernel)⟩
theorem lw_p19 : lw_okq (⟨"SampleAnalyser", "isOrdered", "(I)Z"⟩, 13) := ⟨⟨by decide +kernel, by decide +kernel⟩, List.mem_of_getElem? (i := 21) (by decide +kernel), List.mem_of_getElem? (i := 622) (by decide +kernel), List.mem_of_getElem? (i := 623) (by decide +kernel)⟩
theorem lw_p20 : lw_okq (⟨"SampleAnalyser$Protocol", "areReagentsRight", "()Z"⟩, 4) := ⟨⟨by decide +kernel, by decide +kernel⟩, List.mem_of_getElem? (i := 72) (by decide +kernel), List.mem_of_getElem? (i := 680) (by decide +kernel), List.mem_of_getElem? (i := 681) (by decide +kernel)⟩
theorem lw_p21 : lw_okq (⟨"SampleAnalyser$Protocol", "isReagentRight", "(I)Z"⟩, 4) := ⟨⟨by decide +kernel, by decide +kernel⟩, List.mem_of_getElem? (i := 72) (by decide +kernel), List.mem_of_getElem? (i := 684) (by decide +kernel), List.mem_of_getElem? (i := 685) (by decide +kernel)⟩
theorem lw_p22 : lw_okq (⟨"SampleAnalyser$Protocol", "areReadingsRight", "()Z"⟩, 4) := ⟨⟨by decide +kernel, by decide +kernel⟩, List.mem_of_getElem? (i := 72) (by decide +kernel), List.mem_of_getElem? (i := 690) (by decide +kernel), List.mem_of_getElem? (i := 691) (by decide +kernel)⟩
theorem lw_p23 : lw_okq (⟨"SampleAnalyser$Protocol", "isDilutionRight", "()Z"⟩, 4) := ⟨⟨by decide +kernel, by decide +kernel⟩, List.mem_of_getElem? (i := 72) (by decide +kernel), List.mem_of_getElem? (i := 694) (by decide +kernel), List.mem_of_getElem? (i := 695) (by decide +kernel)⟩
theorem lw_p24 : lw_okq (⟨"SampleAnalyser$Curve", "isMonotone", "(I)Z"⟩, 3) := ⟨⟨by decide +kernel, by decide +kernel⟩, List.mem_of_getElem? (i := 78) (by decide +kernel), List.mem_of_getElem? (i := 703) (by decide +kernel), List.mem_of_getElem? (i := 704) (by decide +kernel)⟩
theorem lw_p25 : lw_okq (⟨"SampleAnalyser", "isAwaited", "(I)Z"⟩, 13) := ⟨⟨by decide +kernel, by decide +kernel⟩, List.mem_of_getElem? (i := 21) (by decide +kernel), List.mem_of_getElem? (i := 750) (by decide +kernel), List.mem_of_getElem? (i := 751) (by decide +kernel)⟩
theorem lw_p26 : lw_okq (⟨"SampleAnalyserModel", "pending", "(I)Z"⟩, 48) := ⟨⟨by decide +kernel, by decide +kernel⟩, List.mem_of_getElem? (i := 904) (by decide +kernel), List.mem_of_getElem? (i := 1074) (by decide +kernel), List.mem_of_getElem? (i := 1075) (by decide +kernel)⟩
theorem lw_p27 : lw_okq (⟨"SampleAnalyserModel", "of", "(II)I"⟩, 48) := ⟨⟨by decide +kernel, by decide +kernel⟩, List.mem_of_getElem? (i := 904) (by decide +kernel), List.mem_of_getElem? (i := 1087) (by decide +kernel), List.mem_of_getElem? (i := 1088) (by decide +kernel)⟩
theorem lw_p28 : lw_okq (⟨"SampleAnalyserModel", "reagentGood", "(II)Z"⟩, 48) := ⟨⟨by decide +kernel, by decide +kernel⟩, List.mem_of_getElem? (i := 904) (by decide +kernel), List.mem_of_getElem? (i := 1091) (by decide +kernel), List.mem_of_getElem? (i := 1092) (by decide +kernel)⟩
theorem lw_p29 : lw_okq (⟨"SampleAnalyserModel", "curveGood", "(I)Z"⟩, 48) := ⟨⟨by decide +kernel, by decide +kernel⟩, List.mem_of_getElem? (i := 904) (by decide +kernel), List.mem_of_getElem? (i := 1095) (by decide +kernel), List.mem_of_getElem? (i := 1096) (by decide +kernel)⟩
theorem lw_p30 : lw_okq (⟨"SampleAnalyserModel", "slotOf", "(I)I"⟩, 48) := ⟨⟨by decide +kernel, by decide +kernel⟩, List.mem_of_getElem? (i := 904) (by decide +kernel), List.mem_of_getElem? (i := 1105) (by decide +kernel), List.mem_of_getElem? (i := 1106) (by decide +kernel)⟩
theorem lw_p31 : lw_okq (⟨"SampleAnalyserModel", "reserved", "(I)I"⟩, 48) := ⟨⟨by decide +kernel, by decide +kernel⟩, List.mem_of_getElem? (i := 904) (by decide +kernel), List.mem_of_getElem? (i := 1117) (by decide +kernel), List.mem_of_getElem? (i := 1118) (by decide +kernel)⟩
def lw_privs_2 : List (MethodName × Nat) := [(⟨"SampleAnalyser", "reserve", "(LSampleAnalyser$Cuvette;III)V"⟩, 13), (⟨"SampleAnalyser", "takeSample", "(LSampleAnalyser$Slot;II)V"⟩, 13), (⟨"java/lang/Throwable", "fillInStackTrace", "(I)Ljava/lang/Throwable;"⟩, 6), (⟨"SampleAnalyser", "isOrdered", "(I)Z"⟩, 13), (⟨"SampleAnalyser$Protocol", "areReagentsRight", "()Z"⟩, 4), (⟨"SampleAnalyser$Protocol", "isReagentRight", "(I)Z"⟩, 4), (⟨"SampleAnalyser$Protocol", "areReadingsRight", "()Z"⟩, 4), (⟨"SampleAnalyser$Protocol", "isDilutionRight", "()Z"⟩, 4), (⟨"SampleAnalyser$Curve", "isMonotone", "(I)Z"⟩, 3), (⟨"SampleAnalyser", "isAwaited", "(I)Z"⟩, 13), (⟨"SampleAnalyserModel", "pending", "(I)Z"⟩, 48), (⟨"SampleAnalyserModel", "of", "(II)I"⟩, 48), (⟨"SampleAnalyserModel", "reagentGood", "(II)Z"⟩, 48), (⟨"SampleAnalyserModel", "curveGood", "(I)Z"⟩, 48), (⟨"SampleAnalyserModel", "slotOf", "(I)I"⟩, 48), (⟨"SampleAnalyserModel", "reserved", "(I)I"⟩, 48)]
theorem lw_r2 : ∀ q ∈ lw_privs_2, lw_okq q := List.forall_mem_cons.mpr ⟨lw_p16, List.forall_mem_cons.mpr ⟨lw_p17, List.forall_mem_cons.mpr ⟨lw_p18, List.forall_mem_cons.mpr ⟨lw_p19, List.forall_mem_cons.mpr ⟨lw_p20, List.forall_mem_cons.mpr ⟨lw_p21, List.forall_mem_cons.mpr ⟨lw_p22, List.forall_mem_cons.mpr ⟨lw_p23, List.forall_mem_cons.mpr ⟨lw_p24, List.forall_mem_cons.mpr ⟨lw_p25, List.forall_mem_cons.mpr ⟨lw_p26, List.forall_mem_cons.mpr ⟨lw_p27, List.forall_mem_cons.mpr ⟨lw_p28, List.forall_mem_cons.mpr ⟨lw_p29, List.forall_mem_cons.mpr ⟨lw_p30, List.forall_mem_cons.mpr ⟨lw_p31, fun _ h => absurd h List.not_mem_nil⟩⟩⟩⟩⟩⟩⟩⟩⟩⟩⟩⟩⟩⟩⟩⟩
theorem lw_p32 : lw_okq (⟨"SampleAnalyserModel", "goOn", "()V"⟩, 48) := ⟨⟨by decide +kernel, by decide +kernel⟩, List.mem_of_getElem? (i := 904) (by decide +kernel), List.mem_of_getElem? (i := 1145) (by decide +kernel), List.mem_of_getElem? (i := 1146) (by decide +kernel)⟩
theorem lw_p33 : lw_okq (⟨"SampleAnalyserModel", "give", "()V"⟩, 48) := ⟨⟨by decide +kernel, by decide +kernel⟩, List.mem_of_getElem? (i := 904) (by decide +kernel), List.mem_of_getElem? (i := 1149) (by decide +kernel), List.mem_of_getElem? (i := 1150) (by decide +kernel)⟩
theorem lw_p34 : lw_okq (⟨"SampleAnalyserModel", "breaksOff", "(II)V"⟩, 48) := ⟨⟨by decide +kernel, by decide +kernel⟩, List.mem_of_getElem? (i := 904) (by decide +kernel), List.mem_of_getElem? (i := 1153) (by decide +kernel), List.mem_of_getElem? (i := 1154) (by decide +kernel)⟩
theorem lw_p35 : lw_okq (⟨"SampleAnalyserModel", "leave", "(I)V"⟩, 48) := ⟨⟨by decide +kernel, by decide +kernel⟩, List.mem_of_getElem? (i := 904) (by decide +kernel), List.mem_of_getElem? (i := 1157) (by decide +kernel), List.mem_of_getElem? (i := 1158) (by decide +kernel)⟩
theorem lw_p36 : lw_okq (⟨"SampleAnalyserModel", "cancel", "(I)V"⟩, 48) := ⟨⟨by decide +kernel, by decide +kernel⟩, List.mem_of_getElem? (i := 904) (by decide +kernel), List.mem_of_getElem? (i := 1161) (by decide +kernel), List.mem_of_getElem? (i := 1162) (by decide +kernel)⟩
theorem lw_p37 : lw_okq (⟨"SampleAnalyserModel", "copyBook", "(II)V"⟩, 48) := ⟨⟨by decide +kernel, by decide +kernel⟩, List.mem_of_getElem? (i := 904) (by decide +kernel), List.mem_of_getElem? (i := 1165) (by decide +kernel), List.mem_of_getElem? (i := 1166) (by decide +kernel)⟩
theorem lw_p38 : lw_okq (⟨"SampleAnalyserModel", "fail", "(II)V"⟩, 48) := ⟨⟨by decide +kernel, by decide +kernel⟩, List.mem_of_getElem? (i := 904) (by decide +kernel), List.mem_of_getElem? (i := 1169) (by decide +kernel), List.mem_of_getElem? (i := 1170) (by decide +kernel)⟩
theorem lw_p39 : lw_okq (⟨"SampleAnalyserModel", "measure", "()V"⟩, 48) := ⟨⟨by decide +kernel, by decide +kernel⟩, List.mem_of_getElem? (i := 904) (by decide +kernel), List.mem_of_getElem? (i := 1173) (by decide +kernel), List.mem_of_getElem? (i := 1174) (by decide +kernel)⟩
theorem lw_p40 : lw_okq (⟨"SampleAnalyserModel", "judge", "(I)V"⟩, 48) := ⟨⟨by decide +kernel, by decide +kernel⟩, List.mem_of_getElem? (i := 904) (by decide +kernel), List.mem_of_getElem? (i := 1183) (by decide +kernel), List.mem_of_getElem? (i := 1184) (by decide +kernel)⟩
theorem lw_p41 : lw_okq (⟨"SampleAnalyserModel", "resultOf", "(I)J"⟩, 48) := ⟨⟨by decide +kernel, by decide +kernel⟩, List.mem_of_getElem? (i := 904) (by decide +kernel), List.mem_of_getElem? (i := 1187) (by decide +kernel), List.mem_of_getElem? (i := 1188) (by decide +kernel)⟩
theorem lw_p42 : lw_okq (⟨"SampleAnalyserModel", "byCurve", "(IJ)J"⟩, 48) := ⟨⟨by decide +kernel, by decide +kernel⟩, List.mem_of_getElem? (i := 904) (by decide +kernel), List.mem_of_getElem? (i := 1199) (by decide +kernel), List.mem_of_getElem? (i := 1200) (by decide +kernel)⟩
theorem lw_p43 : lw_okq (⟨"SampleAnalyserModel", "remember", "(II)V"⟩, 48) := ⟨⟨by decide +kernel, by decide +kernel⟩, List.mem_of_getElem? (i := 904) (by decide +kernel), List.mem_of_getElem? (i := 1207) (by decide +kernel), List.mem_of_getElem? (i := 1208) (by decide +kernel)⟩
theorem lw_p44 : lw_okq (⟨"SampleAnalyserModel", "release", "(III)V"⟩, 48) := ⟨⟨by decide +kernel, by decide +kernel⟩, List.mem_of_getElem? (i := 904) (by decide +kernel), List.mem_of_getElem? (i := 1211) (by decide +kernel), List.mem_of_getElem? (i := 1212) (by decide +kernel)⟩
theorem lw_p45 : lw_okq (⟨"SampleAnalyserModel", "startOne", "()I"⟩, 48) := ⟨⟨by decide +kernel, by decide +kernel⟩, List.mem_of_getElem? (i := 904) (by decide +kernel), List.mem_of_getElem? (i := 1215) (by decide +kernel), List.mem_of_getElem? (i := 1216) (by decide +kernel)⟩
theorem lw_p46 : lw_okq (⟨"SampleAnalyserModel", "tries", "(I)Z"⟩, 48) := ⟨⟨by decide +kernel, by decide +kernel⟩, List.mem_of_getElem? (i := 904) (by decide +kernel), List.mem_of_getElem? (i := 1219) (by decide +kernel), List.mem_of_getElem? (i := 1220) (by decide +kernel)⟩
theorem lw_p47 : lw_okq (⟨"SampleAnalyserModel", "book", "(I)Z"⟩, 48) := ⟨⟨by decide +kernel, by decide +kernel⟩, List.mem_of_getElem? (i := 904) (by decide +kernel), List.mem_of_getElem? (i := 1223) (by decide +kernel), List.mem_of_getElem? (i := 1224) (by decide +kernel)⟩
def lw_privs_3 : List (MethodName × Nat) := [(⟨"SampleAnalyserModel", "goOn", "()V"⟩, 48), (⟨"SampleAnalyserModel", "give", "()V"⟩, 48), (⟨"SampleAnalyserModel", "breaksOff", "(II)V"⟩, 48), (⟨"SampleAnalyserModel", "leave", "(I)V"⟩, 48), (⟨"SampleAnalyserModel", "cancel", "(I)V"⟩, 48), (⟨"SampleAnalyserModel", "copyBook", "(II)V"⟩, 48), (⟨"SampleAnalyserModel", "fail", "(II)V"⟩, 48), (⟨"SampleAnalyserModel", "measure", "()V"⟩, 48), (⟨"SampleAnalyserModel", "judge", "(I)V"⟩, 48), (⟨"SampleAnalyserModel", "resultOf", "(I)J"⟩, 48), (⟨"SampleAnalyserModel", "byCurve", "(IJ)J"⟩, 48), (⟨"SampleAnalyserModel", "remember", "(II)V"⟩, 48), (⟨"SampleAnalyserModel", "release", "(III)V"⟩, 48), (⟨"SampleAnalyserModel", "startOne", "()I"⟩, 48), (⟨"SampleAnalyserModel", "tries", "(I)Z"⟩, 48), (⟨"SampleAnalyserModel", "book", "(I)Z"⟩, 48)]
theorem lw_r3 : ∀ q ∈ lw_privs_3, lw_okq q := List.forall_mem_cons.mpr ⟨lw_p32, List.forall_mem_cons.mpr ⟨lw_p33, List.forall_mem_cons.mpr ⟨lw_p34, List.forall_mem_cons.mpr ⟨lw_p35, List.forall_mem_cons.mpr ⟨lw_p36, List.forall_mem_cons.mpr ⟨lw_p37, List.forall_mem_cons.mpr ⟨lw_p38, List.forall_mem_cons.mpr ⟨lw_p39, List.forall_mem_cons.mpr ⟨lw_p40, List.forall_mem_cons.mpr ⟨lw_p41, List.forall_mem_cons.mpr ⟨lw_p42, List.forall_mem_cons.mpr ⟨lw_p43, List.forall_mem_cons.mpr ⟨lw_p44, List.forall_mem_cons.mpr ⟨lw_p45, List.forall_mem_cons.mpr ⟨lw_p46, List.forall_mem_cons.mpr ⟨lw_p47, fun _ h => absurd h List.not_mem_nil⟩⟩⟩⟩⟩⟩⟩⟩⟩⟩⟩⟩⟩⟩⟩⟩
theorem lw_p48 : lw_okq (⟨"SampleAnalyserModel", "placeFor", "(II)I"⟩, 48) := ⟨⟨by decide +kernel, by decide +kernel⟩, List.mem_of_getElem? (i := 904) (by decide +kernel), List.mem_of_getElem? (i := 1227) (by decide +kernel), List.mem_of_getElem? (i := 1228) (by decide +kernel)⟩
theorem lw_p49 : lw_okq (⟨"SampleAnalyserModel", "clean", "()I"⟩, 48) := ⟨⟨by decide +kernel, by decide +kernel⟩, List.mem_of_getElem? (i := 904) (by decide +kernel), List.mem_of_getElem? (i := 1231) (by decide +kernel), List.mem_of_getElem? (i := 1232) (by decide +kernel)⟩
theorem lw_p50 : lw_okq (⟨"SampleAnalyserModel", "allowed", "()Z"⟩, 48) := ⟨⟨by decide +kernel, by decide +kernel⟩, List.mem_of_getElem? (i := 904) (by decide +kernel), List.mem_of_getElem? (i := 1235) (by decide +kernel), List.mem_of_getElem? (i := 1236) (by decide +kernel)⟩
theorem lw_p51 : lw_okq (⟨"SampleAnalyserModel", "follows", "(II)Z"⟩, 48) := ⟨⟨by decide +kernel, by decide +kernel⟩, List.mem_of_getElem? (i := 904) (by decide +kernel), List.mem_of_getElem? (i := 1239) (by decide +kernel), List.mem_of_getElem? (i := 1240) (by decide +kernel)⟩
theorem lw_p52 : lw_okq (⟨"SampleAnalyserModel", "nextUse", "(I)I"⟩, 48) := ⟨⟨by decide +kernel, by decide +kernel⟩, List.mem_of_getElem? (i := 904) (by decide +kernel), List.mem_of_getElem? (i := 1243) (by decide +kernel), List.mem_of_getElem? (i := 1244) (by decide +kernel)⟩
theorem lw_p53 : lw_okq (⟨"SampleAnalyserModel", "start", "(IIII)V"⟩, 48) := ⟨⟨by decide +kernel, by decide +kernel⟩, List.mem_of_getElem? (i := 904) (by decide +kernel), List.mem_of_getElem? (i := 1247) (by decide +kernel), List.mem_of_getElem? (i := 1248) (by decide +kernel)⟩
theorem lw_p54 : lw_okq (⟨"SampleAnalyserModel", "above", "(II)J"⟩, 48) := ⟨⟨by decide +kernel, by decide +kernel⟩, List.mem_of_getElem? (i := 904) (by decide +kernel), List.mem_of_getElem? (i := 1275) (by decide +kernel), List.mem_of_getElem? (i := 1276) (by decide +kernel)⟩
def lw_privs_4 : List (MethodName × Nat) := [(⟨"SampleAnalyserModel", "placeFor", "(II)I"⟩, 48), (⟨"SampleAnalyserModel", "clean", "()I"⟩, 48), (⟨"SampleAnalyserModel", "allowed", "()Z"⟩, 48), (⟨"SampleAnalyserModel", "follows", "(II)Z"⟩, 48), (⟨"SampleAnalyserModel", "nextUse", "(I)I"⟩, 48), (⟨"SampleAnalyserModel", "start", "(IIII)V"⟩, 48), (⟨"SampleAnalyserModel", "above", "(II)J"⟩, 48)]
theorem lw_r4 : ∀ q ∈ lw_privs_4, lw_okq q := List.forall_mem_cons.mpr ⟨lw_p48, List.forall_mem_cons.mpr ⟨lw_p49, List.forall_mem_cons.mpr ⟨lw_p50, List.forall_mem_cons.mpr ⟨lw_p51, List.forall_mem_cons.mpr ⟨lw_p52, List.forall_mem_cons.mpr ⟨lw_p53, List.forall_mem_cons.mpr ⟨lw_p54, fun _ h => absurd h List.not_mem_nil⟩⟩⟩⟩⟩⟩⟩
def lw_privs : List (MethodName × Nat) := lw_privs_1 ++ (lw_privs_2 ++ (lw_privs_3 ++ (lw_privs_4)))
def lw_tbl : List Cond := k2_sels lw_privs ++ tables_1
theorem lw_privs_ok : ∀ q ∈ lw_privs, lw_okq q := by
  show ∀ q ∈ lw_privs_1 ++ (lw_privs_2 ++ (lw_privs_3 ++ (lw_privs_4))), lw_okq q
  exact List.forall_mem_append.mpr ⟨lw_r1, List.forall_mem_append.mpr ⟨lw_r2, List.forall_mem_append.mpr ⟨lw_r3, lw_r4⟩⟩⟩
end
section
def RX0 : String := "SampleAnalyser$Curve"
def TX0 : u_T := fun k => match k with
  | 0 => ("SampleAnalyser$Curve", "xs", "[I", true)
  | 1 => ("SampleAnalyser$Curve", "values", "[I", true)
  | _ => ("SampleAnalyser$Curve", "size", "I", false)
def tyX0 : Nat → FieldType := fun k => match k with
  | 0 => .array .int
  | 1 => .array .int
  | _ => .int
theorem nmX0 : ∀ a, a < 3 → ∀ b, b < 3 → a ≠ b → (TX0 a).2.1 ≠ (TX0 b).2.1 := by decide +kernel
theorem tyX0_ok : ∀ k, k < 3 → parseFieldDescriptor (TX0 k).2.2.1 = some (tyX0 k) := by decide +kernel
abbrev cX0_init : ByteArray := prog_2_method_1_code
def yX0_init : MethodName := ⟨RX0, "<init>", "()V"⟩
abbrev cX0_accepts : ByteArray := prog_2_method_2_code
def yX0_accepts : MethodName := ⟨RX0, "accepts", "(I)Z"⟩
abbrev cX0_takes : ByteArray := prog_2_method_3_code
def yX0_takes : MethodName := ⟨RX0, "takes", "(I)Z"⟩
abbrev cX0_add : ByteArray := prog_2_method_4_code
def yX0_add : MethodName := ⟨RX0, "add", "(II)V"⟩
abbrev cX0_isComplete : ByteArray := prog_2_method_5_code
def yX0_isComplete : MethodName := ⟨RX0, "isComplete", "()Z"⟩
abbrev cX0_isMonotone : ByteArray := prog_2_method_6_code
def yX0_isMonotone : MethodName := ⟨RX0, "isMonotone", "(I)Z"⟩
abbrev cX0_valueAt : ByteArray := prog_2_method_7_code
def yX0_valueAt : MethodName := ⟨RX0, "valueAt", "(J)J"⟩
def RX1 : String := "SampleAnalyser$Cuvette"
def TX1 : u_T := fun k => match k with
  | 0 => ("SampleAnalyser$Cuvette", "readings", "[I", true)
  | 1 => ("SampleAnalyser$Cuvette", "readingCount", "I", false)
  | 2 => ("SampleAnalyser$Cuvette", "sources", "[I", true)
  | 3 => ("SampleAnalyser$Cuvette", "doses", "[I", true)
  | 4 => ("SampleAnalyser$Cuvette", "dosesGiven", "I", false)
  | 5 => ("SampleAnalyser$Cuvette", "order", "I", false)
  | 6 => ("SampleAnalyser$Cuvette", "control", "Z", false)
  | 7 => ("SampleAnalyser$Cuvette", "age", "I", false)
  | 8 => ("SampleAnalyser$Cuvette", "wash", "I", false)
  | _ => ("SampleAnalyser$Cuvette", "content", "I", false)
def tyX1 : Nat → FieldType := fun k => match k with
  | 0 => .array .int
  | 1 => .int
  | 2 => .array .int
  | 3 => .array .int
  | 4 => .int
  | 5 => .int
  | 6 => .boolean
  | 7 => .int
  | 8 => .int
  | _ => .int
theorem nmX1 : ∀ a, a < 10 → ∀ b, b < 10 → a ≠ b → (TX1 a).2.1 ≠ (TX1 b).2.1 := by decide +kernel
theorem tyX1_ok : ∀ k, k < 10 → parseFieldDescriptor (TX1 k).2.2.1 = some (tyX1 k) := by decide +kernel
abbrev cX1_init : ByteArray := prog_3_method_1_code
def yX1_init : MethodName := ⟨RX1, "<init>", "()V"⟩
abbrev cX1_isClean : ByteArray := prog_3_method_2_code
def yX1_isClean : MethodName := ⟨RX1, "isClean", "()Z"⟩
abbrev cX1_turn : ByteArray := prog_3_method_3_code
def yX1_turn : MethodName := ⟨RX1, "turn", "()V"⟩
abbrev cX1_start : ByteArray := prog_3_method_4_code
def yX1_start : MethodName := ⟨RX1, "start", "(IZ)V"⟩
abbrev cX1_addReading : ByteArray := prog_3_method_5_code
def yX1_addReading : MethodName := ⟨RX1, "addReading", "(I)V"⟩
abbrev cX1_sendToWash : ByteArray := prog_3_method_6_code
def yX1_sendToWash : MethodName := ⟨RX1, "sendToWash", "()V"⟩
def RX2 : String := "SampleAnalyser$History"
def TX2 : u_T := fun k => match k with
  | 0 => ("SampleAnalyser$History", "values", "[I", true)
  | _ => ("SampleAnalyser$History", "size", "I", false)
def tyX2 : Nat → FieldType := fun k => match k with
  | 0 => .array .int
  | _ => .int
theorem nmX2 : ∀ a, a < 2 → ∀ b, b < 2 → a ≠ b → (TX2 a).2.1 ≠ (TX2 b).2.1 := by decide +kernel
theorem tyX2_ok : ∀ k, k < 2 → parseFieldDescriptor (TX2 k).2.2.1 = some (tyX2 k) := by decide +kernel
abbrev cX2_init : ByteArray := prog_4_method_1_code
def yX2_init : MethodName := ⟨RX2, "<init>", "()V"⟩
abbrev cX2_append : ByteArray := prog_4_method_2_code
def yX2_append : MethodName := ⟨RX2, "append", "(I)V"⟩
abbrev cX2_fromLatest : ByteArray := prog_4_method_3_code
def yX2_fromLatest : MethodName := ⟨RX2, "fromLatest", "(I)I"⟩
abbrev cX2_above : ByteArray := prog_4_method_4_code
def yX2_above : MethodName := ⟨RX2, "above", "(JI)I"⟩
abbrev cX2_below : ByteArray := prog_4_method_5_code
def yX2_below : MethodName := ⟨RX2, "below", "(JI)I"⟩
def RX3 : String := "SampleAnalyser$HostQueue"
def TX3 : u_T := fun k => match k with
  | 0 => ("SampleAnalyser$HostQueue", "numbers", "[I", true)
  | _ => ("SampleAnalyser$HostQueue", "size", "I", false)
def tyX3 : Nat → FieldType := fun k => match k with
  | 0 => .array .int
  | _ => .int
theorem nmX3 : ∀ a, a < 2 → ∀ b, b < 2 → a ≠ b → (TX3 a).2.1 ≠ (TX3 b).2.1 := by decide +kernel
theorem tyX3_ok : ∀ k, k < 2 → parseFieldDescriptor (TX3 k).2.2.1 = some (tyX3 k) := by decide +kernel
abbrev cX3_init : ByteArray := prog_5_method_1_code
def yX3_init : MethodName := ⟨RX3, "<init>", "()V"⟩
abbrev cX3_append : ByteArray := prog_5_method_2_code
def yX3_append : MethodName := ⟨RX3, "append", "(I)V"⟩
abbrev cX3_dropFirst : ByteArray := prog_5_method_3_code
def yX3_dropFirst : MethodName := ⟨RX3, "dropFirst", "(I)V"⟩
def RX4 : String := "SampleAnalyser$Order"
def TX4 : u_T := fun k => match k with
  | 0 => ("SampleAnalyser$Order", "code", "I", false)
  | 1 => ("SampleAnalyser$Order", "test", "I", false)
  | 2 => ("SampleAnalyser$Order", "urgent", "Z", false)
  | 3 => ("SampleAnalyser$Order", "state", "I", false)
  | 4 => ("SampleAnalyser$Order", "reason", "I", false)
  | 5 => ("SampleAnalyser$Order", "runs", "I", false)
  | 6 => ("SampleAnalyser$Order", "diluted", "Z", false)
  | 7 => ("SampleAnalyser$Order", "cuvette", "I", false)
  | 8 => ("SampleAnalyser$Order", "value", "I", false)
  | _ => ("SampleAnalyser$Order", "flags", "I", false)
def tyX4 : Nat → FieldType := fun k => match k with
  | 0 => .int
  | 1 => .int
  | 2 => .boolean
  | 3 => .int
  | 4 => .int
  | 5 => .int
  | 6 => .boolean
  | 7 => .int
  | 8 => .int
  | _ => .int
theorem nmX4 : ∀ a, a < 10 → ∀ b, b < 10 → a ≠ b → (TX4 a).2.1 ≠ (TX4 b).2.1 := by decide +kernel
theorem tyX4_ok : ∀ k, k < 10 → parseFieldDescriptor (TX4 k).2.2.1 = some (tyX4 k) := by decide +kernel
abbrev cX4_init : ByteArray := prog_6_method_1_code
def yX4_init : MethodName := ⟨RX4, "<init>", "()V"⟩
abbrev cX4_place : ByteArray := prog_6_method_2_code
def yX4_place : MethodName := ⟨RX4, "place", "(IIZ)V"⟩
abbrev cX4_isOpen : ByteArray := prog_6_method_3_code
def yX4_isOpen : MethodName := ⟨RX4, "isOpen", "()Z"⟩
abbrev cX4_startRun : ByteArray := prog_6_method_4_code
def yX4_startRun : MethodName := ⟨RX4, "startRun", "(I)V"⟩
abbrev cX4_waitAgain : ByteArray := prog_6_method_5_code
def yX4_waitAgain : MethodName := ⟨RX4, "waitAgain", "(Z)V"⟩
abbrev cX4_breakOff : ByteArray := prog_6_method_6_code
def yX4_breakOff : MethodName := ⟨RX4, "breakOff", "(I)V"⟩
abbrev cX4_fail : ByteArray := prog_6_method_7_code
def yX4_fail : MethodName := ⟨RX4, "fail", "(I)V"⟩
abbrev cX4_release : ByteArray := prog_6_method_8_code
def yX4_release : MethodName := ⟨RX4, "release", "(II)V"⟩
abbrev cX4_runFlags : ByteArray := prog_6_method_9_code
def yX4_runFlags : MethodName := ⟨RX4, "runFlags", "()I"⟩
def RX5 : String := "SampleAnalyser$Position"
def TX5 : u_T := fun k => match k with
  | 0 => ("SampleAnalyser$Position", "kind", "I", false)
  | 1 => ("SampleAnalyser$Position", "volume", "I", false)
  | 2 => ("SampleAnalyser$Position", "reserved", "I", false)
  | _ => ("SampleAnalyser$Position", "expires", "I", false)
def tyX5 : Nat → FieldType := fun k => match k with
  | 0 => .int
  | 1 => .int
  | 2 => .int
  | _ => .int
theorem nmX5 : ∀ a, a < 4 → ∀ b, b < 4 → a ≠ b → (TX5 a).2.1 ≠ (TX5 b).2.1 := by decide +kernel
theorem tyX5_ok : ∀ k, k < 4 → parseFieldDescriptor (TX5 k).2.2.1 = some (tyX5 k) := by decide +kernel
abbrev cX5_init : ByteArray := prog_7_method_1_code
def yX5_init : MethodName := ⟨RX5, "<init>", "()V"⟩
abbrev cX5_isEmpty : ByteArray := prog_7_method_2_code
def yX5_isEmpty : MethodName := ⟨RX5, "isEmpty", "()Z"⟩
abbrev cX5_fill : ByteArray := prog_7_method_3_code
def yX5_fill : MethodName := ⟨RX5, "fill", "(III)V"⟩
abbrev cX5_canGive : ByteArray := prog_7_method_4_code
def yX5_canGive : MethodName := ⟨RX5, "canGive", "(III)Z"⟩
def RX6 : String := "SampleAnalyser$Protocol"
def TX6 : u_T := fun k => match k with
  | 0 => ("SampleAnalyser$Protocol", "fields", "[I", true)
  | 1 => ("SampleAnalyser$Protocol", "points", "LSampleAnalyser$Curve;", true)
  | 2 => ("SampleAnalyser$Protocol", "history", "LSampleAnalyser$History;", true)
  | _ => ("SampleAnalyser$Protocol", "sealed", "Z", false)
def tyX6 : Nat → FieldType := fun k => match k with
  | 0 => .array .int
  | 1 => .object "SampleAnalyser$Curve"
  | 2 => .object "SampleAnalyser$History"
  | _ => .boolean
theorem nmX6 : ∀ a, a < 4 → ∀ b, b < 4 → a ≠ b → (TX6 a).2.1 ≠ (TX6 b).2.1 := by decide +kernel
theorem tyX6_ok : ∀ k, k < 4 → parseFieldDescriptor (TX6 k).2.2.1 = some (tyX6 k) := by decide +kernel
abbrev cX6_init : ByteArray := prog_8_method_1_code
def yX6_init : MethodName := ⟨RX6, "<init>", "()V"⟩
abbrev cX6_accepts : ByteArray := prog_8_method_2_code
def yX6_accepts : MethodName := ⟨RX6, "accepts", "(II)Z"⟩
abbrev cX6_kindOf : ByteArray := prog_8_method_3_code
def yX6_kindOf : MethodName := ⟨RX6, "kindOf", "(I)I"⟩
abbrev cX6_doseOf : ByteArray := prog_8_method_4_code
def yX6_doseOf : MethodName := ⟨RX6, "doseOf", "(I)I"⟩
abbrev cX6_ageOf : ByteArray := prog_8_method_5_code
def yX6_ageOf : MethodName := ⟨RX6, "ageOf", "(I)I"⟩
abbrev cX6_lacks : ByteArray := prog_8_method_6_code
def yX6_lacks : MethodName := ⟨RX6, "lacks", "(II)Z"⟩
abbrev cX6_sampleVolume : ByteArray := prog_8_method_7_code
def yX6_sampleVolume : MethodName := ⟨RX6, "sampleVolume", "(Z)I"⟩
abbrev cX6_isComplete : ByteArray := prog_8_method_8_code
def yX6_isComplete : MethodName := ⟨RX6, "isComplete", "()Z"⟩
abbrev cX6_areReagentsRight : ByteArray := prog_8_method_9_code
def yX6_areReagentsRight : MethodName := ⟨RX6, "areReagentsRight", "()Z"⟩
abbrev cX6_isReagentRight : ByteArray := prog_8_method_10_code
def yX6_isReagentRight : MethodName := ⟨RX6, "isReagentRight", "(I)Z"⟩
abbrev cX6_areReadingsRight : ByteArray := prog_8_method_11_code
def yX6_areReadingsRight : MethodName := ⟨RX6, "areReadingsRight", "()Z"⟩
abbrev cX6_isDilutionRight : ByteArray := prog_8_method_12_code
def yX6_isDilutionRight : MethodName := ⟨RX6, "isDilutionRight", "()Z"⟩
abbrev cX6_isReadAt : ByteArray := prog_8_method_13_code
def yX6_isReadAt : MethodName := ⟨RX6, "isReadAt", "(I)Z"⟩
abbrev cX6_isOverAt : ByteArray := prog_8_method_14_code
def yX6_isOverAt : MethodName := ⟨RX6, "isOverAt", "(I)Z"⟩
abbrev cX6_dilutes : ByteArray := prog_8_method_15_code
def yX6_dilutes : MethodName := ⟨RX6, "dilutes", "()Z"⟩
abbrev cX6_asksAgain : ByteArray := prog_8_method_16_code
def yX6_asksAgain : MethodName := ⟨RX6, "asksAgain", "(I)Z"⟩
abbrev cX6_limitFlags : ByteArray := prog_8_method_17_code
def yX6_limitFlags : MethodName := ⟨RX6, "limitFlags", "(I)I"⟩
abbrev cX6_valueAt : ByteArray := prog_8_method_18_code
def yX6_valueAt : MethodName := ⟨RX6, "valueAt", "(JZ)J"⟩
abbrev cX6_formulaOf : ByteArray := prog_8_method_19_code
def yX6_formulaOf : MethodName := ⟨RX6, "formulaOf", "([II)J"⟩
abbrev cX6_rateOf : ByteArray := prog_8_method_20_code
def yX6_rateOf : MethodName := ⟨RX6, "rateOf", "([II)J"⟩
abbrev cX6_brokenRules : ByteArray := prog_8_method_21_code
def yX6_brokenRules : MethodName := ⟨RX6, "brokenRules", "()I"⟩
def RX7 : String := "SampleAnalyser$ReagentArm"
def TX7 : u_T := fun k => match k with
  | 0 => ("SampleAnalyser$ReagentArm", "kinds", "[I", true)
  | 1 => ("SampleAnalyser$ReagentArm", "users", "[I", true)
  | _ => ("SampleAnalyser$ReagentArm", "forbidden", "[Z", true)
def tyX7 : Nat → FieldType := fun k => match k with
  | 0 => .array .int
  | 1 => .array .int
  | _ => .array .boolean
theorem nmX7 : ∀ a, a < 3 → ∀ b, b < 3 → a ≠ b → (TX7 a).2.1 ≠ (TX7 b).2.1 := by decide +kernel
theorem tyX7_ok : ∀ k, k < 3 → parseFieldDescriptor (TX7 k).2.2.1 = some (tyX7 k) := by decide +kernel
abbrev cX7_init : ByteArray := prog_9_method_1_code
def yX7_init : MethodName := ⟨RX7, "<init>", "()V"⟩
abbrev cX7_turnSuccession : ByteArray := prog_9_method_2_code
def yX7_turnSuccession : MethodName := ⟨RX7, "turnSuccession", "(II)Z"⟩
abbrev cX7_turn : ByteArray := prog_9_method_3_code
def yX7_turn : MethodName := ⟨RX7, "turn", "()V"⟩
abbrev cX7_userNow : ByteArray := prog_9_method_4_code
def yX7_userNow : MethodName := ⟨RX7, "userNow", "()I"⟩
abbrev cX7_book : ByteArray := prog_9_method_5_code
def yX7_book : MethodName := ⟨RX7, "book", "(LSampleAnalyser$Protocol;I)Z"⟩
abbrev cX7_isFree : ByteArray := prog_9_method_6_code
def yX7_isFree : MethodName := ⟨RX7, "isFree", "(I)Z"⟩
abbrev cX7_hasForbiddenSuccession : ByteArray := prog_9_method_7_code
def yX7_hasForbiddenSuccession : MethodName := ⟨RX7, "hasForbiddenSuccession", "()Z"⟩
abbrev cX7_cancel : ByteArray := prog_9_method_8_code
def yX7_cancel : MethodName := ⟨RX7, "cancel", "(I)V"⟩
abbrev cX7_clear : ByteArray := prog_9_method_9_code
def yX7_clear : MethodName := ⟨RX7, "clear", "(I)V"⟩
def RX8 : String := "SampleAnalyser$Slot"
def TX8 : u_T := fun k => match k with
  | 0 => ("SampleAnalyser$Slot", "code", "I", false)
  | 1 => ("SampleAnalyser$Slot", "control", "Z", false)
  | _ => ("SampleAnalyser$Slot", "volume", "I", false)
def tyX8 : Nat → FieldType := fun k => match k with
  | 0 => .int
  | 1 => .boolean
  | _ => .int
theorem nmX8 : ∀ a, a < 3 → ∀ b, b < 3 → a ≠ b → (TX8 a).2.1 ≠ (TX8 b).2.1 := by decide +kernel
theorem tyX8_ok : ∀ k, k < 3 → parseFieldDescriptor (TX8 k).2.2.1 = some (tyX8 k) := by decide +kernel
abbrev cX8_init : ByteArray := prog_10_method_1_code
def yX8_init : MethodName := ⟨RX8, "<init>", "()V"⟩
abbrev cX8_isEmpty : ByteArray := prog_10_method_2_code
def yX8_isEmpty : MethodName := ⟨RX8, "isEmpty", "()Z"⟩
abbrev cX8_fill : ByteArray := prog_10_method_3_code
def yX8_fill : MethodName := ⟨RX8, "fill", "(IZI)V"⟩
def RX9 : String := "SampleAnalyser"
def TX9 : u_T := fun k => match k with
  | 0 => ("SampleAnalyser", "protocols", "[LSampleAnalyser$Protocol;", true)
  | 1 => ("SampleAnalyser", "slots", "[LSampleAnalyser$Slot;", true)
  | 2 => ("SampleAnalyser", "positions", "[LSampleAnalyser$Position;", true)
  | 3 => ("SampleAnalyser", "cuvettes", "[LSampleAnalyser$Cuvette;", true)
  | 4 => ("SampleAnalyser", "orders", "[LSampleAnalyser$Order;", true)
  | 5 => ("SampleAnalyser", "arm", "LSampleAnalyser$ReagentArm;", true)
  | 6 => ("SampleAnalyser", "queue", "LSampleAnalyser$HostQueue;", true)
  | 7 => ("SampleAnalyser", "orderCount", "I", false)
  | 8 => ("SampleAnalyser", "minute", "I", false)
  | 9 => ("SampleAnalyser", "counts", "I", false)
  | 10 => ("SampleAnalyser", "clotIsDue", "Z", false)
  | 11 => ("SampleAnalyser", "missIsDue", "Z", false)
  | _ => ("SampleAnalyser", "idleSteps", "I", false)
def tyX9 : Nat → FieldType := fun k => match k with
  | 0 => .array (.object "SampleAnalyser$Protocol")
  | 1 => .array (.object "SampleAnalyser$Slot")
  | 2 => .array (.object "SampleAnalyser$Position")
  | 3 => .array (.object "SampleAnalyser$Cuvette")
  | 4 => .array (.object "SampleAnalyser$Order")
  | 5 => .object "SampleAnalyser$ReagentArm"
  | 6 => .object "SampleAnalyser$HostQueue"
  | 7 => .int
  | 8 => .int
  | 9 => .int
  | 10 => .boolean
  | 11 => .boolean
  | _ => .int
theorem nmX9 : ∀ a, a < 13 → ∀ b, b < 13 → a ≠ b → (TX9 a).2.1 ≠ (TX9 b).2.1 := by decide +kernel
theorem tyX9_ok : ∀ k, k < 13 → parseFieldDescriptor (TX9 k).2.2.1 = some (tyX9 k) := by decide +kernel
abbrev cX9_init : ByteArray := prog_1_method_1_code
def yX9_init : MethodName := ⟨RX9, "<init>", "()V"⟩
abbrev cX9_define : ByteArray := prog_1_method_2_code
def yX9_define : MethodName := ⟨RX9, "define", "(III)V"⟩
abbrev cX9_curve : ByteArray := prog_1_method_3_code
def yX9_curve : MethodName := ⟨RX9, "curve", "(III)I"⟩
abbrev cX9_seal : ByteArray := prog_1_method_4_code
def yX9_seal : MethodName := ⟨RX9, "seal", "(I)Z"⟩
abbrev cX9_rack : ByteArray := prog_1_method_5_code
def yX9_rack : MethodName := ⟨RX9, "rack", "(IIII)V"⟩
abbrev cX9_removeRack : ByteArray := prog_1_method_6_code
def yX9_removeRack : MethodName := ⟨RX9, "removeRack", "(I)I"⟩
abbrev cX9_reagent : ByteArray := prog_1_method_7_code
def yX9_reagent : MethodName := ⟨RX9, "reagent", "(IIII)V"⟩
abbrev cX9_forbid : ByteArray := prog_1_method_8_code
def yX9_forbid : MethodName := ⟨RX9, "forbid", "(II)Z"⟩
abbrev cX9_order : ByteArray := prog_1_method_9_code
def yX9_order : MethodName := ⟨RX9, "order", "(IIZ)I"⟩
abbrev cX9_clock : ByteArray := prog_1_method_10_code
def yX9_clock : MethodName := ⟨RX9, "clock", "(I)V"⟩
abbrev cX9_light : ByteArray := prog_1_method_11_code
def yX9_light : MethodName := ⟨RX9, "light", "(I)V"⟩
abbrev cX9_spoil : ByteArray := prog_1_method_12_code
def yX9_spoil : MethodName := ⟨RX9, "spoil", "(I)V"⟩
abbrev cX9_step : ByteArray := prog_1_method_13_code
def yX9_step : MethodName := ⟨RX9, "step", "()I"⟩
abbrev cX9_idle : ByteArray := prog_1_method_14_code
def yX9_idle : MethodName := ⟨RX9, "idle", "()I"⟩
abbrev cX9_state : ByteArray := prog_1_method_15_code
def yX9_state : MethodName := ⟨RX9, "state", "(II)I"⟩
abbrev cX9_cuvette : ByteArray := prog_1_method_16_code
def yX9_cuvette : MethodName := ⟨RX9, "cuvette", "(II)I"⟩
abbrev cX9_volume : ByteArray := prog_1_method_17_code
def yX9_volume : MethodName := ⟨RX9, "volume", "(II)I"⟩
abbrev cX9_trend : ByteArray := prog_1_method_18_code
def yX9_trend : MethodName := ⟨RX9, "trend", "(II)I"⟩
abbrev cX9_rules : ByteArray := prog_1_method_19_code
def yX9_rules : MethodName := ⟨RX9, "rules", "(I)I"⟩
abbrev cX9_host : ByteArray := prog_1_method_20_code
def yX9_host : MethodName := ⟨RX9, "host", "(I)I"⟩
abbrev cX9_took : ByteArray := prog_1_method_21_code
def yX9_took : MethodName := ⟨RX9, "took", "(I)I"⟩
abbrev cX9_turnDisc : ByteArray := prog_1_method_22_code
def yX9_turnDisc : MethodName := ⟨RX9, "turnDisc", "()V"⟩
abbrev cX9_giveReagent : ByteArray := prog_1_method_23_code
def yX9_giveReagent : MethodName := ⟨RX9, "giveReagent", "()V"⟩
abbrev cX9_giveNextDose : ByteArray := prog_1_method_24_code
def yX9_giveNextDose : MethodName := ⟨RX9, "giveNextDose", "(LSampleAnalyser$Cuvette;)V"⟩
abbrev cX9_takeReadings : ByteArray := prog_1_method_25_code
def yX9_takeReadings : MethodName := ⟨RX9, "takeReadings", "()V"⟩
abbrev cX9_judgeEndedRuns : ByteArray := prog_1_method_26_code
def yX9_judgeEndedRuns : MethodName := ⟨RX9, "judgeEndedRuns", "()V"⟩
abbrev cX9_judge : ByteArray := prog_1_method_27_code
def yX9_judge : MethodName := ⟨RX9, "judge", "(ILSampleAnalyser$Cuvette;)V"⟩
abbrev cX9_startFirst : ByteArray := prog_1_method_28_code
def yX9_startFirst : MethodName := ⟨RX9, "startFirst", "(Z)I"⟩
abbrev cX9_tryStart : ByteArray := prog_1_method_29_code
def yX9_tryStart : MethodName := ⟨RX9, "tryStart", "(I)Z"⟩
abbrev cX9_reserve : ByteArray := prog_1_method_30_code
def yX9_reserve : MethodName := ⟨RX9, "reserve", "(LSampleAnalyser$Cuvette;III)V"⟩
abbrev cX9_takeSample : ByteArray := prog_1_method_31_code
def yX9_takeSample : MethodName := ⟨RX9, "takeSample", "(LSampleAnalyser$Slot;II)V"⟩
abbrev cX9_breakOff : ByteArray := prog_1_method_32_code
def yX9_breakOff : MethodName := ⟨RX9, "breakOff", "(II)V"⟩
abbrev cX9_isOrdered : ByteArray := prog_1_method_33_code
def yX9_isOrdered : MethodName := ⟨RX9, "isOrdered", "(I)Z"⟩
abbrev cX9_isAwaited : ByteArray := prog_1_method_34_code
def yX9_isAwaited : MethodName := ⟨RX9, "isAwaited", "(I)Z"⟩
abbrev cX9_slotOf : ByteArray := prog_1_method_35_code
def yX9_slotOf : MethodName := ⟨RX9, "slotOf", "(I)I"⟩
abbrev cX9_cleanCuvette : ByteArray := prog_1_method_36_code
def yX9_cleanCuvette : MethodName := ⟨RX9, "cleanCuvette", "()I"⟩
abbrev cX9_positionFor : ByteArray := prog_1_method_37_code
def yX9_positionFor : MethodName := ⟨RX9, "positionFor", "(LSampleAnalyser$Protocol;II)I"⟩
abbrev cX9_cuvetteOf : ByteArray := prog_1_method_38_code
def yX9_cuvetteOf : MethodName := ⟨RX9, "cuvetteOf", "(LSampleAnalyser$Order;)LSampleAnalyser$Cuvette;"⟩
abbrev cX9_isWithin : ByteArray := prog_1_method_39_code
def yX9_isWithin : MethodName := ⟨RX9, "isWithin", "(III)Z"⟩
abbrev cX9_absorbanceOf : ByteArray := prog_1_method_40_code
def yX9_absorbanceOf : MethodName := ⟨RX9, "absorbanceOf", "(I)I"⟩
abbrev cX9_limited : ByteArray := prog_1_method_41_code
def yX9_limited : MethodName := ⟨RX9, "limited", "(J)I"⟩
abbrev cX9_rounded : ByteArray := prog_1_method_42_code
def yX9_rounded : MethodName := ⟨RX9, "rounded", "(JJ)J"⟩
abbrev cX9_demandArgument : ByteArray := prog_1_method_43_code
def yX9_demandArgument : MethodName := ⟨RX9, "demandArgument", "(Z)V"⟩
abbrev cX9_demandState : ByteArray := prog_1_method_44_code
def yX9_demandState : MethodName := ⟨RX9, "demandState", "(Z)V"⟩
abbrev cX9_demandElement : ByteArray := prog_1_method_45_code
def yX9_demandElement : MethodName := ⟨RX9, "demandElement", "(Z)V"⟩
abbrev cX9_demandIndex : ByteArray := prog_1_method_46_code
def yX9_demandIndex : MethodName := ⟨RX9, "demandIndex", "(Z)V"⟩
def RX10 : String := "SampleAnalyserModel"
def TX10 : u_T := fun k => match k with
  | 0 => ("SampleAnalyserModel", "field", "[I", true)
  | 1 => ("SampleAnalyserModel", "sealed", "[Z", true)
  | 2 => ("SampleAnalyserModel", "curveX", "[I", true)
  | 3 => ("SampleAnalyserModel", "curveY", "[I", true)
  | 4 => ("SampleAnalyserModel", "points", "[I", true)
  | 5 => ("SampleAnalyserModel", "history", "[I", true)
  | 6 => ("SampleAnalyserModel", "past", "[I", true)
  | 7 => ("SampleAnalyserModel", "slotCode", "[I", true)
  | 8 => ("SampleAnalyserModel", "slotKind", "[I", true)
  | 9 => ("SampleAnalyserModel", "slotVolume", "[I", true)
  | 10 => ("SampleAnalyserModel", "placeKind", "[I", true)
  | 11 => ("SampleAnalyserModel", "placeVolume", "[I", true)
  | 12 => ("SampleAnalyserModel", "placeExpires", "[I", true)
  | 13 => ("SampleAnalyserModel", "forbidden", "[Z", true)
  | 14 => ("SampleAnalyserModel", "orders", "I", false)
  | 15 => ("SampleAnalyserModel", "code", "[I", true)
  | 16 => ("SampleAnalyserModel", "testOf", "[I", true)
  | 17 => ("SampleAnalyserModel", "urgent", "[Z", true)
  | 18 => ("SampleAnalyserModel", "status", "[I", true)
  | 19 => ("SampleAnalyserModel", "reason", "[I", true)
  | 20 => ("SampleAnalyserModel", "runs", "[I", true)
  | 21 => ("SampleAnalyserModel", "cuvette", "[I", true)
  | 22 => ("SampleAnalyserModel", "age", "[I", true)
  | 23 => ("SampleAnalyserModel", "diluted", "[Z", true)
  | 24 => ("SampleAnalyserModel", "control", "[Z", true)
  | 25 => ("SampleAnalyserModel", "readings", "[I", true)
  | 26 => ("SampleAnalyserModel", "readingsLong", "[I", true)
  | 27 => ("SampleAnalyserModel", "value", "[I", true)
  | 28 => ("SampleAnalyserModel", "flags", "[I", true)
  | 29 => ("SampleAnalyserModel", "wash", "[I", true)
  | 30 => ("SampleAnalyserModel", "inCuvette", "[I", true)
  | 31 => ("SampleAnalyserModel", "bookStep", "[I", true)
  | 32 => ("SampleAnalyserModel", "bookKind", "[I", true)
  | 33 => ("SampleAnalyserModel", "bookPlace", "[I", true)
  | 34 => ("SampleAnalyserModel", "bookVolume", "[I", true)
  | 35 => ("SampleAnalyserModel", "bookOrder", "[I", true)
  | 36 => ("SampleAnalyserModel", "books", "I", false)
  | 37 => ("SampleAnalyserModel", "usedStep", "I", false)
  | 38 => ("SampleAnalyserModel", "usedKind", "I", false)
  | 39 => ("SampleAnalyserModel", "host", "[I", true)
  | 40 => ("SampleAnalyserModel", "hostLong", "I", false)
  | 41 => ("SampleAnalyserModel", "now", "I", false)
  | 42 => ("SampleAnalyserModel", "steps", "I", false)
  | 43 => ("SampleAnalyserModel", "idleSteps", "I", false)
  | 44 => ("SampleAnalyserModel", "counts", "I", false)
  | 45 => ("SampleAnalyserModel", "thrown", "I", false)
  | 46 => ("SampleAnalyserModel", "clot", "Z", false)
  | _ => ("SampleAnalyserModel", "miss", "Z", false)
def tyX10 : Nat → FieldType := fun k => match k with
  | 0 => .array .int
  | 1 => .array .boolean
  | 2 => .array .int
  | 3 => .array .int
  | 4 => .array .int
  | 5 => .array .int
  | 6 => .array .int
  | 7 => .array .int
  | 8 => .array .int
  | 9 => .array .int
  | 10 => .array .int
  | 11 => .array .int
  | 12 => .array .int
  | 13 => .array .boolean
  | 14 => .int
  | 15 => .array .int
  | 16 => .array .int
  | 17 => .array .boolean
  | 18 => .array .int
  | 19 => .array .int
  | 20 => .array .int
  | 21 => .array .int
  | 22 => .array .int
  | 23 => .array .boolean
  | 24 => .array .boolean
  | 25 => .array .int
  | 26 => .array .int
  | 27 => .array .int
  | 28 => .array .int
  | 29 => .array .int
  | 30 => .array .int
  | 31 => .array .int
  | 32 => .array .int
  | 33 => .array .int
  | 34 => .array .int
  | 35 => .array .int
  | 36 => .int
  | 37 => .int
  | 38 => .int
  | 39 => .array .int
  | 40 => .int
  | 41 => .int
  | 42 => .int
  | 43 => .int
  | 44 => .int
  | 45 => .int
  | 46 => .boolean
  | _ => .boolean
theorem nmX10 : ∀ a, a < 48 → ∀ b, b < 48 → a ≠ b → (TX10 a).2.1 ≠ (TX10 b).2.1 := by decide +kernel
theorem tyX10_ok : ∀ k, k < 48 → parseFieldDescriptor (TX10 k).2.2.1 = some (tyX10 k) := by decide +kernel
abbrev cX10_init : ByteArray := prog_12_method_1_code
def yX10_init : MethodName := ⟨RX10, "<init>", "()V"⟩
abbrev cX10_thrown : ByteArray := prog_12_method_2_code
def yX10_thrown : MethodName := ⟨RX10, "thrown", "()I"⟩
abbrev cX10_within : ByteArray := prog_12_method_3_code
def yX10_within : MethodName := ⟨RX10, "within", "(III)Z"⟩
abbrev cX10_isTest : ByteArray := prog_12_method_4_code
def yX10_isTest : MethodName := ⟨RX10, "isTest", "(I)Z"⟩
abbrev cX10_of : ByteArray := prog_12_method_5_code
def yX10_of : MethodName := ⟨RX10, "of", "(II)I"⟩
abbrev cX10_pending : ByteArray := prog_12_method_6_code
def yX10_pending : MethodName := ⟨RX10, "pending", "(I)Z"⟩
abbrev cX10_fits : ByteArray := prog_12_method_7_code
def yX10_fits : MethodName := ⟨RX10, "fits", "(II)Z"⟩
abbrev cX10_define : ByteArray := prog_12_method_8_code
def yX10_define : MethodName := ⟨RX10, "define", "(III)V"⟩
abbrev cX10_curve : ByteArray := prog_12_method_9_code
def yX10_curve : MethodName := ⟨RX10, "curve", "(III)I"⟩
abbrev cX10_reagentGood : ByteArray := prog_12_method_10_code
def yX10_reagentGood : MethodName := ⟨RX10, "reagentGood", "(II)Z"⟩
abbrev cX10_curveGood : ByteArray := prog_12_method_11_code
def yX10_curveGood : MethodName := ⟨RX10, "curveGood", "(I)Z"⟩
abbrev cX10_seal : ByteArray := prog_12_method_12_code
def yX10_seal : MethodName := ⟨RX10, "seal", "(I)Z"⟩
abbrev cX10_slotOf : ByteArray := prog_12_method_13_code
def yX10_slotOf : MethodName := ⟨RX10, "slotOf", "(I)I"⟩
abbrev cX10_rack : ByteArray := prog_12_method_14_code
def yX10_rack : MethodName := ⟨RX10, "rack", "(IIII)V"⟩
abbrev cX10_removeRack : ByteArray := prog_12_method_15_code
def yX10_removeRack : MethodName := ⟨RX10, "removeRack", "(I)I"⟩
abbrev cX10_reserved : ByteArray := prog_12_method_16_code
def yX10_reserved : MethodName := ⟨RX10, "reserved", "(I)I"⟩
abbrev cX10_reagent : ByteArray := prog_12_method_17_code
def yX10_reagent : MethodName := ⟨RX10, "reagent", "(IIII)V"⟩
abbrev cX10_forbid : ByteArray := prog_12_method_18_code
def yX10_forbid : MethodName := ⟨RX10, "forbid", "(II)Z"⟩
abbrev cX10_order : ByteArray := prog_12_method_19_code
def yX10_order : MethodName := ⟨RX10, "order", "(IIZ)I"⟩
abbrev cX10_clock : ByteArray := prog_12_method_20_code
def yX10_clock : MethodName := ⟨RX10, "clock", "(I)V"⟩
abbrev cX10_light : ByteArray := prog_12_method_21_code
def yX10_light : MethodName := ⟨RX10, "light", "(I)V"⟩
abbrev cX10_spoil : ByteArray := prog_12_method_22_code
def yX10_spoil : MethodName := ⟨RX10, "spoil", "(I)V"⟩
abbrev cX10_cancel : ByteArray := prog_12_method_23_code
def yX10_cancel : MethodName := ⟨RX10, "cancel", "(I)V"⟩
abbrev cX10_copyBook : ByteArray := prog_12_method_24_code
def yX10_copyBook : MethodName := ⟨RX10, "copyBook", "(II)V"⟩
abbrev cX10_nextUse : ByteArray := prog_12_method_25_code
def yX10_nextUse : MethodName := ⟨RX10, "nextUse", "(I)I"⟩
abbrev cX10_follows : ByteArray := prog_12_method_26_code
def yX10_follows : MethodName := ⟨RX10, "follows", "(II)Z"⟩
abbrev cX10_allowed : ByteArray := prog_12_method_27_code
def yX10_allowed : MethodName := ⟨RX10, "allowed", "()Z"⟩
abbrev cX10_placeFor : ByteArray := prog_12_method_28_code
def yX10_placeFor : MethodName := ⟨RX10, "placeFor", "(II)I"⟩
abbrev cX10_book : ByteArray := prog_12_method_29_code
def yX10_book : MethodName := ⟨RX10, "book", "(I)Z"⟩
abbrev cX10_fail : ByteArray := prog_12_method_30_code
def yX10_fail : MethodName := ⟨RX10, "fail", "(II)V"⟩
abbrev cX10_leave : ByteArray := prog_12_method_31_code
def yX10_leave : MethodName := ⟨RX10, "leave", "(I)V"⟩
abbrev cX10_breaksOff : ByteArray := prog_12_method_32_code
def yX10_breaksOff : MethodName := ⟨RX10, "breaksOff", "(II)V"⟩
abbrev cX10_give : ByteArray := prog_12_method_33_code
def yX10_give : MethodName := ⟨RX10, "give", "()V"⟩
abbrev cX10_absorbance : ByteArray := prog_12_method_34_code
def yX10_absorbance : MethodName := ⟨RX10, "absorbance", "(I)I"⟩
abbrev cX10_floor : ByteArray := prog_12_method_35_code
def yX10_floor : MethodName := ⟨RX10, "floor", "(JJ)J"⟩
abbrev cX10_rounded : ByteArray := prog_12_method_36_code
def yX10_rounded : MethodName := ⟨RX10, "rounded", "(JJ)J"⟩
abbrev cX10_resultOf : ByteArray := prog_12_method_37_code
def yX10_resultOf : MethodName := ⟨RX10, "resultOf", "(I)J"⟩
abbrev cX10_byCurve : ByteArray := prog_12_method_38_code
def yX10_byCurve : MethodName := ⟨RX10, "byCurve", "(IJ)J"⟩
abbrev cX10_release : ByteArray := prog_12_method_39_code
def yX10_release : MethodName := ⟨RX10, "release", "(III)V"⟩
abbrev cX10_remember : ByteArray := prog_12_method_40_code
def yX10_remember : MethodName := ⟨RX10, "remember", "(II)V"⟩
abbrev cX10_judge : ByteArray := prog_12_method_41_code
def yX10_judge : MethodName := ⟨RX10, "judge", "(I)V"⟩
abbrev cX10_goOn : ByteArray := prog_12_method_42_code
def yX10_goOn : MethodName := ⟨RX10, "goOn", "()V"⟩
abbrev cX10_measure : ByteArray := prog_12_method_43_code
def yX10_measure : MethodName := ⟨RX10, "measure", "()V"⟩
abbrev cX10_clean : ByteArray := prog_12_method_44_code
def yX10_clean : MethodName := ⟨RX10, "clean", "()I"⟩
abbrev cX10_start : ByteArray := prog_12_method_45_code
def yX10_start : MethodName := ⟨RX10, "start", "(IIII)V"⟩
abbrev cX10_tries : ByteArray := prog_12_method_46_code
def yX10_tries : MethodName := ⟨RX10, "tries", "(I)Z"⟩
abbrev cX10_startOne : ByteArray := prog_12_method_47_code
def yX10_startOne : MethodName := ⟨RX10, "startOne", "()I"⟩
abbrev cX10_step : ByteArray := prog_12_method_48_code
def yX10_step : MethodName := ⟨RX10, "step", "()I"⟩
abbrev cX10_idle : ByteArray := prog_12_method_49_code
def yX10_idle : MethodName := ⟨RX10, "idle", "()I"⟩
abbrev cX10_state : ByteArray := prog_12_method_50_code
def yX10_state : MethodName := ⟨RX10, "state", "(II)I"⟩
abbrev cX10_cuvette : ByteArray := prog_12_method_51_code
def yX10_cuvette : MethodName := ⟨RX10, "cuvette", "(II)I"⟩
abbrev cX10_volume : ByteArray := prog_12_method_52_code
def yX10_volume : MethodName := ⟨RX10, "volume", "(II)I"⟩
abbrev cX10_trend : ByteArray := prog_12_method_53_code
def yX10_trend : MethodName := ⟨RX10, "trend", "(II)I"⟩
abbrev cX10_above : ByteArray := prog_12_method_54_code
def yX10_above : MethodName := ⟨RX10, "above", "(II)J"⟩
abbrev cX10_rules : ByteArray := prog_12_method_55_code
def yX10_rules : MethodName := ⟨RX10, "rules", "(I)I"⟩
abbrev cX10_host : ByteArray := prog_12_method_56_code
def yX10_host : MethodName := ⟨RX10, "host", "(I)I"⟩
abbrev cX10_took : ByteArray := prog_12_method_57_code
def yX10_took : MethodName := ⟨RX10, "took", "(I)I"⟩
def RJ9 : String := "java/lang/Math"
abbrev cJ9_floorDiv_f86c9 : ByteArray := prog_17_method_49_code
def yJ9_floorDiv_f86c9 : MethodName := ⟨RJ9, "floorDiv", "(JJ)J"⟩
abbrev cJ9_max_f86c9 : ByteArray := prog_17_method_66_code
def yJ9_max_f86c9 : MethodName := ⟨RJ9, "max", "(JJ)J"⟩
abbrev cJ9_min_f86c9 : ByteArray := prog_17_method_70_code
def yJ9_min_f86c9 : MethodName := ⟨RJ9, "min", "(JJ)J"⟩
def RL : String := "SampleAnalyserLaw"
abbrev cL_define : ByteArray := method_3_code
def yL_define : MethodName := ⟨RL, "define", "(LSampleAnalyser;III)I"⟩
abbrev cL_curve : ByteArray := method_4_code
def yL_curve : MethodName := ⟨RL, "curve", "(LSampleAnalyser;III[J)I"⟩
abbrev cL_seal : ByteArray := method_5_code
def yL_seal : MethodName := ⟨RL, "seal", "(LSampleAnalyser;I[J)I"⟩
abbrev cL_rack : ByteArray := method_6_code
def yL_rack : MethodName := ⟨RL, "rack", "(LSampleAnalyser;IIII)I"⟩
abbrev cL_removeRack : ByteArray := method_7_code
def yL_removeRack : MethodName := ⟨RL, "removeRack", "(LSampleAnalyser;I[J)I"⟩
abbrev cL_reagent : ByteArray := method_8_code
def yL_reagent : MethodName := ⟨RL, "reagent", "(LSampleAnalyser;IIII)I"⟩
abbrev cL_forbid : ByteArray := method_9_code
def yL_forbid : MethodName := ⟨RL, "forbid", "(LSampleAnalyser;II[J)I"⟩
abbrev cL_order : ByteArray := method_10_code
def yL_order : MethodName := ⟨RL, "order", "(LSampleAnalyser;IIZ[J)I"⟩
abbrev cL_clock : ByteArray := method_11_code
def yL_clock : MethodName := ⟨RL, "clock", "(LSampleAnalyser;I)I"⟩
abbrev cL_light : ByteArray := method_12_code
def yL_light : MethodName := ⟨RL, "light", "(LSampleAnalyser;I)I"⟩
abbrev cL_spoil : ByteArray := method_13_code
def yL_spoil : MethodName := ⟨RL, "spoil", "(LSampleAnalyser;I)I"⟩
abbrev cL_state : ByteArray := method_14_code
def yL_state : MethodName := ⟨RL, "state", "(LSampleAnalyser;II[J)I"⟩
abbrev cL_cuvette : ByteArray := method_15_code
def yL_cuvette : MethodName := ⟨RL, "cuvette", "(LSampleAnalyser;II[J)I"⟩
abbrev cL_volume : ByteArray := method_16_code
def yL_volume : MethodName := ⟨RL, "volume", "(LSampleAnalyser;II[J)I"⟩
abbrev cL_trend : ByteArray := method_17_code
def yL_trend : MethodName := ⟨RL, "trend", "(LSampleAnalyser;II[J)I"⟩
abbrev cL_rules : ByteArray := method_18_code
def yL_rules : MethodName := ⟨RL, "rules", "(LSampleAnalyser;I[J)I"⟩
abbrev cL_host : ByteArray := method_19_code
def yL_host : MethodName := ⟨RL, "host", "(LSampleAnalyser;I[J)I"⟩
abbrev cL_took : ByteArray := method_20_code
def yL_took : MethodName := ⟨RL, "took", "(LSampleAnalyser;I[J)I"⟩
abbrev cL_law : ByteArray := code
def yL_law : MethodName := ⟨RL, "law", "([I)Z"⟩
abbrev vwCl : List vw_C := [(RX0, TX0, 3), (RX1, TX1, 10), (RX2, TX2, 2), (RX3, TX3, 2), (RX4, TX4, 10), (RX5, TX5, 4), (RX6, TX6, 4), (RX7, TX7, 3), (RX8, TX8, 3), (RX9, TX9, 13), (RX10, TX10, 48)]
end
section
/-! ===== BEGIN exceptions that leave a method, and their catching by the caller (launches without stack traces) ===== -/
section VXA
/-! The laws vx_back, vx_callV, vx_callS, vx_callSW, vx_throw0, vx_throwS follow proofs of the library, with one case more: JvmDerived/Free/Laws.lean (Back.of_free), Shelf42/LK1.lean (callV, callS), Shelf/KitTraced.lean (throwNew0V, throwNewS). -/
/-- where a method has thrown q: the class by its name, the cell, what was written, the world -/
def vx_T (XC : String → State → State → Prop) (st : State) (q : Addr) (t : State) (mc ms : Nat) (free : Addr → Prop) : Prop :=
  ∃ (E : String) (ce : Cell) (L : List Loc), XC E st t ∧ t.heap[q]? = some ce ∧ ce.vm = .none ∧ st.vm.findClass E = some ce.cls ∧ st.WarmedH t.vm ∧ st.sameButNew ({ t with vm := st.vm } : State) L mc ms ∧ ∀ z ∈ L, free z.base
def vx_Q (Qc : Array Value → State → Outcome → State → Prop) (XC : String → State → State → Prop) (mc ms : Nat) (free : Addr → Prop) : Array Value → State → Outcome → State → Prop := fun a st o t =>
  (Qc a st o t ∧ ∃ L, FrameEnd st o t L mc ms ∧ ∀ q ∈ L, free q.base) ∨ ∃ q, o = .threw q ∧ vx_T XC st q t mc ms free
/-- a callee that returns or throws -/
def vx_Met (l : Launch) (y : MethodName) (ws : List Cond) (rm : Room) (Pc : Array Value → State → Prop) (Qc : Array Value → State → Outcome → State → Prop) (XC : String → State → State → Prop) (mc ms : Nat) (free : Addr → Prop) : Prop :=
  MetFree l y (headSpec ws rm) Pc (fun _ _ _ _ _ => True) (vx_Q Qc XC mc ms free)
def vx_Post (XC : String → State → State → Prop) (mc ms : Nat) (free : Addr → Prop) : Pt → Array Value → Addr → Pt → Prop := fun A a q B =>
  ∃ (g : JFrame) (mk : MethodId) (t : State) (L : List Loc) (E : String) (ce : Cell), B.U.heap = t.heap ∧ B.U.vm = t.vm ∧ XC E (A.U.calling g mk a) t ∧ t.heap[q]? = some ce ∧ ce.vm = .none ∧ A.U.vm.findClass E = some ce.cls ∧ B.locs = A.locs ++ L ∧ (∀ z ∈ L, free z.base) ∧ B.cells = A.cells + mc ∧ B.slots = A.slots + ms
def vx_Back (l : Launch) (R : Room) (p : Program) (e : Env) (below : List Frame) (s : State) (sargs : Array Value) (y : MethodName) (len W9 : Nat)
    (Pre : Pt → Array Value → Prop) (Post : Pt → Array Value → Option Value → Pt → Prop) (PostX : Pt → Array Value → Addr → Pt → Prop) : Prop :=
  ∀ (m : MethodId) (meth : Method) (c : Code) (A : Pt) (g : JFrame) (ig : Instr) (mk : MethodId) (a : Array Value),
    Stand p l e R s m sargs below meth c A.U A.locs A.cells A.slots → g.method = m → g.locals.size = c.maxLocals → decode c.code g.pc = .ok (ig, len) →
    2 * g.monitorRoom + (g.stack.map fun v => v.category).sum ≤ W9 → A.U.methodNamed? y = some mk → Pre A a →
    (∃ (v : Option Value) (B : Pt), Stand p l e R s m sargs below meth c B.U B.locs B.cells B.slots ∧ Post A a v B ∧
      Steps p.tables e below (doInvoke e (A.U.setTop g) [] mk a).1 (B.U.setTop { g with pc := g.pc + len, stack := v.toList ++ g.stack })) ∨
    (∃ (q : Addr) (B : Pt), Stand p l e R s m sargs below meth c B.U B.locs B.cells B.slots ∧ PostX A a q B ∧
      Steps p.tables e below (doInvoke e (A.U.setTop g) [] mk a).1 ((B.U.setTop g).pushFrame (.throwing q)))
section Payer
variable {l : Launch} {R : Room} {p : Program} {e : Env} {below : List Frame} {s : State} {sargs : Array Value} {y : MethodName} {len W9 : Nat}
theorem vx_back {ws : List Cond} {rm : Room} {Pc : Array Value → State → Prop} {Qc : Array Value → State → Outcome → State → Prop} {XC : String → State → State → Prop} {mc ms : Nat} {free : Addr → Prop} {bytes : ByteArray} {maxL : Nat} {ret : Option FieldType}
    (hM : vx_Met l y ws rm Pc Qc XC mc ms free) (hblind : FrameBlind Pc) (hrc : rm.cells = mc) (hrs : rm.slots = ms)
    (hframes : rm.frames + 1 ≤ R.frames) (hlocals : W9 + (maxL + 11) + rm.locals ≤ R.locals)
    (hws : ∀ w ∈ ws, ∀ a' U, s.WarmedH U.vm → w.before a' U = true) (hcode : Cond.code y bytes maxL ret ∈ ws) (hinit : ∀ a' U, s.WarmedH U.vm → (Cond.initialized y.cls).before a' U = true) :
    vx_Back l R p e below s sargs y len W9 (PreOf R mc ms Pc) (PostOf Qc mc ms free) (vx_Post XC mc ms free) := by
  intro m meth c A g ig mk a X hg hsize hdg hW hn hp
  have h1 : (headSpec ws rm).pre.before a A.U = true := atoms_intro fun w hw => hws w hw _ _ X.warmed
  have h2 : (Cond.code y bytes maxL ret).before a A.U = true := hws _ hcode _ _ X.warmed
  have h3 : (Cond.initialized y.cls).before a A.U = true := hinit _ _ X.warmed
  have h4 : A.cells + (headSpec ws rm).room.cells ≤ R.cells := by rw [show (headSpec ws rm).room.cells = mc from hrc]; exact hp.1
  have h5 : A.slots + (headSpec ws rm).room.slots ≤ R.slots := by rw [show (headSpec ws rm).room.slots = ms from hrs]; exact hp.2.1
  have hPc : Pc a (A.U.calling g mk a) := hblind _ _ _ _ hp.2.2
  obtain ⟨U, Ls, c0, s0⟩ := A
  dsimp only [Pt.U, Pt.locs, Pt.cells, Pt.slots] at h1 h2 h3 h4 h5 X hn hPc ⊢
  obtain ⟨methY, cY, hmY, hcY, -, hlY, -, -, -, -⟩ := Cond.code_spec hn h2
  obtain ⟨kY, hkY, -⟩ := className_of_methodNamed hn
  have hinitY : kY.init = .initialized := Cond.initialized_spec (findClass_of_methodNamed hn) hkY h3
  have h : At U g.method c below := by rw [hg]; exact X.here
  have hlocals9 : W9 + (maxL + 11) + (headSpec ws rm).room.locals ≤ R.locals := hlocals
  have happ : (headSpec ws rm).appliesLoose y e.platform (U.calling g mk a) = true :=
    Spec.appliesLoose_calling (g := g) h hdg hn hkY hinitY
      (X.room_calling (g := g) (R' := (headSpec ws rm).room) hsize hmY hcY hframes (by rw [hlY]; omega) h4 h5) h1
  obtain ⟨mid, hmid⟩ := h.above
  have hfr : (U.setTop g).frames = (.java g :: mid) ++ below := by rw [State.frames_setTop' g h.top, hmid]; rfl
  obtain ⟨o, s₂, hsteps, -, hend, hq⟩ := Steps.callFree hM p X.admits X.cas X.clock (acts := []) hfr happ hPc trivial
  have hq' : vx_Q Qc XC mc ms free a (U.calling g mk a) o s₂ := hq
  rw [State.frames_setTop' g h.top] at hend
  obtain ⟨g₀, hg0⟩ := Option.isSome_iff_exists.mp h.top
  obtain ⟨r, hr⟩ := State.topJava?_eq_some.mp hg0
  have hr' : (({ U with heap := s₂.heap, slotsUsed := s₂.slotsUsed } : State).setVm s₂.vm).frames = .java g₀ :: r := hr
  rcases hq' with ⟨hqc, L, hfe, hL⟩ | ⟨q, rfl, E, ce, L, hx, hce, hcv, hcl, hW₂, hsm, hL⟩
  · obtain ⟨⟨v, rfl⟩, hW₂, e2, q2, q3, q4, q5, q6⟩ := id hfe
    have e3 : s₂ = ({ (U.calling g mk a).setFrames s₂.frames with heap := s₂.heap, slotsUsed := s₂.slotsUsed } : State).setVm s₂.vm := by
      have : s₂ = ({ s₂ with vm := (U.calling g mk a).vm } : State).setVm s₂.vm := rfl
      rw [e2] at this
      exact this
    obtain ⟨c₂, i₂, len₂, hc₂, hd₂, hf₂⟩ := hend
    have hW' : U.WarmedH s₂.vm := hW₂
    have hcc : c₂ = c := by
      have h1 : s₂.code? g.method = U.code? g.method := by
        rw [State.code?_eq, State.code?_eq, hW'.alike.method?]
      exact Option.some.inj (hc₂.symm.trans (h1.trans h.code))
    subst hcc
    have hlen : len₂ = len := by rw [hdg] at hd₂; cases hd₂; rfl
    subst hlen
    have hs₂ : s₂ = (({ U with heap := s₂.heap, slotsUsed := s₂.slotsUsed } : State).setVm s₂.vm).setTop { g with pc := g.pc + len₂, stack := v.toList ++ g.stack } := by
      refine e3.trans ?_
      rw [hf₂, State.calling_eq h.top, State.setFrames_setFrames, State.setTop_of_frames _ hr', hr]
      rfl
    have hsame : U.sameButNew ({ U with heap := s₂.heap, slotsUsed := s₂.slotsUsed } : State) L mc ms := by
      refine ⟨?_, q2, q3, q4, q5, q6⟩
      obtain ⟨t, ht, -⟩ := State.frames_cons hr
      show ({ U with heap := s₂.heap, slotsUsed := s₂.slotsUsed } : State) = { U.setFrames U.frames with heap := s₂.heap, slotsUsed := s₂.slotsUsed }
      rw [State.setFrames_self ht]
    subst hg
    refine Or.inl ⟨v, ⟨(({ U with heap := s₂.heap, slotsUsed := s₂.slotsUsed } : State).setVm s₂.vm), Ls ++ L, c0 + mc, s0 + ms⟩,
      ⟨X.admits, X.cas, X.clock, X.frames, X.room, X.hears, X.method, X.code, (X.here.setHeapUsed s₂.heap s₂.slotsUsed).setVm hW'.alike, X.tail, State.WarmedH.trans X.warmed hW', X.limits, X.bytes, X.same.trans (hsame.setVm s.vm)⟩,
      ⟨g, mk, s₂, L, rfl, rfl, hqc, rfl, hL, rfl, rfl⟩, ?_⟩
    show Steps p.tables e below _ ((({ U with heap := s₂.heap, slotsUsed := s₂.slotsUsed } : State).setVm s₂.vm).setTop { g with pc := g.pc + len₂, stack := v.toList ++ g.stack })
    rw [← hs₂]
    exact hsteps
  · obtain ⟨e2, q2, q3, q4, q5, q6⟩ := id hsm
    have e3 : s₂ = ({ (U.calling g mk a).setFrames s₂.frames with heap := s₂.heap, slotsUsed := s₂.slotsUsed } : State).setVm s₂.vm := by
      have : s₂ = ({ s₂ with vm := (U.calling g mk a).vm } : State).setVm s₂.vm := rfl
      rw [e2] at this
      exact this
    have hf₂ : s₂.frames = .throwing q :: .java g :: U.frames.tail := hend
    have hW' : U.WarmedH s₂.vm := hW₂
    have hs₂ : s₂ = ((({ U with heap := s₂.heap, slotsUsed := s₂.slotsUsed } : State).setVm s₂.vm).setTop g).pushFrame (.throwing q) := by
      refine e3.trans ?_
      rw [hf₂, State.calling_eq h.top, State.setFrames_setFrames, State.pushFrame, State.frames_setTop _ hr', State.setTop_of_frames _ hr', State.setFrames_setFrames, hr]
      rfl
    have hsame : U.sameButNew ({ U with heap := s₂.heap, slotsUsed := s₂.slotsUsed } : State) L mc ms := by
      refine ⟨?_, q2, q3, q4, q5, q6⟩
      obtain ⟨t, ht, -⟩ := State.frames_cons hr
      show ({ U with heap := s₂.heap, slotsUsed := s₂.slotsUsed } : State) = { U.setFrames U.frames with heap := s₂.heap, slotsUsed := s₂.slotsUsed }
      rw [State.setFrames_self ht]
    subst hg
    refine Or.inr ⟨q, ⟨(({ U with heap := s₂.heap, slotsUsed := s₂.slotsUsed } : State).setVm s₂.vm), Ls ++ L, c0 + mc, s0 + ms⟩,
      ⟨X.admits, X.cas, X.clock, X.frames, X.room, X.hears, X.method, X.code, (X.here.setHeapUsed s₂.heap s₂.slotsUsed).setVm hW'.alike, X.tail, State.WarmedH.trans X.warmed hW', X.limits, X.bytes, X.same.trans (hsame.setVm s.vm)⟩,
      ⟨g, mk, s₂, L, E, ce, rfl, rfl, hx, hce, hcv, hcl, rfl, hL, rfl, rfl⟩, ?_⟩
    show Steps p.tables e below _ (((({ U with heap := s₂.heap, slotsUsed := s₂.slotsUsed } : State).setVm s₂.vm).setTop g).pushFrame (.throwing q))
    rw [← hs₂]
    exact hsteps
end Payer
section Calls
variable {p : Program} {l : Launch} {e : Env} {R : Room} {s : State} {m : MethodId} {args : Array Value} {below : List Frame} {meth : Method} {c : Code} {T : State} {locs : List Loc} {cells slots : Nat}
theorem vx_callV (X : Stand p l e R s m args below meth c T locs cells slots) (hexec : p.tables.exec = Jvm.exec) {own C : String} {index : Nat} {y : MethodName} {bytes : ByteArray} {maxL : Nat} {ret : Option FieldType}
    (hown : s.vm.findClass own = some m.cls) (hlink : (Cond.methodLink own index y).before args s = true) (hinst : (Cond.instanceMethod y).before args s = true) (hsel : (Cond.selects C y y).before args s = true)
    (hcode : (Cond.code y bytes maxL ret).before args s = true) (hy : y.cls ≠ "java/lang/invoke/MethodHandle" ∧ y.cls ≠ "java/lang/invoke/VarHandle")
    {W9 : Nat} {Pre : Pt → Array Value → Prop} {Post : Pt → Array Value → Option Value → Pt → Prop} {PostX : Pt → Array Value → Addr → Pt → Prop} (hK : vx_Back l R p e below s args y 3 W9 Pre Post PostX)
    {b : Addr} {cellB : Cell} (hcell : T.heap[b]? = some cellB) (hobj : cellB.vm.isStatics = false) (hcls : s.vm.findClass C = some cellB.cls)
    {g : JFrame} (hg : g.method = m) (hsize : g.locals.size = c.maxLocals) {argsL rest : List Value} (hlen : ∀ sig, parseMethodDescriptor y.desc = some sig → argsL.length = sig.parameters.length)
    (hstack : g.stack = argsL.reverse ++ .ref b :: rest) (hW : 2 * g.monitorRoom + (rest.map fun v => v.category).sum ≤ W9) (hdg : decode c.code g.pc = .ok (.invokevirtual index, 3))
    (hpre : ∀ vm₁, s.WarmedH vm₁ → Pre ⟨T.setVm vm₁, locs, cells, slots⟩ (Value.ref b :: argsL).toArray) :
    (∃ (v : Option Value) (vm₁ : Vm) (B : Pt), s.WarmedH vm₁ ∧ Stand p l e R s m args below meth c B.U B.locs B.cells B.slots ∧ Post ⟨T.setVm vm₁, locs, cells, slots⟩ (Value.ref b :: argsL).toArray v B ∧
      ∀ target, Steps p.tables e below (B.U.setTop { g with pc := g.pc + 3, stack := v.toList ++ rest }) target → Steps p.tables e below (T.setTop g) target) ∨
    (∃ (q : Addr) (vm₁ : Vm) (B : Pt), s.WarmedH vm₁ ∧ Stand p l e R s m args below meth c B.U B.locs B.cells B.slots ∧ PostX ⟨T.setVm vm₁, locs, cells, slots⟩ (Value.ref b :: argsL).toArray q B ∧
      Steps p.tables e below (T.setTop g) ((B.U.setTop { g with stack := rest }).pushFrame (.throwing q))) := by
  obtain ⟨mk, methM, hnamed, hmethM, hstM, habM⟩ := Cond.instanceMethod_spec hinst
  obtain ⟨methM', cM, hmethM', -, -, -, -, -, -, hsigM⟩ := Cond.code_spec hnamed hcode
  cases hmethM.symm.trans hmethM'
  obtain ⟨c2, r2, m2, q1, q2, q3, q4, kP, hkP, hkPi⟩ := Cond.selects_spec hsel
  cases hcls.symm.trans q1
  cases (State.methodFound?_of_named hnamed hy).symm.trans q2
  cases hnamed.symm.trans q3
  have hselP : selectMethod e.platform s.vm cellB.cls mk = .method mk := by rw [Launch.admits_selectMethod X.admits]; exact q4
  obtain ⟨vm₁, X₁, hstep₁⟩ := X.invokevirtual hexec hown hlink hnamed hmethM hstM hkP hkPi hy (a := b) (cell := cellB) hcell
    (fun z h => by rw [h] at hobj; cases hobj) hselP hmethM habM hkP hkPi (g := g) hg (argsL := argsL) (rest := rest) (hlen _ hsigM) hstack hdg
  rcases hK m meth c ⟨T.setVm vm₁, locs, cells, slots⟩ { g with stack := rest } (.invokevirtual index) mk (Value.ref b :: argsL).toArray X₁ hg hsize hdg hW (X₁.named hnamed) (hpre vm₁ X₁.warmed) with ⟨v, B, X', hpost, hsteps⟩ | ⟨q, B, X', hpost, hsteps⟩
  · exact Or.inl ⟨v, vm₁, B, X₁.warmed, X', hpost, fun target h => hstep₁ _ fun acts => by rw [doInvoke_state]; exact hsteps.trans h⟩
  · exact Or.inr ⟨q, vm₁, B, X₁.warmed, X', hpost, hstep₁ _ fun acts => by rw [doInvoke_state]; exact hsteps⟩
theorem vx_callS (X : Stand p l e R s m args below meth c T locs cells slots) (hexec : p.tables.exec = Jvm.exec) {own : String} {index : Nat} {y : MethodName} {bytes : ByteArray} {maxL : Nat} {ret : Option FieldType}
    (hown : s.vm.findClass own = some m.cls) (hlink : (Cond.methodLink own index y).before args s = true) (hstat : (Cond.static y).before args s = true) (hinit : (Cond.initialized y.cls).before args s = true)
    (hcode : (Cond.code y bytes maxL ret).before args s = true) (hy : y.cls ≠ "java/lang/invoke/MethodHandle" ∧ y.cls ≠ "java/lang/invoke/VarHandle")
    {W9 : Nat} {Pre : Pt → Array Value → Prop} {Post : Pt → Array Value → Option Value → Pt → Prop} {PostX : Pt → Array Value → Addr → Pt → Prop} (hK : vx_Back l R p e below s args y 3 W9 Pre Post PostX)
    {g : JFrame} (hg : g.method = m) (hsize : g.locals.size = c.maxLocals) {argsL rest : List Value} (hlen : ∀ sig, parseMethodDescriptor y.desc = some sig → argsL.length = sig.parameters.length)
    (hstack : g.stack = argsL.reverse ++ rest) (hW : 2 * g.monitorRoom + (rest.map fun v => v.category).sum ≤ W9) (hdg : decode c.code g.pc = .ok (.invokestatic index, 3))
    (hpre : ∀ vm₁, s.WarmedH vm₁ → Pre ⟨T.setVm vm₁, locs, cells, slots⟩ argsL.toArray) :
    (∃ (v : Option Value) (vm₁ : Vm) (B : Pt), s.WarmedH vm₁ ∧ Stand p l e R s m args below meth c B.U B.locs B.cells B.slots ∧ Post ⟨T.setVm vm₁, locs, cells, slots⟩ argsL.toArray v B ∧
      ∀ target, Steps p.tables e below (B.U.setTop { g with pc := g.pc + 3, stack := v.toList ++ rest }) target → Steps p.tables e below (T.setTop g) target) ∨
    (∃ (q : Addr) (vm₁ : Vm) (B : Pt), s.WarmedH vm₁ ∧ Stand p l e R s m args below meth c B.U B.locs B.cells B.slots ∧ PostX ⟨T.setVm vm₁, locs, cells, slots⟩ argsL.toArray q B ∧
      Steps p.tables e below (T.setTop g) ((B.U.setTop { g with stack := rest }).pushFrame (.throwing q))) := by
  obtain ⟨mk, hnamed⟩ := Cond.code_named hcode
  obtain ⟨methM, cM, hmethM, -, -, -, -, -, -, hsigM⟩ := Cond.code_spec hnamed hcode
  have hstatic : methM.isStatic = true := Cond.static_spec hnamed hmethM hstat
  obtain ⟨kP, hkP, -⟩ := className_of_methodNamed hnamed
  have hinitP : kP.init = .initialized := Cond.initialized_spec (findClass_of_methodNamed hnamed) hkP hinit
  obtain ⟨vm₁, X₁, hstep₁⟩ := X.invokestatic hexec hown hlink hnamed hmethM hstatic hkP hinitP hy (g := g) hg (argsL := argsL) (rest := rest) (hlen _ hsigM) hstack hdg
  rcases hK m meth c ⟨T.setVm vm₁, locs, cells, slots⟩ { g with stack := rest } (.invokestatic index) mk argsL.toArray X₁ hg hsize hdg hW (X₁.named hnamed) (hpre vm₁ X₁.warmed) with ⟨v, B, X', hpost, hsteps⟩ | ⟨q, B, X', hpost, hsteps⟩
  · exact Or.inl ⟨v, vm₁, B, X₁.warmed, X', hpost, fun target h => hstep₁ _ fun acts => by rw [doInvoke_state]; exact hsteps.trans h⟩
  · exact Or.inr ⟨q, vm₁, B, X₁.warmed, X', hpost, hstep₁ _ fun acts => by rw [doInvoke_state]; exact hsteps⟩
end Calls
theorem vx_cls {s : State} {T : State} {vm₁ : Vm} {E : String} {k : ClassId} (hW : s.WarmedH vm₁) (h : (T.setVm vm₁).vm.findClass E = some k) : s.vm.findClass E = some k := by
  have h1 : vm₁.findClass E = some k := h
  rw [hW.alike.findClass] at h1
  exact h1
/-- the method's frame g, with q thrown over it -/
def vx_W (p : Program) (l : Launch) (e : Env) (R : Room) (s : State) (m : MethodId) (args : Array Value) (below : List Frame) (meth : Method) (c : Code) (H : Heap) (locs : List Loc) (cells slots : Nat) (Q : State → Prop) (g : JFrame) (q : Addr) : Prop :=
  ∀ T : State, T.heap = H → Stand p l e R s m args below meth c T locs cells slots → ∃ t, Steps p.tables e below ((T.setTop g).pushFrame (.throwing q)) t ∧ Q t
def vx_Run (p : Program) (l : Launch) (e : Env) (R : Room) (s : State) (m : MethodId) (args : Array Value) (below : List Frame) (meth : Method) (c : Code) (H : Heap) (locs : List Loc) (cells slots mc ms : Nat) (g : JFrame) (rest : List Value) (Qa : State → Outcome → State → Prop) (XC : String → State → State → Prop) (free : Addr → Prop) : Prop :=
  ∀ T : State, T.heap = H → Stand p l e R s m args below meth c T locs cells slots →
    (∃ (v : Option Value) (st₀ t T' : State) (L : List Loc), st₀.heap = H ∧ Stand p l e R s m args below meth c T' (locs ++ L) (cells + mc) (slots + ms) ∧ (∀ q ∈ L, free q.base) ∧ T'.heap = t.heap ∧ T'.vm = t.vm ∧ Qa st₀ (.returned v) t ∧
      Goes p e below T g T' { g with pc := g.pc + 3, stack := v.toList ++ rest }) ∨
    (∃ (q : Addr) (st₀ t T' : State) (L : List Loc) (E : String) (ce : Cell), st₀.heap = H ∧ Stand p l e R s m args below meth c T' (locs ++ L) (cells + mc) (slots + ms) ∧ (∀ z ∈ L, free z.base) ∧ T'.heap = t.heap ∧ T'.vm = t.vm ∧ XC E st₀ t ∧ t.heap[q]? = some ce ∧ ce.vm = .none ∧ s.vm.findClass E = some ce.cls ∧
      Steps p.tables e below (T.setTop g) ((T'.setTop { g with stack := rest }).pushFrame (.throwing q)))
def vx_X {S : Type} (px : S → Prop) (B : String → S → State → Prop) (A : Nat → Prop) : String → State → State → Prop := fun E st t => ∃ u : S, px u ∧ B E u t ∧ va_F A st t
section Runs
variable {p : Program} {l : Launch} {e : Env} {R : Room} {s : State} {m : MethodId} {args : Array Value} {below : List Frame} {meth : Method} {c : Code} {H : Heap} {locs : List Loc} {cells slots : Nat}
variable {y : MethodName} {bytes cc : ByteArray} {maxL nL mc ms n index : Nat} {ret : Option FieldType} {ws : List Cond} {rm : Room} {Pc : Array Value → State → Prop} {Qc : Array Value → State → Outcome → State → Prop} {XC : String → State → State → Prop} {free : Addr → Prop} {Ts : List Cond} {own C : String} {b : Addr} {As rest : List Value} {g : JFrame}
theorem vx_callBack (cb : CallB R s args own index y bytes maxL ret ws rm mc ms n) (hM : vx_Met l y ws rm Pc Qc XC mc ms free) (hbl : FrameBlind Pc) : vx_Back l R p e below s args y 3 8 (PreOf R mc ms Pc) (PostOf Qc mc ms free) (vx_Post XC mc ms free) := by
  obtain ⟨hrc, hrs, hfr, hlo, hws, hcw, -, hini, -⟩ := cb
  exact vx_back (bytes := bytes) (maxL := maxL) (ret := ret) hM hbl hrc hrs hfr hlo hws hcw (fun a' U hW => word_at hW (Or.inl (by first | rfl | simp [Cond.onTables, Cond.keeps, Cond.steady])) hini)
theorem vx_runV (S : CallFix p m c cc nL s args Ts own) (hM : vx_Met l y ws rm Pc Qc XC mc ms free) (cw : CallW R s args own C index y bytes maxL ret ws rm mc ms n) (hp : PreV s H C b Pc As)
    (hg : g.method = m) (hn : As.length = n) (hsize : g.locals.size = nL) (hstack : g.stack = As.reverse ++ .ref b :: rest) (hW : 2 * g.monitorRoom + (rest.map fun v => v.category).sum ≤ 8) (hdg : decode cc g.pc = .ok (.invokevirtual index, 3)) (hf : cells + mc ≤ R.cells ∧ slots + ms ≤ R.slots) :
    vx_Run p l e R s m args below meth c H locs cells slots mc ms g rest (Qc (Value.ref b :: As).toArray) XC free := by
  have hK : vx_Back l R p e below s args y 3 8 (PreOf R mc ms Pc) (PostOf Qc mc ms free) (vx_Post XC mc ms free) := vx_callBack cw.1 hM hp.1
  obtain ⟨⟨-, -, -, -, -, -, hcode, -, hy, hlen, hl⟩, hin, hse⟩ := cw
  obtain ⟨hx, hb, hml, ho, -⟩ := S
  obtain ⟨-, ⟨cellB, hcB, hoB, hclB⟩, hPc⟩ := hp
  intro T hT X
  rcases vx_callV X hx (C := C) (bytes := bytes) (maxL := maxL) (ret := ret) ho hl hin hse hcode hy hK (by rw [hT]; exact hcB) hoB hclB hg (hsize.trans hml.symm) (argsL := As) (rest := rest) (fun sig h => hn.trans (hlen sig h)) hstack hW (by rw [hb]; exact hdg)
    (fun vm₁ hW₁ => ⟨hf.1, hf.2, hPc (T.setVm vm₁) hT hW₁⟩) with ⟨v, vm₁, ⟨U', l2, c2, s2⟩, hW₁, X', ⟨g', mk, t, L, e1, e2, hq, h1, hL, h2, h3⟩, st⟩ | ⟨q, vm₁, ⟨U', l2, c2, s2⟩, hW₁, X', ⟨g', mk, t, L, E, ce, e1, e2, hq, hce, hcv, hcl, h1, hL, h2, h3⟩, st⟩
  · dsimp only [Pt.U, Pt.locs, Pt.cells, Pt.slots] at X' e1 e2 h1 h2 h3 st
    subst h1; subst h2; subst h3
    exact Or.inl ⟨v, (T.setVm vm₁).calling g' mk (Value.ref b :: As).toArray, t, U', L, hT, X', hL, e1, e2, hq, st⟩
  · dsimp only [Pt.U, Pt.locs, Pt.cells, Pt.slots] at X' e1 e2 h1 h2 h3 st hcl
    subst h1; subst h2; subst h3
    exact Or.inr ⟨q, (T.setVm vm₁).calling g' mk (Value.ref b :: As).toArray, t, U', L, E, ce, hT, X', hL, e1, e2, hq, hce, hcv, vx_cls hW₁ hcl, st⟩
theorem vx_runS (S : CallFix p m c cc nL s args Ts own) (hM : vx_Met l y ws rm Pc Qc XC mc ms free) (cw : CallB R s args own index y bytes maxL ret ws rm mc ms n ∧ (Cond.static y).before args s = true) (hp : PreS s H Pc As)
    (hg : g.method = m) (hn : As.length = n) (hsize : g.locals.size = nL) (hstack : g.stack = As.reverse ++ rest) (hW : 2 * g.monitorRoom + (rest.map fun v => v.category).sum ≤ 8) (hdg : decode cc g.pc = .ok (.invokestatic index, 3)) (hf : cells + mc ≤ R.cells ∧ slots + ms ≤ R.slots) :
    vx_Run p l e R s m args below meth c H locs cells slots mc ms g rest (Qc As.toArray) XC free := by
  have hK : vx_Back l R p e below s args y 3 8 (PreOf R mc ms Pc) (PostOf Qc mc ms free) (vx_Post XC mc ms free) := vx_callBack cw.1 hM hp.1
  obtain ⟨⟨-, -, -, -, -, -, hcode, hini, hy, hlen, hl⟩, hstt⟩ := cw
  obtain ⟨hx, hb, hml, ho, -⟩ := S
  intro T hT X
  rcases vx_callS X hx (bytes := bytes) (maxL := maxL) (ret := ret) ho hl hstt hini hcode hy hK hg (hsize.trans hml.symm) (argsL := As) (rest := rest) (fun sig h => hn.trans (hlen sig h)) hstack hW (by rw [hb]; exact hdg)
    (fun vm₁ hW₁ => ⟨hf.1, hf.2, hp.2 (T.setVm vm₁) hT hW₁⟩) with ⟨v, vm₁, ⟨U', l2, c2, s2⟩, hW₁, X', ⟨g', mk, t, L, e1, e2, hq, h1, hL, h2, h3⟩, st⟩ | ⟨q, vm₁, ⟨U', l2, c2, s2⟩, hW₁, X', ⟨g', mk, t, L, E, ce, e1, e2, hq, hce, hcv, hcl, h1, hL, h2, h3⟩, st⟩
  · dsimp only [Pt.U, Pt.locs, Pt.cells, Pt.slots] at X' e1 e2 h1 h2 h3 st
    subst h1; subst h2; subst h3
    exact Or.inl ⟨v, (T.setVm vm₁).calling g' mk As.toArray, t, U', L, hT, X', hL, e1, e2, hq, st⟩
  · dsimp only [Pt.U, Pt.locs, Pt.cells, Pt.slots] at X' e1 e2 h1 h2 h3 st hcl
    subst h1; subst h2; subst h3
    exact Or.inr ⟨q, (T.setVm vm₁).calling g' mk As.toArray, t, U', L, E, ce, hT, X', hL, e1, e2, hq, hce, hcv, vx_cls hW₁ hcl, st⟩
end Runs
section Rows
variable {p : Program} {l : Launch} {e : Env} {R : Room} {s : State} {m : MethodId} {args : Array Value} {below : List Frame} {meth : Method} {c : Code} {H : Heap} {locs : List Loc} {cells slots : Nat} {Q : State → Prop}
variable {mc ms : Nat} {free : Addr → Prop} {A0 A1 : Nat → Prop} {H0 : Heap} {a : Array Value} {pc : Nat} {ls : Array Slot} {st0 rest : List Value}
theorem vx_keep {st₀ t T' : State} {L : List Loc} (h0 : st₀.heap = H) (e1 : T'.heap = t.heap) (hS : va_S A0 H0 H locs) (hA : ∀ q, q < H.size → A1 q → A0 q) (hf : ∀ q, free q → A0 q) (hL : ∀ q ∈ L, free q.base) (hF : va_F A1 st₀ t) :
    H.size ≤ T'.heap.size ∧ (∀ q : Nat, q < H.size → ¬ A1 q → T'.heap[q]? = H[q]?) ∧ va_S A0 H0 T'.heap (locs ++ L) := by
  obtain ⟨hz, hk⟩ := hF
  rw [h0] at hz hk
  exact ⟨by rw [e1]; exact hz, fun q h1 h2 => by rw [e1]; exact hk q h1 h2,
    ⟨Nat.le_trans hS.1 (by rw [e1]; exact hz), fun q h1 h2 => by rw [e1, hk q (Nat.lt_of_lt_of_le h1 hS.1) (fun z => h2 (hA q (Nat.lt_of_lt_of_le h1 hS.1) z))]; exact hS.2.1 q h1 h2, fun q hq => by
      rcases List.mem_append.mp hq with h | h
      · exact hS.2.2 q h
      · exact hf _ (hL q h)⟩⟩
theorem vx_calli {S SX : Type} {post : Int32 → S → Prop} {px : SX → Prop} {B : S → State → Prop} {BX : String → SX → State → Prop} {AX : Nat → Prop} (hr : vx_Run p l e R s m args below meth c H locs cells slots mc ms (F0 m pc ls st0) rest (va_Qi post B A1 a) (vx_X px BX AX) free) (hS : va_S A0 H0 H locs) (hA : ∀ q, q < H.size → A1 q → A0 q) (hf : ∀ q, free q → A0 q) (hAX : ∀ q, q < H.size → AX q → A0 q)
    (kx : ∀ (E : String) (ce : Cell) (q9 : Addr) (u : SX) (t : State) (H1 : Heap) (locs1 : List Loc), t.heap = H1 → s.vm.Alike t.vm → px u → BX E u t → H.size ≤ H1.size → (∀ q : Nat, q < H.size → ¬ AX q → H1[q]? = H[q]?) → va_S A0 H0 H1 locs1 → H1[q9]? = some ce → ce.vm = .none → s.vm.findClass E = some ce.cls → vx_W p l e R s m args below meth c H1 locs1 (cells + mc) (slots + ms) Q (F0 m pc ls rest) q9)
    (kk : ∀ (r : Int32) (u : S) (t : State) (H1 : Heap) (locs1 : List Loc), t.heap = H1 → s.vm.Alike t.vm → post r u → B u t → H.size ≤ H1.size → (∀ q : Nat, q < H.size → ¬ A1 q → H1[q]? = H[q]?) → va_S A0 H0 H1 locs1 → W p l e R s m args below meth c H1 locs1 (cells + mc) (slots + ms) Q (F0 m (pc + 3) ls (.int r :: rest))) : W p l e R s m args below meth c H locs cells slots Q (F0 m pc ls st0) := by
  intro T hT X
  rcases hr T hT X with ⟨v, st₀, t, T', L, h0, X', hL, e1, e2, ⟨⟨r, u, hv, hp, hb⟩, hF⟩, st⟩ | ⟨q, st₀, t, T', L, E, ce, h0, X', hL, e1, e2, ⟨u, hp, hb, hF⟩, hce, hcv, hcl, st⟩
  · cases hv
    obtain ⟨k1, k2, k3⟩ := vx_keep h0 e1 hS hA hf hL hF
    obtain ⟨t2, a1, b1⟩ := kk r u t T'.heap (locs ++ L) e1.symm (by rw [← e2]; exact X'.warmed.alike) hp hb k1 k2 k3 T' rfl X'
    exact ⟨t2, st t2 a1, b1⟩
  · obtain ⟨k1, k2, k3⟩ := vx_keep h0 e1 hS hAX hf hL hF
    obtain ⟨t2, a1, b1⟩ := kx E ce q u t T'.heap (locs ++ L) e1.symm (by rw [← e2]; exact X'.warmed.alike) hp hb k1 k2 k3 (by rw [e1]; exact hce) hcv hcl T' rfl X'
    exact ⟨t2, st.trans a1, b1⟩
theorem vx_calll {S SX : Type} {post : Int64 → S → Prop} {px : SX → Prop} {B : S → State → Prop} {BX : String → SX → State → Prop} {AX : Nat → Prop} (hr : vx_Run p l e R s m args below meth c H locs cells slots mc ms (F0 m pc ls st0) rest (va_Ql post B A1 a) (vx_X px BX AX) free) (hS : va_S A0 H0 H locs) (hA : ∀ q, q < H.size → A1 q → A0 q) (hf : ∀ q, free q → A0 q) (hAX : ∀ q, q < H.size → AX q → A0 q)
    (kx : ∀ (E : String) (ce : Cell) (q9 : Addr) (u : SX) (t : State) (H1 : Heap) (locs1 : List Loc), t.heap = H1 → s.vm.Alike t.vm → px u → BX E u t → H.size ≤ H1.size → (∀ q : Nat, q < H.size → ¬ AX q → H1[q]? = H[q]?) → va_S A0 H0 H1 locs1 → H1[q9]? = some ce → ce.vm = .none → s.vm.findClass E = some ce.cls → vx_W p l e R s m args below meth c H1 locs1 (cells + mc) (slots + ms) Q (F0 m pc ls rest) q9)
    (kk : ∀ (r : Int64) (u : S) (t : State) (H1 : Heap) (locs1 : List Loc), t.heap = H1 → s.vm.Alike t.vm → post r u → B u t → H.size ≤ H1.size → (∀ q : Nat, q < H.size → ¬ A1 q → H1[q]? = H[q]?) → va_S A0 H0 H1 locs1 → W p l e R s m args below meth c H1 locs1 (cells + mc) (slots + ms) Q (F0 m (pc + 3) ls (.long r :: rest))) : W p l e R s m args below meth c H locs cells slots Q (F0 m pc ls st0) := by
  intro T hT X
  rcases hr T hT X with ⟨v, st₀, t, T', L, h0, X', hL, e1, e2, ⟨⟨r, u, hv, hp, hb⟩, hF⟩, st⟩ | ⟨q, st₀, t, T', L, E, ce, h0, X', hL, e1, e2, ⟨u, hp, hb, hF⟩, hce, hcv, hcl, st⟩
  · cases hv
    obtain ⟨k1, k2, k3⟩ := vx_keep h0 e1 hS hA hf hL hF
    obtain ⟨t2, a1, b1⟩ := kk r u t T'.heap (locs ++ L) e1.symm (by rw [← e2]; exact X'.warmed.alike) hp hb k1 k2 k3 T' rfl X'
    exact ⟨t2, st t2 a1, b1⟩
  · obtain ⟨k1, k2, k3⟩ := vx_keep h0 e1 hS hAX hf hL hF
    obtain ⟨t2, a1, b1⟩ := kx E ce q u t T'.heap (locs ++ L) e1.symm (by rw [← e2]; exact X'.warmed.alike) hp hb k1 k2 k3 (by rw [e1]; exact hce) hcv hcl T' rfl X'
    exact ⟨t2, st.trans a1, b1⟩
theorem vx_callf {S SX : Type} {post : UInt32 → S → Prop} {px : SX → Prop} {B : S → State → Prop} {BX : String → SX → State → Prop} {AX : Nat → Prop} (hr : vx_Run p l e R s m args below meth c H locs cells slots mc ms (F0 m pc ls st0) rest (va_Qf post B A1 a) (vx_X px BX AX) free) (hS : va_S A0 H0 H locs) (hA : ∀ q, q < H.size → A1 q → A0 q) (hf : ∀ q, free q → A0 q) (hAX : ∀ q, q < H.size → AX q → A0 q)
    (kx : ∀ (E : String) (ce : Cell) (q9 : Addr) (u : SX) (t : State) (H1 : Heap) (locs1 : List Loc), t.heap = H1 → s.vm.Alike t.vm → px u → BX E u t → H.size ≤ H1.size → (∀ q : Nat, q < H.size → ¬ AX q → H1[q]? = H[q]?) → va_S A0 H0 H1 locs1 → H1[q9]? = some ce → ce.vm = .none → s.vm.findClass E = some ce.cls → vx_W p l e R s m args below meth c H1 locs1 (cells + mc) (slots + ms) Q (F0 m pc ls rest) q9)
    (kk : ∀ (r : UInt32) (u : S) (t : State) (H1 : Heap) (locs1 : List Loc), t.heap = H1 → s.vm.Alike t.vm → post r u → B u t → H.size ≤ H1.size → (∀ q : Nat, q < H.size → ¬ A1 q → H1[q]? = H[q]?) → va_S A0 H0 H1 locs1 → W p l e R s m args below meth c H1 locs1 (cells + mc) (slots + ms) Q (F0 m (pc + 3) ls (.float r :: rest))) : W p l e R s m args below meth c H locs cells slots Q (F0 m pc ls st0) := by
  intro T hT X
  rcases hr T hT X with ⟨v, st₀, t, T', L, h0, X', hL, e1, e2, ⟨⟨r, u, hv, hp, hb⟩, hF⟩, st⟩ | ⟨q, st₀, t, T', L, E, ce, h0, X', hL, e1, e2, ⟨u, hp, hb, hF⟩, hce, hcv, hcl, st⟩
  · cases hv
    obtain ⟨k1, k2, k3⟩ := vx_keep h0 e1 hS hA hf hL hF
    obtain ⟨t2, a1, b1⟩ := kk r u t T'.heap (locs ++ L) e1.symm (by rw [← e2]; exact X'.warmed.alike) hp hb k1 k2 k3 T' rfl X'
    exact ⟨t2, st t2 a1, b1⟩
  · obtain ⟨k1, k2, k3⟩ := vx_keep h0 e1 hS hAX hf hL hF
    obtain ⟨t2, a1, b1⟩ := kx E ce q u t T'.heap (locs ++ L) e1.symm (by rw [← e2]; exact X'.warmed.alike) hp hb k1 k2 k3 (by rw [e1]; exact hce) hcv hcl T' rfl X'
    exact ⟨t2, st.trans a1, b1⟩
theorem vx_calld {S SX : Type} {post : UInt64 → S → Prop} {px : SX → Prop} {B : S → State → Prop} {BX : String → SX → State → Prop} {AX : Nat → Prop} (hr : vx_Run p l e R s m args below meth c H locs cells slots mc ms (F0 m pc ls st0) rest (va_Qd post B A1 a) (vx_X px BX AX) free) (hS : va_S A0 H0 H locs) (hA : ∀ q, q < H.size → A1 q → A0 q) (hf : ∀ q, free q → A0 q) (hAX : ∀ q, q < H.size → AX q → A0 q)
    (kx : ∀ (E : String) (ce : Cell) (q9 : Addr) (u : SX) (t : State) (H1 : Heap) (locs1 : List Loc), t.heap = H1 → s.vm.Alike t.vm → px u → BX E u t → H.size ≤ H1.size → (∀ q : Nat, q < H.size → ¬ AX q → H1[q]? = H[q]?) → va_S A0 H0 H1 locs1 → H1[q9]? = some ce → ce.vm = .none → s.vm.findClass E = some ce.cls → vx_W p l e R s m args below meth c H1 locs1 (cells + mc) (slots + ms) Q (F0 m pc ls rest) q9)
    (kk : ∀ (r : UInt64) (u : S) (t : State) (H1 : Heap) (locs1 : List Loc), t.heap = H1 → s.vm.Alike t.vm → post r u → B u t → H.size ≤ H1.size → (∀ q : Nat, q < H.size → ¬ A1 q → H1[q]? = H[q]?) → va_S A0 H0 H1 locs1 → W p l e R s m args below meth c H1 locs1 (cells + mc) (slots + ms) Q (F0 m (pc + 3) ls (.double r :: rest))) : W p l e R s m args below meth c H locs cells slots Q (F0 m pc ls st0) := by
  intro T hT X
  rcases hr T hT X with ⟨v, st₀, t, T', L, h0, X', hL, e1, e2, ⟨⟨r, u, hv, hp, hb⟩, hF⟩, st⟩ | ⟨q, st₀, t, T', L, E, ce, h0, X', hL, e1, e2, ⟨u, hp, hb, hF⟩, hce, hcv, hcl, st⟩
  · cases hv
    obtain ⟨k1, k2, k3⟩ := vx_keep h0 e1 hS hA hf hL hF
    obtain ⟨t2, a1, b1⟩ := kk r u t T'.heap (locs ++ L) e1.symm (by rw [← e2]; exact X'.warmed.alike) hp hb k1 k2 k3 T' rfl X'
    exact ⟨t2, st t2 a1, b1⟩
  · obtain ⟨k1, k2, k3⟩ := vx_keep h0 e1 hS hAX hf hL hF
    obtain ⟨t2, a1, b1⟩ := kx E ce q u t T'.heap (locs ++ L) e1.symm (by rw [← e2]; exact X'.warmed.alike) hp hb k1 k2 k3 (by rw [e1]; exact hce) hcv hcl T' rfl X'
    exact ⟨t2, st.trans a1, b1⟩
theorem vx_callv {S SX : Type} {post : S → Prop} {px : SX → Prop} {B : S → State → Prop} {BX : String → SX → State → Prop} {AX : Nat → Prop} (hr : vx_Run p l e R s m args below meth c H locs cells slots mc ms (F0 m pc ls st0) rest (va_Qv post B A1 a) (vx_X px BX AX) free) (hS : va_S A0 H0 H locs) (hA : ∀ q, q < H.size → A1 q → A0 q) (hf : ∀ q, free q → A0 q) (hAX : ∀ q, q < H.size → AX q → A0 q)
    (kx : ∀ (E : String) (ce : Cell) (q9 : Addr) (u : SX) (t : State) (H1 : Heap) (locs1 : List Loc), t.heap = H1 → s.vm.Alike t.vm → px u → BX E u t → H.size ≤ H1.size → (∀ q : Nat, q < H.size → ¬ AX q → H1[q]? = H[q]?) → va_S A0 H0 H1 locs1 → H1[q9]? = some ce → ce.vm = .none → s.vm.findClass E = some ce.cls → vx_W p l e R s m args below meth c H1 locs1 (cells + mc) (slots + ms) Q (F0 m pc ls rest) q9)
    (kk : ∀ (u : S) (t : State) (H1 : Heap) (locs1 : List Loc), t.heap = H1 → s.vm.Alike t.vm → post u → B u t → H.size ≤ H1.size → (∀ q : Nat, q < H.size → ¬ A1 q → H1[q]? = H[q]?) → va_S A0 H0 H1 locs1 → W p l e R s m args below meth c H1 locs1 (cells + mc) (slots + ms) Q (F0 m (pc + 3) ls (rest))) : W p l e R s m args below meth c H locs cells slots Q (F0 m pc ls st0) := by
  intro T hT X
  rcases hr T hT X with ⟨v, st₀, t, T', L, h0, X', hL, e1, e2, ⟨⟨u, hv, hp, hb⟩, hF⟩, st⟩ | ⟨q, st₀, t, T', L, E, ce, h0, X', hL, e1, e2, ⟨u, hp, hb, hF⟩, hce, hcv, hcl, st⟩
  · cases hv
    obtain ⟨k1, k2, k3⟩ := vx_keep h0 e1 hS hA hf hL hF
    obtain ⟨t2, a1, b1⟩ := kk u t T'.heap (locs ++ L) e1.symm (by rw [← e2]; exact X'.warmed.alike) hp hb k1 k2 k3 T' rfl X'
    exact ⟨t2, st t2 a1, b1⟩
  · obtain ⟨k1, k2, k3⟩ := vx_keep h0 e1 hS hAX hf hL hF
    obtain ⟨t2, a1, b1⟩ := kx E ce q u t T'.heap (locs ++ L) e1.symm (by rw [← e2]; exact X'.warmed.alike) hp hb k1 k2 k3 (by rw [e1]; exact hce) hcv hcl T' rfl X'
    exact ⟨t2, st.trans a1, b1⟩
end Rows
section Ends
variable {p : Program} {l : Launch} {e : Env} {R : Room} {s : State} {m : MethodId} {args : Array Value} {below : List Frame} {meth : Method} {c : Code} {H : Heap} {locs : List Loc} {cells slots : Nat} {Q : State → Prop}
variable {mc ms : Nat} {free : Addr → Prop} {A0 A1 : Nat → Prop} {H0 : Heap} {a : Array Value} {ls : Array Slot} {st0 rest : List Value}
variable {Qc : Array Value → State → Outcome → State → Prop} {XC : String → State → State → Prop}
/-- what a body that may throw owes at its end -/
def vx_MQ (below : List Frame) (Qc : Array Value → State → Outcome → State → Prop) (XC : String → State → State → Prop) (a : Array Value) (s : State) (mc ms : Nat) (free : Addr → Prop) : State → Prop := fun t =>
  ∃ o, t.status = .running ∧ Ended t below o ∧ vx_Q Qc XC mc ms free a s o t
theorem vx_ret {g : JFrame} {mc ms : Nat} (k : W p l e R s m args below meth c H locs cells slots (MQ below Qc args s mc ms free) g) : W p l e R s m args below meth c H locs cells slots (vx_MQ below Qc XC args s mc ms free) g := by
  intro T hT X
  obtain ⟨t, a1, o, b1, b2, b3, b4⟩ := k T hT X
  exact ⟨t, a1, o, b1, b2, Or.inl ⟨b3, b4⟩⟩
/-- not caught here: it goes on to the caller -/
theorem vx_widen {g : JFrame} {q : Addr} {k n : Nat} (h1 : cells ≤ k) (h2 : slots ≤ n) (kk : vx_W p l e R s m args below meth c H locs k n Q g q) : vx_W p l e R s m args below meth c H locs cells slots Q g q := fun T hT X => kk T hT (stand_widen X h1 h2)
theorem vx_out {pc : Nat} {E : String} {ce : Cell} {q : Addr} {mc ms : Nat} (hout : ∀ x ∈ c.exceptionTable.toList, covers x pc = false) (hlocks : meth.locks = false) (hcell : H[q]? = some ce) (hv : ce.vm = .none) (hcl : s.vm.findClass E = some ce.cls)
    (hx : ∀ t : State, t.heap = H → s.vm.Alike t.vm → XC E s t) (hf : ∀ z ∈ locs, free z.base) (hc : cells ≤ mc) (hs : slots ≤ ms) :
    vx_W p l e R s m args below meth c H locs cells slots (vx_MQ below Qc XC args s mc ms free) (F0 m pc ls rest) q := by
  intro T hT X
  obtain ⟨st1, hrun, hend, hW, hsm⟩ := X.leaveThrown q (g := F0 m pc ls rest) rfl rfl rfl hout hlocks
  have hcell9 : (T.setFrames (.throwing q :: below)).heap[q]? = some ce := by
    show T.heap[q]? = some ce
    rw [hT]; exact hcell
  exact ⟨_, st1, .threw q, hrun, hend, Or.inr ⟨q, rfl, E, ce, locs, hx _ hT hW.alike, hcell9, hv, hcl, hW, hsm.mono hc hs, hf⟩⟩
theorem vx_frame {U : State} {k n : Nat} (h : s.sameButNew ({ U with vm := s.vm } : State) locs k n) : s.heap.size ≤ U.heap.size ∧ ∀ q : Nat, q < s.heap.size → (∀ z ∈ locs, z.base ≠ q) → U.heap[q]? = s.heap[q]? := by
  obtain ⟨-, h2, -, -, -, h6⟩ := h
  refine ⟨h2, fun q hq hz => ?_⟩
  obtain ⟨c9, e1, e2, e3, e4⟩ := h6 q _ (Array.getElem?_eq_getElem hq)
  have hs : c9.slots = (s.heap[q]).slots := Array.ext_getElem? fun i => e4 i fun hm => hz _ hm rfl
  have h9 : c9 = s.heap[q] := by
    rw [hs] at e2
    exact e2
  have e5 : U.heap[q]? = some c9 := e1
  rw [e5, h9, Array.getElem?_eq_getElem hq]
/-- the words of a throw but the four that speak of the heap -/
def vx_no (w : Cond) : Bool := decide (w ≠ .isRef (.static Bundle.tN "UNASSIGNED_STACK" Bundle.steD)) && decide (w ≠ .isRef (.static Bundle.tN "SUPPRESSED_SENTINEL" Bundle.listD)) && decide (w ≠ .laysStatic Bundle.tN "UNASSIGNED_STACK" Bundle.steD) && decide (w ≠ .laysStatic Bundle.tN "SUPPRESSED_SENTINEL" Bundle.listD)
def vx_at0 (own : String) (ic : Nat) (X : String) (names : List String) : List Cond := (Bundle.ownAtoms0 own ic X names).filter vx_no
def vx_atS (own : String) (ic : Nat) (X : String) (names : List String) : List Cond := (Bundle.ownAtoms own ic X names).filter vx_no
/-- a word that the tables alone decide, or a good one -/
def vx_ot (w : Cond) : Bool := w.onTables || goodWord w
theorem vx_ot_at {args a' : Array Value} {s U : State} {w : Cond} (hW : s.WarmedH U.vm) (hvm : s.vm = U.vm) (hg : vx_ot w = true) (h : w.before args s = true) : w.before a' U = true := by
  simp only [vx_ot, Bool.or_eq_true] at hg
  rcases hg with hg | hg
  · exact va_tabs hg hvm h
  · exact word_at hW (good_of_word hg) h
/-- a list's words: the good ones out of the method's own list, the others by premises of their own -/
theorem vx_hat {args : Array Value} {s : State} {L B : List Cond} (h1 : ∀ w ∈ L.filter goodWord, w.before args s = true) (h2 : ∀ w ∈ L.filter (fun w => !goodWord w), w ∈ B) (h3 : ∀ w ∈ B, w.before args s = true) : ∀ w ∈ L, w.before args s = true := by
  intro w hw
  by_cases g : goodWord w = true
  · exact h1 w (List.mem_filter.mpr ⟨hw, g⟩)
  · refine h3 w (h2 w (List.mem_filter.mpr ⟨hw, ?_⟩))
    show (!goodWord w) = true
    cases hgw : goodWord w
    · rfl
    · exact absurd hgw g
theorem vx_c {args : Array Value} {s : State} {w : Cond} {B : List Cond} (h : w.before args s = true) (t : ∀ w ∈ B, w.before args s = true) : ∀ w' ∈ w :: B, w'.before args s = true := fun w' h' => (List.mem_cons.mp h').elim (fun e => by rw [e]; exact h) (t w')
theorem vx_n {args : Array Value} {s : State} : ∀ w ∈ ([] : List Cond), w.before args s = true := fun _ h => nomatch h
theorem vx_own {args : Array Value} {s : State} {L : List Cond} (h1 : ∀ w ∈ L.filter vx_no, w.before args s = true)
    (hU : (Cond.isRef (.static Bundle.tN "UNASSIGNED_STACK" Bundle.steD)).before args s = true) (hN : (Cond.isRef (.static Bundle.tN "SUPPRESSED_SENTINEL" Bundle.listD)).before args s = true)
    (lU : (Cond.laysStatic Bundle.tN "UNASSIGNED_STACK" Bundle.steD).before args s = true) (lN : (Cond.laysStatic Bundle.tN "SUPPRESSED_SENTINEL" Bundle.listD).before args s = true) : ∀ w ∈ L, w.before args s = true := by
  intro w hw
  by_cases e1 : w = .isRef (.static Bundle.tN "UNASSIGNED_STACK" Bundle.steD)
  · rw [e1]; exact hU
  · by_cases e2 : w = .isRef (.static Bundle.tN "SUPPRESSED_SENTINEL" Bundle.listD)
    · rw [e2]; exact hN
    · by_cases e3 : w = .laysStatic Bundle.tN "UNASSIGNED_STACK" Bundle.steD
      · rw [e3]; exact lU
      · by_cases e4 : w = .laysStatic Bundle.tN "SUPPRESSED_SENTINEL" Bundle.listD
        · rw [e4]; exact lN
        · exact h1 w (List.mem_filter.mpr ⟨hw, by unfold vx_no; rw [decide_eq_true e1, decide_eq_true e2, decide_eq_true e3, decide_eq_true e4]; rfl⟩)
/-- where a static field lies, its class's statics cell in H -/
def vx_L (C n d : String) (A : Nat → Prop) (U : State) (H : Heap) : Prop := ∃ (c : ClassId) (k : Class) (i : Nat) (f : Field) (a : Nat) (cell : Cell), U.vm.findClass C = some c ∧ U.fieldFound? C n d = some (c, k, i, f) ∧ f.isStatic = true ∧ k.statics = some a ∧ H[a]? = some cell ∧ cell.vm.isStatics = true ∧ cell.cls = c ∧ f.slot < cell.slots.size ∧ k.staticTypes[f.slot]? = some f.type ∧ ¬ A a
theorem vx_L.moved {C n d : String} {A : Nat → Prop} {u U : State} {H : Heap} (hvm : u.vm.Alike U.vm) (h : vx_L C n d A u H) : vx_L C n d A U H := by
  obtain ⟨c, k, i, f, a, cell, h1, h2, h3, h4, h5, h6, h7, h8, h9, h10⟩ := h
  obtain ⟨k', hi', he⟩ := State.fieldFound?_setVm hvm h2
  exact ⟨c, k', i, f, a, cell, by rw [hvm.findClass]; exact h1, hi', h3, by rw [he]; exact h4, h5, h6, h7, h8, by rw [he]; exact h9, h10⟩
theorem vx_L.kept {C n d : String} {A : Nat → Prop} {U : State} {H H1 : Heap} (h : vx_L C n d A U H) (hq : ∀ a : Nat, a < H.size → ¬ A a → H1[a]? = H[a]?) : vx_L C n d A U H1 := by
  obtain ⟨c, k, i, f, a, cell, h1, h2, h3, h4, h5, h6, h7, h8, h9, h10⟩ := h
  exact ⟨c, k, i, f, a, cell, h1, h2, h3, h4, by rw [hq a (Array.getElem?_eq_some_iff.mp h5).1 h10]; exact h5, h6, h7, h8, h9, h10⟩
theorem vx_L.narrow {C n d : String} {A B : Nat → Prop} {U : State} {H : Heap} (h : vx_L C n d A U H) (hAB : ∀ q, B q → A q) : vx_L C n d B U H := by
  obtain ⟨c, k, i, f, a, cell, h1, h2, h3, h4, h5, h6, h7, h8, h9, h10⟩ := h
  exact ⟨c, k, i, f, a, cell, h1, h2, h3, h4, h5, h6, h7, h8, h9, fun z => h10 (hAB _ z)⟩
theorem vx_L.word {C n d : String} {A : Nat → Prop} {s : State} {args : Array Value} (h : vx_L C n d A s s.heap) : (Cond.laysStatic C n d).before args s = true := by
  obtain ⟨c, k, i, f, a, cell, h1, h2, h3, h4, h5, h6, h7, h8, h9, -⟩ := h
  show (Cond.laysStatic C n d).holds args s none s [] = true
  exact Cond.laysStatic_of h1 h2 h3 h4 h5 h6 h7 h8 h9
/-- .. and what it holds: null or some reference -/
def vx_Zq (C n d : String) (A : Nat → Prop) (U : State) (H : Heap) : Prop := va_Zq C n d A U H ∧ vx_L C n d A U H
theorem vx_Zq.moved {C n d : String} {A : Nat → Prop} {u U : State} {H : Heap} (hvm : u.vm.Alike U.vm) (h : vx_Zq C n d A u H) : vx_Zq C n d A U H := ⟨va_Zq.moved hvm h.1, vx_L.moved hvm h.2⟩
theorem vx_Zq.kept {C n d : String} {A : Nat → Prop} {U : State} {H H1 : Heap} (h : vx_Zq C n d A U H) (hq : ∀ a : Nat, a < H.size → ¬ A a → H1[a]? = H[a]?) : vx_Zq C n d A U H1 := ⟨va_Zq.kept h.1 hq, vx_L.kept h.2 hq⟩
theorem vx_Zq.narrow {C n d : String} {A B : Nat → Prop} {U : State} {H : Heap} (h : vx_Zq C n d A U H) (hAB : ∀ q, B q → A q) : vx_Zq C n d B U H := ⟨va_Zq.narrow h.1 hAB, vx_L.narrow h.2 hAB⟩
theorem vx_Zqof {args : Array Value} {s : State} {C n d : String} {A : Nat → Prop} (hl : (Cond.laysStatic C n d).before args s = true) (hini : (Cond.initialized C).before args s = true) (h : (Cond.isRef (.static C n d)).before args s = true) (hA : ∀ a : Nat, a < s.heap.size → ¬ A a) : vx_Zq C n d A s s.heap := by
  refine ⟨va_Zqof hl hini h hA, ?_⟩
  obtain ⟨c, k, i, f, a, cell, h1, h2, h3, h4, h5, h6, h7, h8, h9⟩ := Cond.laysStatic_spec hl
  exact ⟨c, k, i, f, a, cell, h1, h2, h3, h4, h5, h6, h7, h8, h9, hA a (Array.getElem?_eq_some_iff.mp h5).1⟩
theorem vx_isRef {C n d : String} {v : Value} {A : Nat → Prop} {s : State} {args : Array Value} (h : va_Z C n d v A s s.heap) (hv : v.isRef = true) : (Cond.isRef (.static C n d)).before args s = true := by
  obtain ⟨cf, kf, fi, f, a, cell, h1, h2, h3, h4, h5, h6, h7, -⟩ := h
  have he : (Term.static C n d).eval args s none [] s = some v := by
    simp [Term.eval, State.fieldNamed?, h1, h2, h4, h5, h6, h7]
  simp only [Cond.before, Cond.holds, Cond.value, he]
  cases v <;> simp_all [Value.isRef]
theorem vx_isRefq {C n d : String} {A : Nat → Prop} {s : State} {args : Array Value} (h : va_Zq C n d A s s.heap) : (Cond.isRef (.static C n d)).before args s = true := by
  rcases h with h | ⟨t, h⟩
  · exact vx_isRef h rfl
  · exact vx_isRef h rfl
/-- the same frame, seen from here: as if the method were called anew in this heap -/
theorem vx_rebase {T : State} (X : Stand p l e R s m args below meth c T locs cells slots) {R' : Room} (hf : R'.frames ≤ R.frames) (hl : R'.locals ≤ R.locals) (hc : cells + R'.cells ≤ R.cells) (hs : slots + R'.slots ≤ R.slots) :
    Stand p l e R' ((T.setVm s.vm).setFrames (.invoking m args :: below)) m args below meth c T [] 0 0 := by
  have htop : (T.setVm s.vm).topJava?.isSome := X.here.top
  have hF : ((T.setVm s.vm).setFrames (.invoking m args :: below)).frames = .invoking m args :: below := State.frames_setFrames _ (State.cur_lt_of_top htop)
  obtain ⟨g₀, hg0⟩ := Option.isSome_iff_exists.mp htop
  obtain ⟨r, hr⟩ := State.topJava?_eq_some.mp hg0
  have hl9 : e.platform.stackLimits (T.setVm s.vm).me = e.platform.stackLimits s.me := X.limits
  have hb9 : (T.setVm s.vm).me.stackBytes = s.me.stackBytes := X.bytes
  refine ⟨X.admits, X.cas, X.clock, hF, ?_, X.hears, X.method, X.code, X.here, X.tail, X.warmed, ?_, ?_, ?_⟩
  · have h := X.room
    have hU : ((T.setVm s.vm).setFrames (.invoking m args :: below)).localsInUse = s.localsInUse := by
      rw [State.localsInUse_invoking hF (meth := meth) (c := c) X.method X.code, State.localsInUse_invoking X.frames X.method X.code]
    simp only [State.hasRoom, Bool.and_eq_true, decide_eq_true_eq] at h ⊢
    obtain ⟨⟨⟨⟨h1, h2, h3, h4, h5, h6⟩, h7⟩, h8⟩, h9⟩ := h
    rw [X.frames, List.length_cons] at h2 h3
    have q1 := X.heapSize
    have q2 := X.used
    simp only [hF, hU, List.length_cons, State.stackLimits_setFrames, State.stackBytes_setFrames, hl9, hb9]
    refine ⟨⟨⟨⟨by omega, by omega, by omega, by omega, by omega, h6⟩, ?_⟩, ?_⟩, X.book⟩
    · show T.heap.size + R'.cells ≤ e.platform.maxCells
      omega
    · show T.slotsUsed + R'.slots ≤ e.platform.maxSlots
      omega
  · rw [State.stackLimits_setFrames]; rfl
  · rw [State.stackBytes_setFrames]; rfl
  · refine ⟨?_, Nat.le_refl _, Nat.le_refl _, ?_, ?_, fun a c9 h9 => ⟨c9, h9, rfl, rfl, fun _ _ => rfl⟩⟩
    · obtain ⟨t, ht, -⟩ := State.frames_cons hr
      show T.setVm s.vm = { ((T.setVm s.vm).setFrames (.invoking m args :: below)).setFrames (T.setVm s.vm).frames with heap := T.heap, slotsUsed := T.slotsUsed }
      rw [State.setFrames_setFrames, State.setFrames_self ht]
      rfl
    · show T.slotsUsed = T.slotsUsed + ((T.heap.toList.drop T.heap.size).map (·.slots.size)).sum
      rw [List.drop_eq_nil_of_le (Nat.le_of_eq Array.length_toList)]
      rfl
    · show ((T.heap.toList.drop T.heap.size).map (·.slots.size)).sum ≤ 0
      rw [List.drop_eq_nil_of_le (Nat.le_of_eq Array.length_toList)]
      exact Nat.le_refl _
/-- 'throw new E()': new; dup; invokespecial; athrow -/
theorem vx_throw0 {cc : ByteArray} {pc : Nat} (hexec : p.tables.exec = Jvm.exec) (hb : c.code = cc) (hl : l.stackTraces = false) {own cls : String} {names : List String} {ik ic mc ms : Nat} {A : Nat → Prop}
    (hown : s.vm.findClass own = some m.cls) (hcls : Bundle.fit cls = true) (hnames : ∀ n ∈ names, Bundle.fit n = true)
    (hk : (Cond.classLink own ik cls).before args s = true) (hini : (Cond.initialized cls).before args s = true) (hat : ∀ w ∈ vx_at0 own ic cls names, w.before args s = true)
    (hgood : ∀ w ∈ Cond.classLink own ik cls :: Cond.initialized cls :: vx_at0 own ic cls names, vx_ot w = true)
    (hU : vx_Zq Bundle.tN "UNASSIGNED_STACK" Bundle.steD A s s.heap) (hN : vx_Zq Bundle.tN "SUPPRESSED_SENTINEL" Bundle.listD A s s.heap) (hS : va_S A s.heap H locs) (hsize : ls.size = c.maxLocals)
    (d0 : decode cc pc = .ok (.new ik, 3)) (d3 : decode cc (pc + 3) = .ok (.dup, 1)) (d4 : decode cc (pc + 4) = .ok (.invokespecial ic, 3)) (d7 : decode cc (pc + 7) = .ok (.athrow, 1))
    (hout : ∀ x ∈ c.exceptionTable.toList, covers x (pc + 7) = false)
    (hRframes : names.length + 3 < R.frames) (hRlocals : (rest.map fun v => v.category).sum + (13 * (names.length + 1) + 42) ≤ R.locals) (hRcells : cells + 1 ≤ R.cells) (hRslots : slots + 6 ≤ R.slots) (hlocks : meth.locks = false)
    (hx : ∀ t : State, s.vm.Alike t.vm → H.size ≤ t.heap.size → (∀ q : Nat, q < H.size → t.heap[q]? = H[q]?) → XC cls s t)
    (hf : ∀ z ∈ locs, free z.base) (hc : cells + 1 ≤ mc) (hs : slots + 6 ≤ ms) :
    W p l e R s m args below meth c H locs cells slots (vx_MQ below Qc XC args s mc ms free) (F0 m pc ls rest) := by
  intro T hT X
  have htr : e.platform.stackTraces = false := (show e.platform.stackTraces = l.stackTraces by rw [X.admits.platform]).trans hl
  have Y := vx_rebase X (R' := { frames := R.frames, locals := R.locals, cells := 1, slots := 6 }) (Nat.le_refl _) (Nat.le_refl _) hRcells hRslots
  obtain ⟨s', hA⟩ : ∃ z, z = (T.setVm s.vm).setFrames (.invoking m args :: below) := ⟨_, rfl⟩
  rw [← hA] at Y
  have hvm : s'.vm = s.vm := by rw [hA]; rfl
  have hhp : s'.heap = H := by rw [hA]; exact hT
  have hW0 : s.WarmedH s'.vm := by rw [hvm]; exact State.WarmedH.refl s
  have hat' : ∀ w ∈ vx_at0 own ic cls names, w.before args s' = true := fun w hw => vx_ot_at hW0 hvm.symm (hgood w (List.mem_cons_of_mem _ (List.mem_cons_of_mem _ hw))) (hat w hw)
  have hk' : (Cond.classLink own ik cls).before args s' = true := vx_ot_at hW0 hvm.symm (hgood _ List.mem_cons_self) hk
  have hini' : (Cond.initialized cls).before args s' = true := vx_ot_at hW0 hvm.symm (hgood _ (List.mem_cons_of_mem _ List.mem_cons_self)) hini
  have hU' : vx_Zq Bundle.tN "UNASSIGNED_STACK" Bundle.steD A s' s'.heap := by rw [hhp]; exact vx_Zq.moved hW0.alike (hU.kept hS.2.1)
  have hN' : vx_Zq Bundle.tN "SUPPRESSED_SENTINEL" Bundle.listD A s' s'.heap := by rw [hhp]; exact vx_Zq.moved hW0.alike (hN.kept hS.2.1)
  have h : ∀ w ∈ Bundle.ownAtoms0 own ic cls names, w.before args s' = true := vx_own hat' (vx_isRefq hU'.1) (vx_isRefq hN'.1) hU'.2.word hN'.2.word
  have hown' : s'.vm.findClass own = some m.cls := by rw [hvm]; exact hown
  have hins : (Cond.instantiable cls 6).before args s' = true := h _ (by simp [Bundle.ownAtoms0])
  obtain ⟨vm₁, cX, kX, hfX, hkX, -, -, X₁, st1⟩ := Y.newCold hexec (own := own) (C := cls) (index := ik) (n := 6) hown' hk' hins hini'
    (g := F0 m pc ls rest) rfl (by rw [hb]; exact d0) (Nat.le_refl _) (Nat.le_refl _)
  generalize hT1 : (T.setVm vm₁).pushCell { cls := cX, slots := kX.instanceTypes.map defaultValue, vm := .none } = T1 at X₁ st1
  have hcat : (Value.ref T.heap.size).category = 1 := rfl
  have hcellA : T1.heap[T.heap.size]? = some (freshCell cX kX) := by rw [← hT1]; exact State.heap_pushCell_size _ _
  have d3' : decode c.code (pc + 3) = .ok (.dup, 1) := by rw [hb]; exact d3
  obtain ⟨U, hsteps, hrun, hend, hW, hsame, ce, hce, hO⟩ := X₁.ctorThrow0 hexec htr (own := own) (cls := cls) (names := names) (ic := ic) hown' hcls hnames h (fun x hx => nomatch hx) hfX hkX hcellA (by rw [hhp, hT]; exact Nat.le_refl _)
    (g := { method := m, pc := pc + 4, locals := ls, stack := .ref T.heap.size :: .ref T.heap.size :: rest, locked := none }) rfl hsize rfl rfl (rest := rest) rfl
    (by rw [hb]; exact d4) (by rw [hb]; exact d7) hout hRframes (by simp only [List.map_cons, List.sum_cons, hcat]; omega) hlocks
  obtain ⟨f1, f2⟩ := vx_frame hsame
  rw [hhp] at f1 f2
  have hWs : s.WarmedH U.vm := State.WarmedH.trans hW0 hW
  have hcl : s.vm.findClass cls = some ce.cls := by
    have h9 := hO.cls
    rw [hvm] at h9
    exact h9
  have hall : s.sameButNew ({ U with vm := s.vm } : State) locs mc ms := by
    subst hA
    obtain ⟨e1, e2⟩ := hsame
    rw [State.setFrames_setFrames] at e1
    have h2 : (T.setVm s.vm).sameButNew ({ U with vm := s.vm } : State) [] (0 + 1) (0 + 6) := ⟨e1, e2⟩
    have h3 := X.same.trans h2
    rw [List.append_nil] at h3
    exact h3.mono hc hs
  refine ⟨U, ?_, .threw T.heap.size, hrun, hend, Or.inr ⟨T.heap.size, rfl, cls, ce, locs, hx U hWs.alike f1 (fun q hq => f2 q hq (fun z hz => nomatch hz)), hce, hO.vm, hcl, hWs, hall, hf⟩⟩
  refine st1 _ ?_
  show Steps p.tables e below (T1.setTop { method := m, pc := pc + 3, locals := ls, stack := .ref T.heap.size :: rest, locked := none }) _
  jvm_step X₁.here [X₁.here.top, hexec, d3', Value.category]
  exact hsteps
/-- 'throw new E("text")': new; dup; ldc; invokespecial; athrow -/
theorem vx_throwS {cc : ByteArray} {pc : Nat} (hexec : p.tables.exec = Jvm.exec) (hb : c.code = cc) (hl : l.stackTraces = false) {own cls text : String} {names : List String} {ik is ic mc ms sa : Nat} {A : Nat → Prop}
    (hown : s.vm.findClass own = some m.cls) (hcls : Bundle.fit cls = true) (hnames : ∀ n ∈ names, Bundle.fit n = true)
    (hk : (Cond.classLink own ik cls).before args s = true) (hini : (Cond.initialized cls).before args s = true) (hstr : vk_R own is text sa s) (hat : ∀ w ∈ vx_atS own ic cls names, w.before args s = true)
    (hgood : ∀ w ∈ Cond.classLink own ik cls :: Cond.initialized cls :: vx_atS own ic cls names, vx_ot w = true)
    (hU : vx_Zq Bundle.tN "UNASSIGNED_STACK" Bundle.steD A s s.heap) (hN : vx_Zq Bundle.tN "SUPPRESSED_SENTINEL" Bundle.listD A s s.heap) (hS : va_S A s.heap H locs) (hsize : ls.size = c.maxLocals)
    (d0 : decode cc pc = .ok (.new ik, 3)) (d3 : decode cc (pc + 3) = .ok (.dup, 1)) (d4 : decode cc (pc + 4) = .ok (.ldc is, 2)) (d6 : decode cc (pc + 6) = .ok (.invokespecial ic, 3)) (d9 : decode cc (pc + 9) = .ok (.athrow, 1))
    (hout : ∀ x ∈ c.exceptionTable.toList, covers x (pc + 9) = false)
    (hRframes : names.length + 3 < R.frames) (hRlocals : (rest.map fun v => v.category).sum + (13 * (names.length + 1) + 43) ≤ R.locals) (hRcells : cells + 1 ≤ R.cells) (hRslots : slots + 6 ≤ R.slots) (hlocks : meth.locks = false)
    (hx : ∀ t : State, s.vm.Alike t.vm → H.size ≤ t.heap.size → (∀ q : Nat, q < H.size → t.heap[q]? = H[q]?) → XC cls s t)
    (hf : ∀ z ∈ locs, free z.base) (hc : cells + 1 ≤ mc) (hs : slots + 6 ≤ ms) :
    W p l e R s m args below meth c H locs cells slots (vx_MQ below Qc XC args s mc ms free) (F0 m pc ls rest) := by
  intro T hT X
  have htr : e.platform.stackTraces = false := (show e.platform.stackTraces = l.stackTraces by rw [X.admits.platform]).trans hl
  have Y := vx_rebase X (R' := { frames := R.frames, locals := R.locals, cells := 1, slots := 6 }) (Nat.le_refl _) (Nat.le_refl _) hRcells hRslots
  obtain ⟨s', hA⟩ : ∃ z, z = (T.setVm s.vm).setFrames (.invoking m args :: below) := ⟨_, rfl⟩
  rw [← hA] at Y
  have hvm : s'.vm = s.vm := by rw [hA]; rfl
  have hhp : s'.heap = H := by rw [hA]; exact hT
  have hW0 : s.WarmedH s'.vm := by rw [hvm]; exact State.WarmedH.refl s
  have hat' : ∀ w ∈ vx_atS own ic cls names, w.before args s' = true := fun w hw => vx_ot_at hW0 hvm.symm (hgood w (List.mem_cons_of_mem _ (List.mem_cons_of_mem _ hw))) (hat w hw)
  have hk' : (Cond.classLink own ik cls).before args s' = true := vx_ot_at hW0 hvm.symm (hgood _ List.mem_cons_self) hk
  have hini' : (Cond.initialized cls).before args s' = true := vx_ot_at hW0 hvm.symm (hgood _ (List.mem_cons_of_mem _ List.mem_cons_self)) hini
  have hU' : vx_Zq Bundle.tN "UNASSIGNED_STACK" Bundle.steD A s' s'.heap := by rw [hhp]; exact vx_Zq.moved hW0.alike (hU.kept hS.2.1)
  have hN' : vx_Zq Bundle.tN "SUPPRESSED_SENTINEL" Bundle.listD A s' s'.heap := by rw [hhp]; exact vx_Zq.moved hW0.alike (hN.kept hS.2.1)
  have h : ∀ w ∈ Bundle.ownAtoms own ic cls names, w.before args s' = true := vx_own hat' (vx_isRefq hU'.1) (vx_isRefq hN'.1) hU'.2.word hN'.2.word
  have hown' : s'.vm.findClass own = some m.cls := by rw [hvm]; exact hown
  have hins : (Cond.instantiable cls 6).before args s' = true := h _ (by simp [Bundle.ownAtoms])
  obtain ⟨vm₁, cX, kX, hfX, hkX, -, -, X₁, st1⟩ := Y.newCold hexec (own := own) (C := cls) (index := ik) (n := 6) hown' hk' hins hini'
    (g := F0 m pc ls rest) rfl (by rw [hb]; exact d0) (Nat.le_refl _) (Nat.le_refl _)
  generalize hT1 : (T.setVm vm₁).pushCell { cls := cX, slots := kX.instanceTypes.map defaultValue, vm := .none } = T1 at X₁ st1
  have hcat : (Value.ref T.heap.size).category = 1 := rfl
  have hcellA : T1.heap[T.heap.size]? = some (freshCell cX kX) := by rw [← hT1]; exact State.heap_pushCell_size _ _
  have d3' : decode c.code (pc + 3) = .ok (.dup, 1) := by rw [hb]; exact d3
  have d4' : decode c.code (pc + 4) = .ok (.ldc is, 2) := by rw [hb]; exact d4
  have hstr' : vk_R own is text sa s' := vk_R.warm hW0 hstr
  obtain ⟨U, hsteps, hrun, hend, hW, hsame, ce, hce, hO⟩ := X₁.ctorThrowS hexec htr (own := own) (cls := cls) (names := names) (ic := ic) hown' hcls hnames h (fun x hx => nomatch hx) hfX hkX hcellA (by rw [hhp, hT]; exact Nat.le_refl _) (msg := .ref sa) rfl
    (g := { method := m, pc := pc + 6, locals := ls, stack := .ref sa :: .ref T.heap.size :: .ref T.heap.size :: rest, locked := none }) rfl hsize rfl rfl (rest := rest) rfl
    (by rw [hb]; exact d6) (by rw [hb]; exact d9) hout hRframes (by simp only [List.map_cons, List.sum_cons, hcat]; omega) hlocks
  obtain ⟨f1, f2⟩ := vx_frame hsame
  rw [hhp] at f1 f2
  have hWs : s.WarmedH U.vm := State.WarmedH.trans hW0 hW
  have hcl : s.vm.findClass cls = some ce.cls := by
    have h9 := hO.cls
    rw [hvm] at h9
    exact h9
  have hall : s.sameButNew ({ U with vm := s.vm } : State) locs mc ms := by
    subst hA
    obtain ⟨e1, e2⟩ := hsame
    rw [State.setFrames_setFrames] at e1
    have h2 : (T.setVm s.vm).sameButNew ({ U with vm := s.vm } : State) [] (0 + 1) (0 + 6) := ⟨e1, e2⟩
    have h3 := X.same.trans h2
    rw [List.append_nil] at h3
    exact h3.mono hc hs
  refine ⟨U, ?_, .threw T.heap.size, hrun, hend, Or.inr ⟨T.heap.size, rfl, cls, ce, locs, hx U hWs.alike f1 (fun q hq => f2 q hq (fun z hz => nomatch hz)), hce, hO.vm, hcl, hWs, hall, hf⟩⟩
  refine st1 _ ?_
  show Steps p.tables e below (T1.setTop { method := m, pc := pc + 3, locals := ls, stack := .ref T.heap.size :: rest, locked := none }) _
  jvm_step X₁.here [X₁.here.top, hexec, d3', Value.category]
  exact X₁.ldcString hexec (own := own) (text := text) (index := is) (a := sa) hown' hstr'.1 hstr'.2
    (g := { method := m, pc := pc + 4, locals := ls, stack := .ref T.heap.size :: .ref T.heap.size :: rest, locked := none }) rfl d4' _ hsteps
/-- 'throw new E("text")', the text by a wide index -/
theorem vx_throwSW {cc : ByteArray} {pc : Nat} (hexec : p.tables.exec = Jvm.exec) (hb : c.code = cc) (hl : l.stackTraces = false) {own cls text : String} {names : List String} {ik is ic mc ms sa : Nat} {A : Nat → Prop}
    (hown : s.vm.findClass own = some m.cls) (hcls : Bundle.fit cls = true) (hnames : ∀ n ∈ names, Bundle.fit n = true)
    (hk : (Cond.classLink own ik cls).before args s = true) (hini : (Cond.initialized cls).before args s = true) (hstr : vk_R own is text sa s) (hat : ∀ w ∈ vx_atS own ic cls names, w.before args s = true)
    (hgood : ∀ w ∈ Cond.classLink own ik cls :: Cond.initialized cls :: vx_atS own ic cls names, vx_ot w = true)
    (hU : vx_Zq Bundle.tN "UNASSIGNED_STACK" Bundle.steD A s s.heap) (hN : vx_Zq Bundle.tN "SUPPRESSED_SENTINEL" Bundle.listD A s s.heap) (hS : va_S A s.heap H locs) (hsize : ls.size = c.maxLocals)
    (d0 : decode cc pc = .ok (.new ik, 3)) (d3 : decode cc (pc + 3) = .ok (.dup, 1)) (d4 : decode cc (pc + 4) = .ok (.ldc_w is, 3)) (d7 : decode cc (pc + 7) = .ok (.invokespecial ic, 3)) (d10 : decode cc (pc + 10) = .ok (.athrow, 1))
    (hout : ∀ x ∈ c.exceptionTable.toList, covers x (pc + 10) = false)
    (hRframes : names.length + 3 < R.frames) (hRlocals : (rest.map fun v => v.category).sum + (13 * (names.length + 1) + 43) ≤ R.locals) (hRcells : cells + 1 ≤ R.cells) (hRslots : slots + 6 ≤ R.slots) (hlocks : meth.locks = false)
    (hx : ∀ t : State, s.vm.Alike t.vm → H.size ≤ t.heap.size → (∀ q : Nat, q < H.size → t.heap[q]? = H[q]?) → XC cls s t)
    (hf : ∀ z ∈ locs, free z.base) (hc : cells + 1 ≤ mc) (hs : slots + 6 ≤ ms) :
    W p l e R s m args below meth c H locs cells slots (vx_MQ below Qc XC args s mc ms free) (F0 m pc ls rest) := by
  intro T hT X
  have htr : e.platform.stackTraces = false := (show e.platform.stackTraces = l.stackTraces by rw [X.admits.platform]).trans hl
  have Y := vx_rebase X (R' := { frames := R.frames, locals := R.locals, cells := 1, slots := 6 }) (Nat.le_refl _) (Nat.le_refl _) hRcells hRslots
  obtain ⟨s', hA⟩ : ∃ z, z = (T.setVm s.vm).setFrames (.invoking m args :: below) := ⟨_, rfl⟩
  rw [← hA] at Y
  have hvm : s'.vm = s.vm := by rw [hA]; rfl
  have hhp : s'.heap = H := by rw [hA]; exact hT
  have hW0 : s.WarmedH s'.vm := by rw [hvm]; exact State.WarmedH.refl s
  have hat' : ∀ w ∈ vx_atS own ic cls names, w.before args s' = true := fun w hw => vx_ot_at hW0 hvm.symm (hgood w (List.mem_cons_of_mem _ (List.mem_cons_of_mem _ hw))) (hat w hw)
  have hk' : (Cond.classLink own ik cls).before args s' = true := vx_ot_at hW0 hvm.symm (hgood _ List.mem_cons_self) hk
  have hini' : (Cond.initialized cls).before args s' = true := vx_ot_at hW0 hvm.symm (hgood _ (List.mem_cons_of_mem _ List.mem_cons_self)) hini
  have hU' : vx_Zq Bundle.tN "UNASSIGNED_STACK" Bundle.steD A s' s'.heap := by rw [hhp]; exact vx_Zq.moved hW0.alike (hU.kept hS.2.1)
  have hN' : vx_Zq Bundle.tN "SUPPRESSED_SENTINEL" Bundle.listD A s' s'.heap := by rw [hhp]; exact vx_Zq.moved hW0.alike (hN.kept hS.2.1)
  have h : ∀ w ∈ Bundle.ownAtoms own ic cls names, w.before args s' = true := vx_own hat' (vx_isRefq hU'.1) (vx_isRefq hN'.1) hU'.2.word hN'.2.word
  have hown' : s'.vm.findClass own = some m.cls := by rw [hvm]; exact hown
  have hins : (Cond.instantiable cls 6).before args s' = true := h _ (by simp [Bundle.ownAtoms])
  obtain ⟨vm₁, cX, kX, hfX, hkX, -, -, X₁, st1⟩ := Y.newCold hexec (own := own) (C := cls) (index := ik) (n := 6) hown' hk' hins hini'
    (g := F0 m pc ls rest) rfl (by rw [hb]; exact d0) (Nat.le_refl _) (Nat.le_refl _)
  generalize hT1 : (T.setVm vm₁).pushCell { cls := cX, slots := kX.instanceTypes.map defaultValue, vm := .none } = T1 at X₁ st1
  have hcat : (Value.ref T.heap.size).category = 1 := rfl
  have hcellA : T1.heap[T.heap.size]? = some (freshCell cX kX) := by rw [← hT1]; exact State.heap_pushCell_size _ _
  have d3' : decode c.code (pc + 3) = .ok (.dup, 1) := by rw [hb]; exact d3
  have d4' : decode c.code (pc + 4) = .ok (.ldc_w is, 3) := by rw [hb]; exact d4
  have hstr' : vk_R own is text sa s' := vk_R.warm hW0 hstr
  obtain ⟨U, hsteps, hrun, hend, hW, hsame, ce, hce, hO⟩ := X₁.ctorThrowS hexec htr (own := own) (cls := cls) (names := names) (ic := ic) hown' hcls hnames h (fun x hx => nomatch hx) hfX hkX hcellA (by rw [hhp, hT]; exact Nat.le_refl _) (msg := .ref sa) rfl
    (g := { method := m, pc := pc + 7, locals := ls, stack := .ref sa :: .ref T.heap.size :: .ref T.heap.size :: rest, locked := none }) rfl hsize rfl rfl (rest := rest) rfl
    (by rw [hb]; exact d7) (by rw [hb]; exact d10) hout hRframes (by simp only [List.map_cons, List.sum_cons, hcat]; omega) hlocks
  obtain ⟨f1, f2⟩ := vx_frame hsame
  rw [hhp] at f1 f2
  have hWs : s.WarmedH U.vm := State.WarmedH.trans hW0 hW
  have hcl : s.vm.findClass cls = some ce.cls := by
    have h9 := hO.cls
    rw [hvm] at h9
    exact h9
  have hall : s.sameButNew ({ U with vm := s.vm } : State) locs mc ms := by
    subst hA
    obtain ⟨e1, e2⟩ := hsame
    rw [State.setFrames_setFrames] at e1
    have h2 : (T.setVm s.vm).sameButNew ({ U with vm := s.vm } : State) [] (0 + 1) (0 + 6) := ⟨e1, e2⟩
    have h3 := X.same.trans h2
    rw [List.append_nil] at h3
    exact h3.mono hc hs
  refine ⟨U, ?_, .threw T.heap.size, hrun, hend, Or.inr ⟨T.heap.size, rfl, cls, ce, locs, hx U hWs.alike f1 (fun q hq => f2 q hq (fun z hz => nomatch hz)), hce, hO.vm, hcl, hWs, hall, hf⟩⟩
  refine st1 _ ?_
  show Steps p.tables e below (T1.setTop { method := m, pc := pc + 3, locals := ls, stack := .ref T.heap.size :: rest, locked := none }) _
  jvm_step X₁.here [X₁.here.top, hexec, d3', Value.category]
  exact X₁.ldcStringW hexec (own := own) (text := text) (index := is) (a := sa) hown' hstr'.1 hstr'.2
    (g := { method := m, pc := pc + 4, locals := ls, stack := .ref T.heap.size :: .ref T.heap.size :: rest, locked := none }) rfl d4' _ hsteps
end Ends
section Bodies
variable {l : Launch}
theorem vx_ofW {y : MethodName} {ws ws' : List Cond} {rm : Room} {Pc : Array Value → State → Prop} {Qc : Array Value → State → Outcome → State → Prop} {XC : String → State → State → Prop} {mc ms : Nat} {free : Addr → Prop} {cc : ByteArray} {maxL : Nat} {ret : Option FieldType}
    (hy : plainName y.cls = true) (hw : ws = Cond.code y cc maxL ret :: ws')
    (body : ∀ p e s m args below meth c s₁, BodyLoose p l y (headSpec ws rm) cc maxL ret e s m args below meth c s₁ → c.maxLocals = maxL → (∀ x ∈ c.exceptionTable.toList, False) → Pc args s →
      W p l e (headSpec ws rm).room s m args below meth c s.heap [] 0 0 (vx_MQ below Qc XC args s mc ms free) (entryFrame m args maxL)) : vx_Met l y ws rm Pc Qc XC mc ms free := by
  refine MetFree.of_bodyS (code := cc) (maxLocals := maxL) (ret := ret) hy ?_ ?_
  · intro args s m h hn
    obtain ⟨meth, c, h1, h2, h3, h4, h5, h6, -, -⟩ := Cond.code_spec hn (atoms_spec (ws := ws) h _ (by rw [hw]; exact List.mem_cons_self))
    exact ⟨meth, c, h1, h2, h3, h4, h5, h6⟩
  · intro p e s m args below meth c s₁ B hml hP _
    have hh0 : s₁.heap = s.heap := by rw [B.state]; rfl
    have ht : ∀ x ∈ c.exceptionTable.toList, False := by
      obtain ⟨meth9, c9, h1, h2, -, -, -, -, h7, -⟩ := Cond.code_spec B.named (atoms_spec (ws := ws) B.pre _ (by rw [hw]; exact List.mem_cons_self))
      cases Option.some.inj (h1.symm.trans B.method)
      cases Option.some.inj (h2.symm.trans (Stand.of_body B).code)
      intro x hx
      rw [Array.isEmpty_iff.mp h7] at hx
      cases hx
    obtain ⟨t, a1, o, b1, b2, b3⟩ := body p e s m args below meth c s₁ B hml ht hP s₁ hh0 (Stand.of_body B)
    exact ⟨t, o, a1, b1, b2, b3⟩
/-- the table of a body with handlers -/
theorem vx_table {p : Program} {x y : MethodName} {S : Spec} {cc bytes : ByteArray} {maxL maxL' : Nat} {ret ret' : Option FieldType} {e : Env} {s s₁ : State} {m : MethodId} {args : Array Value} {below : List Frame} {meth : Method} {c : Code} {hh : List (Nat × Nat × Nat × Nat)}
    (B : BodyLoose p l y S cc maxL ret e s m args below meth c s₁) (h : (Cond.codeWith y bytes maxL' ret' hh).before args s = true) : c.exceptionTable.toList = tableOf hh := by
  obtain ⟨m9, meth9, c9, hn9, h1, h2, -, -, h6, -⟩ := Cond.codeWith_spec h
  cases Option.some.inj (hn9.symm.trans B.named)
  cases Option.some.inj (h1.symm.trans B.method)
  cases Option.some.inj (h2.symm.trans (Stand.of_body B).code)
  rw [← h6, table_eq]
end Bodies
end VXA
/-! ===== END ===== -/
/-! ===== BEGIN a static call of a method with an exception table ===== -/
section VXS
variable {p : Program} {l : Launch} {e : Env} {R : Room} {s : State} {m : MethodId} {args : Array Value} {below : List Frame} {meth : Method} {c : Code} {T : State} {H : Heap} {locs : List Loc} {cells slots : Nat}
abbrev vx_CSW (R : Room) (s : State) (args : Array Value) (own : String) (index : Nat) (y : MethodName) (bytes : ByteArray) (maxL : Nat) (ret : Option FieldType) (hh : List (Nat × Nat × Nat × Nat)) (ws : List Cond) (rm : Room) (mc ms n : Nat) : Prop :=
  (rm.cells = mc ∧ rm.slots = ms ∧ rm.frames + 1 ≤ R.frames ∧ 8 + (maxL + 11) + rm.locals ≤ R.locals ∧ (∀ w ∈ ws, ∀ (a' : Array Value) (U : State), s.WarmedH U.vm → w.before a' U = true) ∧ Cond.codeWith y bytes maxL ret hh ∈ ws) ∧
  (Cond.codeWith y bytes maxL ret hh).before args s = true ∧ (Cond.initialized y.cls).before args s = true ∧ (y.cls ≠ "java/lang/invoke/MethodHandle" ∧ y.cls ≠ "java/lang/invoke/VarHandle") ∧
  (∀ sig, parseMethodDescriptor y.desc = some sig → n = sig.parameters.length) ∧ (Cond.methodLink own index y).before args s = true ∧ (Cond.static y).before args s = true
theorem vx_cwSW {own : String} {index maxL mc ms : Nat} {y : MethodName} {bytes : ByteArray} {ret : Option FieldType} {hh : List (Nat × Nat × Nat × Nat)} {Ts ws ws' : List Cond} {rm : Room} (n : Nat) (ht : ∀ w ∈ Ts, w.before args s = true) (hT : GoodIn Ts (va_wsS own index y ws)) (hw : ws = Cond.codeWith y bytes maxL ret hh :: ws') (hrc : rm.cells = mc) (hrs : rm.slots = ms)
    (hd : y.cls ≠ "java/lang/invoke/MethodHandle" ∧ y.cls ≠ "java/lang/invoke/VarHandle" ∧ (parseMethodDescriptor y.desc).map (fun d => d.parameters.length) = some n) (hR : rm.frames + 1 ≤ R.frames ∧ 8 + (maxL + 11) + rm.locals ≤ R.locals) :
    vx_CSW R s args own index y bytes maxL ret hh ws rm mc ms n := by
  have ok : ∀ w ∈ va_wsS own index y ws, w.before args s = true := fun w h => ht w (hT w h).1
  have hG : GoodIn Ts ws := fun w h => hT w (by unfold va_wsS; exact List.mem_append_right _ h)
  have hc : Cond.codeWith y bytes maxL ret hh ∈ ws := by rw [hw]; exact List.mem_cons_self
  refine ⟨⟨hrc, hrs, hR.1, hR.2, pay_in ht hG, hc⟩, ht _ (hG _ hc).1, ok _ (by simp [va_wsS]), ⟨hd.1, hd.2.1⟩, fun sig h => ?_, ok _ (by simp [va_wsS]), ok _ (by simp [va_wsS])⟩
  have h2 := hd.2.2
  rw [h] at h2
  exact (Option.some.inj h2).symm
theorem vx_callSW (X : Stand p l e R s m args below meth c T locs cells slots) (hexec : p.tables.exec = Jvm.exec) {own : String} {index : Nat} {y : MethodName} {bytes : ByteArray} {maxL : Nat} {ret : Option FieldType} {hh : List (Nat × Nat × Nat × Nat)}
    (hown : s.vm.findClass own = some m.cls) (hlink : (Cond.methodLink own index y).before args s = true) (hstat : (Cond.static y).before args s = true) (hinit : (Cond.initialized y.cls).before args s = true)
    (hcode : (Cond.codeWith y bytes maxL ret hh).before args s = true) (hy : y.cls ≠ "java/lang/invoke/MethodHandle" ∧ y.cls ≠ "java/lang/invoke/VarHandle")
    {W9 : Nat} {Pre : Pt → Array Value → Prop} {Post : Pt → Array Value → Option Value → Pt → Prop} (hK : Back l R p e below s args y 3 W9 Pre Post)
    {g : JFrame} (hg : g.method = m) (hsize : g.locals.size = c.maxLocals) {argsL rest : List Value} (hlen : ∀ sig, parseMethodDescriptor y.desc = some sig → argsL.length = sig.parameters.length)
    (hstack : g.stack = argsL.reverse ++ rest) (hW : 2 * g.monitorRoom + (rest.map fun v => v.category).sum ≤ W9) (hdg : decode c.code g.pc = .ok (.invokestatic index, 3))
    (hpre : ∀ vm₁, s.WarmedH vm₁ → Pre ⟨T.setVm vm₁, locs, cells, slots⟩ argsL.toArray) :
    ∃ (v : Option Value) (vm₁ : Vm) (B : Pt), s.WarmedH vm₁ ∧ Stand p l e R s m args below meth c B.U B.locs B.cells B.slots ∧ Post ⟨T.setVm vm₁, locs, cells, slots⟩ argsL.toArray v B ∧
      ∀ target, Steps p.tables e below (B.U.setTop { g with pc := g.pc + 3, stack := v.toList ++ rest }) target → Steps p.tables e below (T.setTop g) target := by
  obtain ⟨mk, methM, cM, hnamed, hmethM, -, -, -, -, -, -, hsigM⟩ := Cond.codeWith_spec hcode
  have hstatic : methM.isStatic = true := Cond.static_spec hnamed hmethM hstat
  obtain ⟨kP, hkP, -⟩ := className_of_methodNamed hnamed
  have hinitP : kP.init = .initialized := Cond.initialized_spec (findClass_of_methodNamed hnamed) hkP hinit
  obtain ⟨vm₁, X₁, hstep₁⟩ := X.invokestatic hexec hown hlink hnamed hmethM hstatic hkP hinitP hy (g := g) hg (argsL := argsL) (rest := rest) (hlen _ hsigM) hstack hdg
  obtain ⟨v, B, X', hpost, hsteps⟩ := hK m meth c ⟨T.setVm vm₁, locs, cells, slots⟩ { g with stack := rest } (.invokestatic index) mk argsL.toArray X₁ hg hsize hdg hW (X₁.named hnamed) (hpre vm₁ X₁.warmed)
  exact ⟨v, vm₁, B, X₁.warmed, X', hpost, fun target h => hstep₁ _ fun acts => by rw [doInvoke_state]; exact hsteps.trans h⟩
theorem vx_runSW {y : MethodName} {bytes cc : ByteArray} {maxL nL mc ms n index : Nat} {ret : Option FieldType} {hh : List (Nat × Nat × Nat × Nat)} {ws : List Cond} {rm : Room} {Pc : Array Value → State → Prop} {Qc : Array Value → State → Outcome → State → Prop} {free : Addr → Prop} {Ts : List Cond} {own : String} {As rest : List Value} {g : JFrame}
    (S : CallFix p m c cc nL s args Ts own) (hM : Met l y ws rm Pc Qc mc ms free) (cw : vx_CSW R s args own index y bytes maxL ret hh ws rm mc ms n) (hp : PreS s H Pc As)
    (hg : g.method = m) (hn : As.length = n) (hsize : g.locals.size = nL) (hstack : g.stack = As.reverse ++ rest) (hW : 2 * g.monitorRoom + (rest.map fun v => v.category).sum ≤ 8) (hdg : decode cc g.pc = .ok (.invokestatic index, 3)) (hf : cells + mc ≤ R.cells ∧ slots + ms ≤ R.slots) :
    va_Run p l e R s m args below meth c H locs cells slots mc ms g rest (Qc As.toArray) (free) := by
  obtain ⟨⟨hrc, hrs, hfr, hlo, hws, hcw⟩, hcode, hini, hy, hlen, hl, hstt⟩ := cw
  have hK : Back l R p e below s args y 3 8 (PreOf R mc ms Pc) (PostOf Qc mc ms free) := va_backW (hh := hh) (bytes := bytes) (maxL := maxL) (ret := ret) hM hp.1 hrc hrs hfr hlo hws hcw (fun a' U hW => word_at hW (Or.inl (by first | rfl | simp [Cond.onTables, Cond.keeps, Cond.steady])) hini)
  obtain ⟨hx, hb, hml, ho, -⟩ := S
  intro T hT X
  obtain ⟨v, vm₁, ⟨U', l2, c2, s2⟩, hW₁, X', ⟨g', mk, t, L, e1, e2, hq, h1, hL, h2, h3⟩, st⟩ := vx_callSW X hx (hh := hh) (bytes := bytes) (maxL := maxL) (ret := ret) ho hl hstt hini hcode hy hK hg (hsize.trans hml.symm) (argsL := As) (rest := rest) (fun sig h => hn.trans (hlen sig h)) hstack hW (by rw [hb]; exact hdg)
    (fun vm₁ hW₁ => ⟨hf.1, hf.2, hp.2 (T.setVm vm₁) hT hW₁⟩)
  dsimp only [Pt.U, Pt.locs, Pt.cells, Pt.slots] at X' e1 e2 h1 h2 h3 st
  subst h1; subst h2; subst h3
  exact ⟨v, (T.setVm vm₁).calling g' mk As.toArray, t, U', L, hT, X', hL, e1, e2, hq, st⟩
/-- a thing of a world lies in the heap -/
theorem vx_lt {D : va_G} {cl : List vw_C} {ws : va_W} {H1 : Heap} (h : va_P D cl ws H1) {k : Nat} {q : Nat × va_E} (hk : ws[k]? = some q) : q.1 < H1.size := (h k q hk).lt
end VXS
/-! ===== END ===== -/
/-! ===== BEGIN methods with a table of their own: called by a name, returning or throwing ===== -/
section VXH
/-! vx_backW, vx_callVX, vx_callSX, vx_callVW, vx_runVW, vx_runVX, vx_runSX, vx_ofWH follow the same proofs as their sisters above (Free/Laws.lean, Shelf42/LK1.lean); vx_outP calls Shelf42/NT130.lean (outThrough). -/
section
variable {l : Launch} {R : Room} {p : Program} {e : Env} {below : List Frame} {s : State} {sargs : Array Value} {y : MethodName} {len W9 : Nat}
theorem vx_backW {ws : List Cond} {rm : Room} {Pc : Array Value → State → Prop} {Qc : Array Value → State → Outcome → State → Prop} {XC : String → State → State → Prop} {mc ms : Nat} {free : Addr → Prop} {bytes : ByteArray} {maxL : Nat} {ret : Option FieldType} {hh : List (Nat × Nat × Nat × Nat)}
    (hM : vx_Met l y ws rm Pc Qc XC mc ms free) (hblind : FrameBlind Pc) (hrc : rm.cells = mc) (hrs : rm.slots = ms)
    (hframes : rm.frames + 1 ≤ R.frames) (hlocals : W9 + (maxL + 11) + rm.locals ≤ R.locals)
    (hws : ∀ w ∈ ws, ∀ a' U, s.WarmedH U.vm → w.before a' U = true) (hcode : Cond.codeWith y bytes maxL ret hh ∈ ws) (hinit : ∀ a' U, s.WarmedH U.vm → (Cond.initialized y.cls).before a' U = true) :
    vx_Back l R p e below s sargs y len W9 (PreOf R mc ms Pc) (PostOf Qc mc ms free) (vx_Post XC mc ms free) := by
  intro m meth c A g ig mk a X hg hsize hdg hW hn hp
  have h1 : (headSpec ws rm).pre.before a A.U = true := atoms_intro fun w hw => hws w hw _ _ X.warmed
  have h2 : (Cond.codeWith y bytes maxL ret hh).before a A.U = true := hws _ hcode _ _ X.warmed
  have h3 : (Cond.initialized y.cls).before a A.U = true := hinit _ _ X.warmed
  have h4 : A.cells + (headSpec ws rm).room.cells ≤ R.cells := by rw [show (headSpec ws rm).room.cells = mc from hrc]; exact hp.1
  have h5 : A.slots + (headSpec ws rm).room.slots ≤ R.slots := by rw [show (headSpec ws rm).room.slots = ms from hrs]; exact hp.2.1
  have hPc : Pc a (A.U.calling g mk a) := hblind _ _ _ _ hp.2.2
  obtain ⟨U, Ls, c0, s0⟩ := A
  dsimp only [Pt.U, Pt.locs, Pt.cells, Pt.slots] at h1 h2 h3 h4 h5 X hn hPc ⊢
  obtain ⟨m9, methY, cY, hn9, hmY, hcY, -, hlY, -⟩ := Cond.codeWith_spec h2
  cases Option.some.inj (hn9.symm.trans hn)
  obtain ⟨kY, hkY, -⟩ := className_of_methodNamed hn
  have hinitY : kY.init = .initialized := Cond.initialized_spec (findClass_of_methodNamed hn) hkY h3
  have h : At U g.method c below := by rw [hg]; exact X.here
  have hlocals9 : W9 + (maxL + 11) + (headSpec ws rm).room.locals ≤ R.locals := hlocals
  have happ : (headSpec ws rm).appliesLoose y e.platform (U.calling g mk a) = true :=
    Spec.appliesLoose_calling (g := g) h hdg hn hkY hinitY
      (X.room_calling (g := g) (R' := (headSpec ws rm).room) hsize hmY hcY hframes (by rw [hlY]; omega) h4 h5) h1
  obtain ⟨mid, hmid⟩ := h.above
  have hfr : (U.setTop g).frames = (.java g :: mid) ++ below := by rw [State.frames_setTop' g h.top, hmid]; rfl
  obtain ⟨o, s₂, hsteps, -, hend, hq⟩ := Steps.callFree hM p X.admits X.cas X.clock (acts := []) hfr happ hPc trivial
  have hq' : vx_Q Qc XC mc ms free a (U.calling g mk a) o s₂ := hq
  rw [State.frames_setTop' g h.top] at hend
  obtain ⟨g₀, hg0⟩ := Option.isSome_iff_exists.mp h.top
  obtain ⟨r, hr⟩ := State.topJava?_eq_some.mp hg0
  have hr' : (({ U with heap := s₂.heap, slotsUsed := s₂.slotsUsed } : State).setVm s₂.vm).frames = .java g₀ :: r := hr
  rcases hq' with ⟨hqc, L, hfe, hL⟩ | ⟨q, rfl, E, ce, L, hx, hce, hcv, hcl, hW₂, hsm, hL⟩
  · obtain ⟨⟨v, rfl⟩, hW₂, e2, q2, q3, q4, q5, q6⟩ := id hfe
    have e3 : s₂ = ({ (U.calling g mk a).setFrames s₂.frames with heap := s₂.heap, slotsUsed := s₂.slotsUsed } : State).setVm s₂.vm := by
      have : s₂ = ({ s₂ with vm := (U.calling g mk a).vm } : State).setVm s₂.vm := rfl
      rw [e2] at this
      exact this
    obtain ⟨c₂, i₂, len₂, hc₂, hd₂, hf₂⟩ := hend
    have hW' : U.WarmedH s₂.vm := hW₂
    have hcc : c₂ = c := by
      have h1 : s₂.code? g.method = U.code? g.method := by
        rw [State.code?_eq, State.code?_eq, hW'.alike.method?]
      exact Option.some.inj (hc₂.symm.trans (h1.trans h.code))
    subst hcc
    have hlen : len₂ = len := by rw [hdg] at hd₂; cases hd₂; rfl
    subst hlen
    have hs₂ : s₂ = (({ U with heap := s₂.heap, slotsUsed := s₂.slotsUsed } : State).setVm s₂.vm).setTop { g with pc := g.pc + len₂, stack := v.toList ++ g.stack } := by
      refine e3.trans ?_
      rw [hf₂, State.calling_eq h.top, State.setFrames_setFrames, State.setTop_of_frames _ hr', hr]
      rfl
    have hsame : U.sameButNew ({ U with heap := s₂.heap, slotsUsed := s₂.slotsUsed } : State) L mc ms := by
      refine ⟨?_, q2, q3, q4, q5, q6⟩
      obtain ⟨t, ht, -⟩ := State.frames_cons hr
      show ({ U with heap := s₂.heap, slotsUsed := s₂.slotsUsed } : State) = { U.setFrames U.frames with heap := s₂.heap, slotsUsed := s₂.slotsUsed }
      rw [State.setFrames_self ht]
    subst hg
    refine Or.inl ⟨v, ⟨(({ U with heap := s₂.heap, slotsUsed := s₂.slotsUsed } : State).setVm s₂.vm), Ls ++ L, c0 + mc, s0 + ms⟩,
      ⟨X.admits, X.cas, X.clock, X.frames, X.room, X.hears, X.method, X.code, (X.here.setHeapUsed s₂.heap s₂.slotsUsed).setVm hW'.alike, X.tail, State.WarmedH.trans X.warmed hW', X.limits, X.bytes, X.same.trans (hsame.setVm s.vm)⟩,
      ⟨g, mk, s₂, L, rfl, rfl, hqc, rfl, hL, rfl, rfl⟩, ?_⟩
    show Steps p.tables e below _ ((({ U with heap := s₂.heap, slotsUsed := s₂.slotsUsed } : State).setVm s₂.vm).setTop { g with pc := g.pc + len₂, stack := v.toList ++ g.stack })
    rw [← hs₂]
    exact hsteps
  · obtain ⟨e2, q2, q3, q4, q5, q6⟩ := id hsm
    have e3 : s₂ = ({ (U.calling g mk a).setFrames s₂.frames with heap := s₂.heap, slotsUsed := s₂.slotsUsed } : State).setVm s₂.vm := by
      have : s₂ = ({ s₂ with vm := (U.calling g mk a).vm } : State).setVm s₂.vm := rfl
      rw [e2] at this
      exact this
    have hf₂ : s₂.frames = .throwing q :: .java g :: U.frames.tail := hend
    have hW' : U.WarmedH s₂.vm := hW₂
    have hs₂ : s₂ = ((({ U with heap := s₂.heap, slotsUsed := s₂.slotsUsed } : State).setVm s₂.vm).setTop g).pushFrame (.throwing q) := by
      refine e3.trans ?_
      rw [hf₂, State.calling_eq h.top, State.setFrames_setFrames, State.pushFrame, State.frames_setTop _ hr', State.setTop_of_frames _ hr', State.setFrames_setFrames, hr]
      rfl
    have hsame : U.sameButNew ({ U with heap := s₂.heap, slotsUsed := s₂.slotsUsed } : State) L mc ms := by
      refine ⟨?_, q2, q3, q4, q5, q6⟩
      obtain ⟨t, ht, -⟩ := State.frames_cons hr
      show ({ U with heap := s₂.heap, slotsUsed := s₂.slotsUsed } : State) = { U.setFrames U.frames with heap := s₂.heap, slotsUsed := s₂.slotsUsed }
      rw [State.setFrames_self ht]
    subst hg
    refine Or.inr ⟨q, ⟨(({ U with heap := s₂.heap, slotsUsed := s₂.slotsUsed } : State).setVm s₂.vm), Ls ++ L, c0 + mc, s0 + ms⟩,
      ⟨X.admits, X.cas, X.clock, X.frames, X.room, X.hears, X.method, X.code, (X.here.setHeapUsed s₂.heap s₂.slotsUsed).setVm hW'.alike, X.tail, State.WarmedH.trans X.warmed hW', X.limits, X.bytes, X.same.trans (hsame.setVm s.vm)⟩,
      ⟨g, mk, s₂, L, E, ce, rfl, rfl, hx, hce, hcv, hcl, rfl, hL, rfl, rfl⟩, ?_⟩
    show Steps p.tables e below _ (((({ U with heap := s₂.heap, slotsUsed := s₂.slotsUsed } : State).setVm s₂.vm).setTop g).pushFrame (.throwing q))
    rw [← hs₂]
    exact hsteps
end
variable {p : Program} {l : Launch} {e : Env} {R : Room} {s : State} {m : MethodId} {args : Array Value} {below : List Frame} {meth : Method} {c : Code} {T : State} {H : Heap} {locs : List Loc} {cells slots : Nat}
theorem vx_callVX (X : Stand p l e R s m args below meth c T locs cells slots) (hexec : p.tables.exec = Jvm.exec) {own C : String} {index : Nat} {y : MethodName} {bytes : ByteArray} {maxL : Nat} {ret : Option FieldType} {hh : List (Nat × Nat × Nat × Nat)}
    (hown : s.vm.findClass own = some m.cls) (hlink : (Cond.methodLink own index y).before args s = true) (hinst : (Cond.instanceMethod y).before args s = true) (hsel : (Cond.selects C y y).before args s = true)
    (hcode : (Cond.codeWith y bytes maxL ret hh).before args s = true) (hy : y.cls ≠ "java/lang/invoke/MethodHandle" ∧ y.cls ≠ "java/lang/invoke/VarHandle")
    {W9 : Nat} {Pre : Pt → Array Value → Prop} {Post : Pt → Array Value → Option Value → Pt → Prop} {PostX : Pt → Array Value → Addr → Pt → Prop} (hK : vx_Back l R p e below s args y 3 W9 Pre Post PostX)
    {b : Addr} {cellB : Cell} (hcell : T.heap[b]? = some cellB) (hobj : cellB.vm.isStatics = false) (hcls : s.vm.findClass C = some cellB.cls)
    {g : JFrame} (hg : g.method = m) (hsize : g.locals.size = c.maxLocals) {argsL rest : List Value} (hlen : ∀ sig, parseMethodDescriptor y.desc = some sig → argsL.length = sig.parameters.length)
    (hstack : g.stack = argsL.reverse ++ .ref b :: rest) (hW : 2 * g.monitorRoom + (rest.map fun v => v.category).sum ≤ W9) (hdg : decode c.code g.pc = .ok (.invokevirtual index, 3))
    (hpre : ∀ vm₁, s.WarmedH vm₁ → Pre ⟨T.setVm vm₁, locs, cells, slots⟩ (Value.ref b :: argsL).toArray) :
    (∃ (v : Option Value) (vm₁ : Vm) (B : Pt), s.WarmedH vm₁ ∧ Stand p l e R s m args below meth c B.U B.locs B.cells B.slots ∧ Post ⟨T.setVm vm₁, locs, cells, slots⟩ (Value.ref b :: argsL).toArray v B ∧
      ∀ target, Steps p.tables e below (B.U.setTop { g with pc := g.pc + 3, stack := v.toList ++ rest }) target → Steps p.tables e below (T.setTop g) target) ∨
    (∃ (q : Addr) (vm₁ : Vm) (B : Pt), s.WarmedH vm₁ ∧ Stand p l e R s m args below meth c B.U B.locs B.cells B.slots ∧ PostX ⟨T.setVm vm₁, locs, cells, slots⟩ (Value.ref b :: argsL).toArray q B ∧
      Steps p.tables e below (T.setTop g) ((B.U.setTop { g with stack := rest }).pushFrame (.throwing q))) := by
  obtain ⟨mk, methM, hnamed, hmethM, hstM, habM⟩ := Cond.instanceMethod_spec hinst
  obtain ⟨m8, methM', cM, hn8, hmethM', -, -, -, -, -, -, hsigM⟩ := Cond.codeWith_spec hcode
  cases Option.some.inj (hn8.symm.trans hnamed)
  cases hmethM.symm.trans hmethM'
  obtain ⟨c2, r2, m2, q1, q2, q3, q4, kP, hkP, hkPi⟩ := Cond.selects_spec hsel
  cases hcls.symm.trans q1
  cases (State.methodFound?_of_named hnamed hy).symm.trans q2
  cases hnamed.symm.trans q3
  have hselP : selectMethod e.platform s.vm cellB.cls mk = .method mk := by rw [Launch.admits_selectMethod X.admits]; exact q4
  obtain ⟨vm₁, X₁, hstep₁⟩ := X.invokevirtual hexec hown hlink hnamed hmethM hstM hkP hkPi hy (a := b) (cell := cellB) hcell
    (fun z h => by rw [h] at hobj; cases hobj) hselP hmethM habM hkP hkPi (g := g) hg (argsL := argsL) (rest := rest) (hlen _ hsigM) hstack hdg
  rcases hK m meth c ⟨T.setVm vm₁, locs, cells, slots⟩ { g with stack := rest } (.invokevirtual index) mk (Value.ref b :: argsL).toArray X₁ hg hsize hdg hW (X₁.named hnamed) (hpre vm₁ X₁.warmed) with ⟨v, B, X', hpost, hsteps⟩ | ⟨q, B, X', hpost, hsteps⟩
  · exact Or.inl ⟨v, vm₁, B, X₁.warmed, X', hpost, fun target h => hstep₁ _ fun acts => by rw [doInvoke_state]; exact hsteps.trans h⟩
  · exact Or.inr ⟨q, vm₁, B, X₁.warmed, X', hpost, hstep₁ _ fun acts => by rw [doInvoke_state]; exact hsteps⟩
theorem vx_callSX (X : Stand p l e R s m args below meth c T locs cells slots) (hexec : p.tables.exec = Jvm.exec) {own : String} {index : Nat} {y : MethodName} {bytes : ByteArray} {maxL : Nat} {ret : Option FieldType} {hh : List (Nat × Nat × Nat × Nat)}
    (hown : s.vm.findClass own = some m.cls) (hlink : (Cond.methodLink own index y).before args s = true) (hstat : (Cond.static y).before args s = true) (hinit : (Cond.initialized y.cls).before args s = true)
    (hcode : (Cond.codeWith y bytes maxL ret hh).before args s = true) (hy : y.cls ≠ "java/lang/invoke/MethodHandle" ∧ y.cls ≠ "java/lang/invoke/VarHandle")
    {W9 : Nat} {Pre : Pt → Array Value → Prop} {Post : Pt → Array Value → Option Value → Pt → Prop} {PostX : Pt → Array Value → Addr → Pt → Prop} (hK : vx_Back l R p e below s args y 3 W9 Pre Post PostX)
    {g : JFrame} (hg : g.method = m) (hsize : g.locals.size = c.maxLocals) {argsL rest : List Value} (hlen : ∀ sig, parseMethodDescriptor y.desc = some sig → argsL.length = sig.parameters.length)
    (hstack : g.stack = argsL.reverse ++ rest) (hW : 2 * g.monitorRoom + (rest.map fun v => v.category).sum ≤ W9) (hdg : decode c.code g.pc = .ok (.invokestatic index, 3))
    (hpre : ∀ vm₁, s.WarmedH vm₁ → Pre ⟨T.setVm vm₁, locs, cells, slots⟩ argsL.toArray) :
    (∃ (v : Option Value) (vm₁ : Vm) (B : Pt), s.WarmedH vm₁ ∧ Stand p l e R s m args below meth c B.U B.locs B.cells B.slots ∧ Post ⟨T.setVm vm₁, locs, cells, slots⟩ argsL.toArray v B ∧
      ∀ target, Steps p.tables e below (B.U.setTop { g with pc := g.pc + 3, stack := v.toList ++ rest }) target → Steps p.tables e below (T.setTop g) target) ∨
    (∃ (q : Addr) (vm₁ : Vm) (B : Pt), s.WarmedH vm₁ ∧ Stand p l e R s m args below meth c B.U B.locs B.cells B.slots ∧ PostX ⟨T.setVm vm₁, locs, cells, slots⟩ argsL.toArray q B ∧
      Steps p.tables e below (T.setTop g) ((B.U.setTop { g with stack := rest }).pushFrame (.throwing q))) := by
  obtain ⟨mk, methM, cM, hnamed, hmethM, -, -, -, -, -, -, hsigM⟩ := Cond.codeWith_spec hcode
  have hstatic : methM.isStatic = true := Cond.static_spec hnamed hmethM hstat
  obtain ⟨kP, hkP, -⟩ := className_of_methodNamed hnamed
  have hinitP : kP.init = .initialized := Cond.initialized_spec (findClass_of_methodNamed hnamed) hkP hinit
  obtain ⟨vm₁, X₁, hstep₁⟩ := X.invokestatic hexec hown hlink hnamed hmethM hstatic hkP hinitP hy (g := g) hg (argsL := argsL) (rest := rest) (hlen _ hsigM) hstack hdg
  rcases hK m meth c ⟨T.setVm vm₁, locs, cells, slots⟩ { g with stack := rest } (.invokestatic index) mk argsL.toArray X₁ hg hsize hdg hW (X₁.named hnamed) (hpre vm₁ X₁.warmed) with ⟨v, B, X', hpost, hsteps⟩ | ⟨q, B, X', hpost, hsteps⟩
  · exact Or.inl ⟨v, vm₁, B, X₁.warmed, X', hpost, fun target h => hstep₁ _ fun acts => by rw [doInvoke_state]; exact hsteps.trans h⟩
  · exact Or.inr ⟨q, vm₁, B, X₁.warmed, X', hpost, hstep₁ _ fun acts => by rw [doInvoke_state]; exact hsteps⟩
theorem vx_callVW (X : Stand p l e R s m args below meth c T locs cells slots) (hexec : p.tables.exec = Jvm.exec) {own C : String} {index : Nat} {y : MethodName} {bytes : ByteArray} {maxL : Nat} {ret : Option FieldType} {hh : List (Nat × Nat × Nat × Nat)}
    (hown : s.vm.findClass own = some m.cls) (hlink : (Cond.methodLink own index y).before args s = true) (hinst : (Cond.instanceMethod y).before args s = true) (hsel : (Cond.selects C y y).before args s = true)
    (hcode : (Cond.codeWith y bytes maxL ret hh).before args s = true) (hy : y.cls ≠ "java/lang/invoke/MethodHandle" ∧ y.cls ≠ "java/lang/invoke/VarHandle")
    {W9 : Nat} {Pre : Pt → Array Value → Prop} {Post : Pt → Array Value → Option Value → Pt → Prop} (hK : Back l R p e below s args y 3 W9 Pre Post)
    {b : Addr} {cellB : Cell} (hcell : T.heap[b]? = some cellB) (hobj : cellB.vm.isStatics = false) (hcls : s.vm.findClass C = some cellB.cls)
    {g : JFrame} (hg : g.method = m) (hsize : g.locals.size = c.maxLocals) {argsL rest : List Value} (hlen : ∀ sig, parseMethodDescriptor y.desc = some sig → argsL.length = sig.parameters.length)
    (hstack : g.stack = argsL.reverse ++ .ref b :: rest) (hW : 2 * g.monitorRoom + (rest.map fun v => v.category).sum ≤ W9) (hdg : decode c.code g.pc = .ok (.invokevirtual index, 3))
    (hpre : ∀ vm₁, s.WarmedH vm₁ → Pre ⟨T.setVm vm₁, locs, cells, slots⟩ (Value.ref b :: argsL).toArray) :
    ∃ (v : Option Value) (vm₁ : Vm) (B : Pt), s.WarmedH vm₁ ∧ Stand p l e R s m args below meth c B.U B.locs B.cells B.slots ∧ Post ⟨T.setVm vm₁, locs, cells, slots⟩ (Value.ref b :: argsL).toArray v B ∧
      ∀ target, Steps p.tables e below (B.U.setTop { g with pc := g.pc + 3, stack := v.toList ++ rest }) target → Steps p.tables e below (T.setTop g) target := by
  obtain ⟨mk, methM, hnamed, hmethM, hstM, habM⟩ := Cond.instanceMethod_spec hinst
  obtain ⟨m8, methM', cM, hn8, hmethM', -, -, -, -, -, -, hsigM⟩ := Cond.codeWith_spec hcode
  cases Option.some.inj (hn8.symm.trans hnamed)
  cases hmethM.symm.trans hmethM'
  obtain ⟨c2, r2, m2, q1, q2, q3, q4, kP, hkP, hkPi⟩ := Cond.selects_spec hsel
  cases hcls.symm.trans q1
  cases (State.methodFound?_of_named hnamed hy).symm.trans q2
  cases hnamed.symm.trans q3
  have hselP : selectMethod e.platform s.vm cellB.cls mk = .method mk := by rw [Launch.admits_selectMethod X.admits]; exact q4
  obtain ⟨vm₁, X₁, hstep₁⟩ := X.invokevirtual hexec hown hlink hnamed hmethM hstM hkP hkPi hy (a := b) (cell := cellB) hcell
    (fun z h => by rw [h] at hobj; cases hobj) hselP hmethM habM hkP hkPi (g := g) hg (argsL := argsL) (rest := rest) (hlen _ hsigM) hstack hdg
  obtain ⟨v, B, X', hpost, hsteps⟩ := hK m meth c ⟨T.setVm vm₁, locs, cells, slots⟩ { g with stack := rest } (.invokevirtual index) mk (Value.ref b :: argsL).toArray X₁ hg hsize hdg hW (X₁.named hnamed) (hpre vm₁ X₁.warmed)
  exact ⟨v, vm₁, B, X₁.warmed, X', hpost, fun target h => hstep₁ _ fun acts => by rw [doInvoke_state]; exact hsteps.trans h⟩
abbrev vx_CVW (R : Room) (s : State) (args : Array Value) (own C : String) (index : Nat) (y : MethodName) (bytes : ByteArray) (maxL : Nat) (ret : Option FieldType) (hh : List (Nat × Nat × Nat × Nat)) (ws : List Cond) (rm : Room) (mc ms n : Nat) : Prop :=
  (rm.cells = mc ∧ rm.slots = ms ∧ rm.frames + 1 ≤ R.frames ∧ 8 + (maxL + 11) + rm.locals ≤ R.locals ∧ (∀ w ∈ ws, ∀ (a' : Array Value) (U : State), s.WarmedH U.vm → w.before a' U = true) ∧ Cond.codeWith y bytes maxL ret hh ∈ ws) ∧
  (Cond.codeWith y bytes maxL ret hh).before args s = true ∧ (Cond.initialized y.cls).before args s = true ∧ (y.cls ≠ "java/lang/invoke/MethodHandle" ∧ y.cls ≠ "java/lang/invoke/VarHandle") ∧
  (∀ sig, parseMethodDescriptor y.desc = some sig → n = sig.parameters.length) ∧ (Cond.methodLink own index y).before args s = true ∧ (Cond.instanceMethod y).before args s = true ∧ (Cond.selects C y y).before args s = true
theorem vx_cwVW {own C : String} {index maxL mc ms : Nat} {y : MethodName} {bytes : ByteArray} {ret : Option FieldType} {hh : List (Nat × Nat × Nat × Nat)} {Ts ws ws' : List Cond} {rm : Room} (n : Nat) (ht : ∀ w ∈ Ts, w.before args s = true) (hT : GoodIn Ts (wsV own index C y ws)) (hw : ws = Cond.codeWith y bytes maxL ret hh :: ws') (hrc : rm.cells = mc) (hrs : rm.slots = ms)
    (hd : y.cls = C ∧ y.cls ≠ "java/lang/invoke/MethodHandle" ∧ y.cls ≠ "java/lang/invoke/VarHandle" ∧ (parseMethodDescriptor y.desc).map (fun d => d.parameters.length) = some n) (hR : rm.frames + 1 ≤ R.frames ∧ 8 + (maxL + 11) + rm.locals ≤ R.locals) :
    vx_CVW R s args own C index y bytes maxL ret hh ws rm mc ms n := by
  obtain ⟨hC, hd⟩ := hd
  subst hC
  have ok : ∀ w ∈ wsV own index y.cls y ws, w.before args s = true := fun w h => ht w (hT w h).1
  have hG : GoodIn Ts ws := fun w h => hT w (by unfold wsV; exact List.mem_append_right _ h)
  have hc : Cond.codeWith y bytes maxL ret hh ∈ ws := by rw [hw]; exact List.mem_cons_self
  refine ⟨⟨hrc, hrs, hR.1, hR.2, pay_in ht hG, hc⟩, ht _ (hG _ hc).1, ok _ (by simp [wsV]), ⟨hd.1, hd.2.1⟩, fun sig h => ?_, ok _ (by simp [wsV]), ok _ (by simp [wsV]), ok _ (by simp [wsV])⟩
  have h2 := hd.2.2
  rw [h] at h2
  exact (Option.some.inj h2).symm
theorem vx_runVW {y : MethodName} {bytes cc : ByteArray} {maxL nL mc ms n index : Nat} {ret : Option FieldType} {hh : List (Nat × Nat × Nat × Nat)} {ws : List Cond} {rm : Room} {Pc : Array Value → State → Prop} {Qc : Array Value → State → Outcome → State → Prop} {free : Addr → Prop} {Ts : List Cond} {own C : String} {b : Addr} {As rest : List Value} {g : JFrame}
    (S : CallFix p m c cc nL s args Ts own) (hM : Met l y ws rm Pc Qc mc ms free) (cw : vx_CVW R s args own C index y bytes maxL ret hh ws rm mc ms n) (hp : PreV s H C b Pc As)
    (hg : g.method = m) (hn : As.length = n) (hsize : g.locals.size = nL) (hstack : g.stack = As.reverse ++ .ref b :: rest) (hW : 2 * g.monitorRoom + (rest.map fun v => v.category).sum ≤ 8) (hdg : decode cc g.pc = .ok (.invokevirtual index, 3)) (hf : cells + mc ≤ R.cells ∧ slots + ms ≤ R.slots) :
    va_Run p l e R s m args below meth c H locs cells slots mc ms g rest (Qc (Value.ref b :: As).toArray) free := by
  obtain ⟨⟨hrc, hrs, hfr, hlo, hws, hcw⟩, hcode, hini, hy, hlen, hl, hin, hse⟩ := cw
  have hK : Back l R p e below s args y 3 8 (PreOf R mc ms Pc) (PostOf Qc mc ms free) := va_backW (hh := hh) (bytes := bytes) (maxL := maxL) (ret := ret) hM hp.1 hrc hrs hfr hlo hws hcw (fun a' U hW => word_at hW (Or.inl (by first | rfl | simp [Cond.onTables, Cond.keeps, Cond.steady])) hini)
  obtain ⟨hx, hb, hml, ho, -⟩ := S
  obtain ⟨-, ⟨cellB, hcB, hoB, hclB⟩, hPc⟩ := hp
  intro T hT X
  obtain ⟨v, vm₁, ⟨U', l2, c2, s2⟩, hW₁, X', ⟨g', mk, t, L, e1, e2, hq, h1, hL, h2, h3⟩, st⟩ := vx_callVW X hx (C := C) (hh := hh) (bytes := bytes) (maxL := maxL) (ret := ret) ho hl hin hse hcode hy hK (by rw [hT]; exact hcB) hoB hclB hg (hsize.trans hml.symm) (argsL := As) (rest := rest) (fun sig h => hn.trans (hlen sig h)) hstack hW (by rw [hb]; exact hdg)
    (fun vm₁ hW₁ => ⟨hf.1, hf.2, hPc (T.setVm vm₁) hT hW₁⟩)
  dsimp only [Pt.U, Pt.locs, Pt.cells, Pt.slots] at X' e1 e2 h1 h2 h3 st
  subst h1; subst h2; subst h3
  exact ⟨v, (T.setVm vm₁).calling g' mk (Value.ref b :: As).toArray, t, U', L, hT, X', hL, e1, e2, hq, st⟩
section
variable {y : MethodName} {bytes cc : ByteArray} {maxL nL mc ms n index : Nat} {ret : Option FieldType} {ws : List Cond} {rm : Room} {Pc : Array Value → State → Prop} {Qc : Array Value → State → Outcome → State → Prop} {XC : String → State → State → Prop} {free : Addr → Prop} {Ts : List Cond} {own C : String} {b : Addr} {As rest : List Value} {g : JFrame}
theorem vx_runVX {hh : List (Nat × Nat × Nat × Nat)} (S : CallFix p m c cc nL s args Ts own) (hM : vx_Met l y ws rm Pc Qc XC mc ms free) (cw : vx_CVW R s args own C index y bytes maxL ret hh ws rm mc ms n) (hp : PreV s H C b Pc As)
    (hg : g.method = m) (hn : As.length = n) (hsize : g.locals.size = nL) (hstack : g.stack = As.reverse ++ .ref b :: rest) (hW : 2 * g.monitorRoom + (rest.map fun v => v.category).sum ≤ 8) (hdg : decode cc g.pc = .ok (.invokevirtual index, 3)) (hf : cells + mc ≤ R.cells ∧ slots + ms ≤ R.slots) :
    vx_Run p l e R s m args below meth c H locs cells slots mc ms g rest (Qc (Value.ref b :: As).toArray) XC free := by
  obtain ⟨⟨hrc, hrs, hfr, hlo, hws, hcw⟩, hcode, hini, hy, hlen, hl, hin, hse⟩ := cw
  have hK : vx_Back l R p e below s args y 3 8 (PreOf R mc ms Pc) (PostOf Qc mc ms free) (vx_Post XC mc ms free) := vx_backW (hh := hh) (bytes := bytes) (maxL := maxL) (ret := ret) hM hp.1 hrc hrs hfr hlo hws hcw (fun a' U hW => word_at hW (Or.inl (by first | rfl | simp [Cond.onTables, Cond.keeps, Cond.steady])) hini)
  obtain ⟨hx, hb, hml, ho, -⟩ := S
  obtain ⟨-, ⟨cellB, hcB, hoB, hclB⟩, hPc⟩ := hp
  intro T hT X
  rcases vx_callVX X hx (C := C) (hh := hh) (bytes := bytes) (maxL := maxL) (ret := ret) ho hl hin hse hcode hy hK (by rw [hT]; exact hcB) hoB hclB hg (hsize.trans hml.symm) (argsL := As) (rest := rest) (fun sig h => hn.trans (hlen sig h)) hstack hW (by rw [hb]; exact hdg)
    (fun vm₁ hW₁ => ⟨hf.1, hf.2, hPc (T.setVm vm₁) hT hW₁⟩) with ⟨v, vm₁, ⟨U', l2, c2, s2⟩, hW₁, X', ⟨g', mk, t, L, e1, e2, hq, h1, hL, h2, h3⟩, st⟩ | ⟨q, vm₁, ⟨U', l2, c2, s2⟩, hW₁, X', ⟨g', mk, t, L, E, ce, e1, e2, hq, hce, hcv, hcl, h1, hL, h2, h3⟩, st⟩
  · dsimp only [Pt.U, Pt.locs, Pt.cells, Pt.slots] at X' e1 e2 h1 h2 h3 st
    subst h1; subst h2; subst h3
    exact Or.inl ⟨v, (T.setVm vm₁).calling g' mk (Value.ref b :: As).toArray, t, U', L, hT, X', hL, e1, e2, hq, st⟩
  · dsimp only [Pt.U, Pt.locs, Pt.cells, Pt.slots] at X' e1 e2 h1 h2 h3 st hcl
    subst h1; subst h2; subst h3
    exact Or.inr ⟨q, (T.setVm vm₁).calling g' mk (Value.ref b :: As).toArray, t, U', L, E, ce, hT, X', hL, e1, e2, hq, hce, hcv, vx_cls hW₁ hcl, st⟩
theorem vx_runSX {hh : List (Nat × Nat × Nat × Nat)} (S : CallFix p m c cc nL s args Ts own) (hM : vx_Met l y ws rm Pc Qc XC mc ms free) (cw : vx_CSW R s args own index y bytes maxL ret hh ws rm mc ms n) (hp : PreS s H Pc As)
    (hg : g.method = m) (hn : As.length = n) (hsize : g.locals.size = nL) (hstack : g.stack = As.reverse ++ rest) (hW : 2 * g.monitorRoom + (rest.map fun v => v.category).sum ≤ 8) (hdg : decode cc g.pc = .ok (.invokestatic index, 3)) (hf : cells + mc ≤ R.cells ∧ slots + ms ≤ R.slots) :
    vx_Run p l e R s m args below meth c H locs cells slots mc ms g rest (Qc As.toArray) XC free := by
  obtain ⟨⟨hrc, hrs, hfr, hlo, hws, hcw⟩, hcode, hini, hy, hlen, hl, hstt⟩ := cw
  have hK : vx_Back l R p e below s args y 3 8 (PreOf R mc ms Pc) (PostOf Qc mc ms free) (vx_Post XC mc ms free) := vx_backW (hh := hh) (bytes := bytes) (maxL := maxL) (ret := ret) hM hp.1 hrc hrs hfr hlo hws hcw (fun a' U hW => word_at hW (Or.inl (by first | rfl | simp [Cond.onTables, Cond.keeps, Cond.steady])) hini)
  obtain ⟨hx, hb, hml, ho, -⟩ := S
  intro T hT X
  rcases vx_callSX X hx (hh := hh) (bytes := bytes) (maxL := maxL) (ret := ret) ho hl hstt hini hcode hy hK hg (hsize.trans hml.symm) (argsL := As) (rest := rest) (fun sig h => hn.trans (hlen sig h)) hstack hW (by rw [hb]; exact hdg)
    (fun vm₁ hW₁ => ⟨hf.1, hf.2, hp.2 (T.setVm vm₁) hT hW₁⟩) with ⟨v, vm₁, ⟨U', l2, c2, s2⟩, hW₁, X', ⟨g', mk, t, L, e1, e2, hq, h1, hL, h2, h3⟩, st⟩ | ⟨q, vm₁, ⟨U', l2, c2, s2⟩, hW₁, X', ⟨g', mk, t, L, E, ce, e1, e2, hq, hce, hcv, hcl, h1, hL, h2, h3⟩, st⟩
  · dsimp only [Pt.U, Pt.locs, Pt.cells, Pt.slots] at X' e1 e2 h1 h2 h3 st
    subst h1; subst h2; subst h3
    exact Or.inl ⟨v, (T.setVm vm₁).calling g' mk As.toArray, t, U', L, hT, X', hL, e1, e2, hq, st⟩
  · dsimp only [Pt.U, Pt.locs, Pt.cells, Pt.slots] at X' e1 e2 h1 h2 h3 st hcl
    subst h1; subst h2; subst h3
    exact Or.inr ⟨q, (T.setVm vm₁).calling g' mk As.toArray, t, U', L, E, ce, hT, X', hL, e1, e2, hq, hce, hcv, vx_cls hW₁ hcl, st⟩
end
end VXH
theorem vx_ofWH {l : Launch} {y : MethodName} {ws ws' : List Cond} {rm : Room} {Pc : Array Value → State → Prop} {Qc : Array Value → State → Outcome → State → Prop} {XC : String → State → State → Prop} {mc ms : Nat} {free : Addr → Prop} {cc : ByteArray} {maxL : Nat} {ret : Option FieldType} {hh : List (Nat × Nat × Nat × Nat)}
    (hy : plainName y.cls = true) (hw : ws = Cond.codeWith y cc maxL ret hh :: ws')
    (body : ∀ p e s m args below meth c s₁, BodyLoose p l y (headSpec ws rm) cc maxL ret e s m args below meth c s₁ → c.maxLocals = maxL → Pc args s →
      W p l e (headSpec ws rm).room s m args below meth c s.heap [] 0 0 (vx_MQ below Qc XC args s mc ms free) (entryFrame m args maxL)) : vx_Met l y ws rm Pc Qc XC mc ms free := by
  refine MetFree.of_bodyS (code := cc) (maxLocals := maxL) (ret := ret) hy ?_ ?_
  · intro args s m h hn
    obtain ⟨m9, meth, c, hn9, h1, h2, h3, h4, -, h5, h6, -⟩ := Cond.codeWith_spec (atoms_spec (ws := ws) h _ (by rw [hw]; exact List.mem_cons_self))
    cases hn.symm.trans hn9
    exact ⟨meth, c, h1, h2, h3, h4, h5, h6⟩
  · intro p e s m args below meth c s₁ B hml hP _
    have hh0 : s₁.heap = s.heap := by rw [B.state]; rfl
    obtain ⟨t, a1, o, b1, b2, b3⟩ := body p e s m args below meth c s₁ B hml hP s₁ hh0 (Stand.of_body B)
    exact ⟨t, o, a1, b1, b2, b3⟩
/-! ===== END ===== -/
end
section
/-! ===== the small machine: values, memory, rows, one step, a run ===== -/
/-- a value: a number or null as it is, a reference as (kind, place) -/
abbrev am_V : Type := Value ⊕ (Nat × Nat)
/-- what all cells hold: kind, place, slot -/
abbrev am_M : Type := Nat → Nat → Nat → Int32
/-- returned (with what), or thrown (of which class) -/
abbrev am_O : Type := Option am_V ⊕ String
abbrev am_R : Type := Option (am_O × am_M)
abbrev am_F : Type := List am_V → am_M → am_R
/-- instruction, length, two numbers, a constant -/
abbrev am_Row : Type := Instr × Nat × Nat × Nat × Value
abbrev am_P : Type := List (List (Nat × am_Row))
def am_find : List (Nat × am_Row) → Nat → Option am_Row
  | [], _ => none
  | q :: l, pc => cond (Nat.beq q.1 pc) (some q.2) (am_find l pc)
def am_at (P : am_P) (pc : Nat) : Option am_Row := match P[pc / 16]? with
  | none => none
  | some l => am_find l pc
def am_D : am_V := .inl (.float 0)
def am_isD : am_V → Bool
  | .inl (.float _) => true
  | _ => false
def am_kill (ls : List am_V) (i : Nat) : List am_V := match i with
  | 0 => ls
  | j + 1 => match ls[j]? with
    | some (.inl (.long _)) => ls.set j am_D
    | _ => ls
def am_set1 (ls : List am_V) (i : Nat) (v : am_V) : List am_V := (am_kill ls i).set i v
def am_set2 (ls : List am_V) (i : Nat) (v : am_V) : List am_V := ((am_kill ls i).set i v).set (i + 1) am_D
def am_put (M : am_M) (k i f : Nat) (v : Int32) : am_M := fun k' i' f' => if k' = k ∧ i' = i ∧ f' = f then v else M k' i' f'
/-- a number as a boolean cell holds it -/
def am_b (x : Int32) : Int32 := if x = 0 then 0 else 1
/-- a long as two cells -/
def am_hi (x : Int64) : Int32 := Int32.ofNat (x.toBitVec.toNat / 4294967296)
def am_lo (x : Int64) : Int32 := Int32.ofNat (x.toBitVec.toNat % 4294967296)
def am_jn (h l : Int32) : Int64 := Int64.ofNat (h.toBitVec.toNat * 4294967296 + l.toBitVec.toNat)
abbrev am_in (x : Int32) (n : Nat) : Prop := 0 ≤ x.toInt ∧ x.toInt < n
/-- a switch by ifs -/
def am_sw {R : Type} (K : Nat → R) (d : Nat) (x : Int32) : List (Int32 × Nat) → R
  | [] => K d
  | q :: l => if x = q.1 then K q.2 else am_sw K d x l
/-- which handler catches at a pc, by the class's name: the constant that is then returned -/
def am_catch (hs : List (Nat × Nat × String × Value)) (pc : Nat) (E : String) : Option Value := match hs with
  | [] => none
  | h :: l => if h.1 ≤ pc ∧ pc < h.2.1 ∧ h.2.2.1 = E then some h.2.2.2 else am_catch l pc E
def am_wt : List am_V → Nat
  | [] => 0
  | .inl (.long _) :: l => 2 + am_wt l
  | _ :: l => 1 + am_wt l
/-- reference fields: which kind they lead to (at the same place); none: a number -/
def am_ftl : List (List (Option Nat)) := [
  [some 11, some 12, none],
  [some 13, none, some 14, some 15, none, none, none, none, none, none],
  [some 16, none],
  [some 17, none],
  [none, none, none, none, none, none, none, none, none, none],
  [none, none, none, none],
  [some 18, some 0, some 2, none],
  [some 19, some 20, some 21],
  [none, none, none],
  [some 22, some 23, some 24, some 25, some 26, some 7, some 3, none, none, none, none, none, none],
  [some 30, some 31, some 32, some 33, some 34, some 35, some 36, some 37, some 38, some 39, some 40, some 41, some 42, some 43, none, some 45, some 46, some 47, some 48, some 49, some 50, some 51, some 52, some 53, some 54, some 55, some 56, some 57, some 58, some 59, some 60, some 61, some 62, some 63, some 64, some 65, none, none, none, some 69, none, none, none, none, none, none, none, none]]
def am_ft (c f : Nat) : Option Nat := ((am_ftl.getD c []).getD f none)
/-- boolean fields -/
def am_fzl : List (List Bool) := [
  [false, false, false],
  [false, false, false, false, false, false, true, false, false, false],
  [false, false],
  [false, false],
  [false, false, true, false, false, false, true, false, false, false],
  [false, false, false, false],
  [false, false, false, true],
  [false, false, false],
  [false, true, false],
  [false, false, false, false, false, false, false, false, false, false, true, true, false],
  [false, false, false, false, false, false, false, false, false, false, false, false, false, false, false, false, false, false, false, false, false, false, false, false, false, false, false, false, false, false, false, false, false, false, false, false, false, false, false, false, false, false, false, false, false, false, true, true]]
def am_fz (c f : Nat) : Bool := ((am_fzl.getD c []).getD f false)
/-- how many fields a class has -/
def am_nf (c : Nat) : Nat := (am_ftl.getD c []).length
/-- arrays: what they hold (0 int, 1 boolean, 2 long, 3 + k: references to kind k), how many -/
def am_arl : List (Option (Nat × Nat)) := [none, none, none, none, none, none, none, none, none, none, none, some (0, 5), some (0, 5), some (0, 6), some (0, 2), some (0, 2), some (0, 10), some (0, 40), some (0, 16), some (0, 13), some (0, 13), some (1, 36), some (9, 4), some (11, 6), some (8, 8), some (4, 10), some (7, 40), none, none, none, some (0, 64), some (1, 4), some (0, 20), some (0, 20), some (0, 4), some (0, 40), some (0, 4), some (0, 6), some (0, 6), some (0, 6), some (0, 8), some (0, 8), some (0, 8), some (1, 36), none, some (0, 40), some (0, 40), some (1, 40), some (0, 40), some (0, 40), some (0, 40), some (0, 40), some (0, 40), some (1, 40), some (1, 40), some (0, 240), some (0, 40), some (0, 40), some (0, 40), some (0, 10), some (0, 10), some (0, 24), some (0, 24), some (0, 24), some (0, 24), some (0, 24), none, none, none, some (0, 40), none, none, none, none, none, none, none, none, none, none, some (2, 1)]
def am_ar (k : Nat) : Option (Nat × Nat) := am_arl.getD k none
/-- how many cells of a kind there are -/
def am_ctl : List Nat := [4, 10, 4, 1, 40, 8, 4, 1, 6, 1, 1, 4, 4, 10, 10, 10, 4, 1, 4, 1, 1, 1, 1, 1, 1, 1, 1, 0, 0, 0, 1, 1, 1, 1, 1, 1, 1, 1, 1, 1, 1, 1, 1, 1, 0, 1, 1, 1, 1, 1, 1, 1, 1, 1, 1, 1, 1, 1, 1, 1, 1, 1, 1, 1, 1, 1, 0, 0, 0, 1, 0, 0, 0, 0, 0, 0, 0, 0, 0, 0, 1]
def am_ct (k : Nat) : Nat := am_ctl.getD k 0
/-- the class's two rows of constants, kinds 27 and 28 -/
def am_st (k j : Nat) : Int32 := (if k = 27 then [0, -1, 0, 0, -1, 0, 0, 0, 0, 0, -2147483648, -2147483648, 0, 2, -2147483648, 1] else [500, 5, 2000, 12, 5, 2000, 12, 12, 12, 2, 2147483647, 2147483647, 2, 10, 2147483647, 1000000] : List Int32).getD j 0
/-- a method's end by a return (rt: 0 nothing, 1 int, 2 boolean, 3 long, 4 reference, 5: the law) -/
def am_fin (rt : Nat) (i : Instr) (_ls st : List am_V) : Option am_O := match i with
  | .return_ => match st with
    | [] => cond (Nat.beq rt 0) (some (.inl none)) none
    | _ => none
  | .ireturn => match st with
    | [.inl (.int x)] => cond (Nat.beq rt 1 || Nat.beq rt 5) (some (.inl (some (.inl (.int x))))) (cond (Nat.beq rt 2) (if am_b x = x then some (.inl (some (.inl (.int x)))) else none) none)
    | _ => none
  | .lreturn => match st with
    | [.inl (.long x)] => cond (Nat.beq rt 3) (some (.inl (some (.inl (.long x))))) none
    | _ => none
  | .areturn => match st with
    | [.inr q] => cond (Nat.beq rt 4) (some (.inl (some (.inr q)))) none
    | [.inl .null] => cond (Nat.beq rt 4) (some (.inl (some (.inl .null)))) none
    | _ => none
  | _ => none
/-- an answer that its caller may use -/
def am_okv : Option am_V → Bool
  | none => true
  | some (.inl (.int _)) => true
  | some (.inl (.long _)) => true
  | some (.inl .null) => true
  | some (.inr (k, j)) => Nat.blt j (am_ct k)
  | _ => false
/-- behind a call -/
def am_ret (hs : List (Nat × Nat × String × Value)) (pc : Nat) (rest : List am_V) (K : List am_V → am_M → am_R) (r : am_R) : am_R := match r with
  | none => none
  | some (.inl v, M) => cond (am_okv v) (K (v.toList ++ rest) M) none
  | some (.inr E, M) => match am_catch hs pc E with
    | none => some (.inr E, M)
    | some v => some (.inl (some (.inl v)), M)
def am_call (cs : List am_F) (a : Nat) (av : List am_V) (M : am_M) : am_R := match cs[a]? with
  | none => none
  | some F => F av M
def am_step (cs : List am_F) (hs : List (Nat × Nat × String × Value)) (rt : Nat) (X : Nat × (Nat → Int32)) (P : am_P) (K : Nat → List am_V → List am_V → am_M → am_R) (pc : Nat) (ls st : List am_V) (M : am_M) : am_R :=
  match am_at P pc with
  | none => none
  | some (i, len, a, b, z) => match i with
    | .iconst _ => K (pc + len) ls (.inl z :: st) M
    | .bipush _ => K (pc + len) ls (.inl z :: st) M
    | .sipush _ => K (pc + len) ls (.inl z :: st) M
    | .ldc _ => K (pc + len) ls (.inl z :: st) M
    | .lconst _ => K (pc + len) ls (.inl z :: st) M
    | .ldc2_w _ => K (pc + len) ls (.inl z :: st) M
    | .aconst_null => K (pc + len) ls (.inl .null :: st) M
    | .iload_n _ => match ls[a]? with
      | some (.inl (.int x)) => K (pc + len) ls (.inl (.int x) :: st) M
      | _ => none
    | .iload _ => match ls[a]? with
      | some (.inl (.int x)) => K (pc + len) ls (.inl (.int x) :: st) M
      | _ => none
    | .lload_n _ => match ls[a]? with
      | some (.inl (.long x)) => K (pc + len) ls (.inl (.long x) :: st) M
      | _ => none
    | .lload _ => match ls[a]? with
      | some (.inl (.long x)) => K (pc + len) ls (.inl (.long x) :: st) M
      | _ => none
    | .aload_n _ => match ls[a]? with
      | some (.inr q) => K (pc + len) ls (.inr q :: st) M
      | some (.inl .null) => K (pc + len) ls (.inl .null :: st) M
      | _ => none
    | .aload _ => match ls[a]? with
      | some (.inr q) => K (pc + len) ls (.inr q :: st) M
      | some (.inl .null) => K (pc + len) ls (.inl .null :: st) M
      | _ => none
    | .istore_n _ => match st with
      | .inl (.int x) :: r => K (pc + len) (am_set1 ls a (.inl (.int x))) r M
      | _ => none
    | .istore _ => match st with
      | .inl (.int x) :: r => K (pc + len) (am_set1 ls a (.inl (.int x))) r M
      | _ => none
    | .lstore_n _ => match st with
      | .inl (.long x) :: r => K (pc + len) (am_set2 ls a (.inl (.long x))) r M
      | _ => none
    | .lstore _ => match st with
      | .inl (.long x) :: r => K (pc + len) (am_set2 ls a (.inl (.long x))) r M
      | _ => none
    | .astore_n _ => match st with
      | .inr q :: r => K (pc + len) (am_set1 ls a (.inr q)) r M
      | .inl .null :: r => K (pc + len) (am_set1 ls a (.inl .null)) r M
      | _ => none
    | .astore _ => match st with
      | .inr q :: r => K (pc + len) (am_set1 ls a (.inr q)) r M
      | .inl .null :: r => K (pc + len) (am_set1 ls a (.inl .null)) r M
      | _ => none
    | .iinc _ _ => match ls[a]?, z with
      | some (.inl (.int x)), .int v => K (pc + len) (am_set1 ls a (.inl (.int (x + v)))) st M
      | _, _ => none
    | .iadd => match st with
      | .inl (.int y) :: .inl (.int x) :: r => K (pc + len) ls (.inl (.int (x + y)) :: r) M
      | _ => none
    | .isub => match st with
      | .inl (.int y) :: .inl (.int x) :: r => K (pc + len) ls (.inl (.int (x - y)) :: r) M
      | _ => none
    | .imul => match st with
      | .inl (.int y) :: .inl (.int x) :: r => K (pc + len) ls (.inl (.int (x * y)) :: r) M
      | _ => none
    | .iand => match st with
      | .inl (.int y) :: .inl (.int x) :: r => K (pc + len) ls (.inl (.int (x &&& y)) :: r) M
      | _ => none
    | .ior => match st with
      | .inl (.int y) :: .inl (.int x) :: r => K (pc + len) ls (.inl (.int (x ||| y)) :: r) M
      | _ => none
    | .ishr => match st with
      | .inl (.int y) :: .inl (.int x) :: r => K (pc + len) ls (.inl (.int (x >>> (y &&& 31))) :: r) M
      | _ => none
    | .idiv => match st with
      | .inl (.int y) :: .inl (.int x) :: r => if y = 0 then none else K (pc + len) ls (.inl (.int (x / y)) :: r) M
      | _ => none
    | .irem => match st with
      | .inl (.int y) :: .inl (.int x) :: r => if y = 0 then none else K (pc + len) ls (.inl (.int (x - x / y * y)) :: r) M
      | _ => none
    | .ladd => match st with
      | .inl (.long y) :: .inl (.long x) :: r => K (pc + len) ls (.inl (.long (x + y)) :: r) M
      | _ => none
    | .lsub => match st with
      | .inl (.long y) :: .inl (.long x) :: r => K (pc + len) ls (.inl (.long (x - y)) :: r) M
      | _ => none
    | .lmul => match st with
      | .inl (.long y) :: .inl (.long x) :: r => K (pc + len) ls (.inl (.long (x * y)) :: r) M
      | _ => none
    | .lxor => match st with
      | .inl (.long y) :: .inl (.long x) :: r => K (pc + len) ls (.inl (.long (x ^^^ y)) :: r) M
      | _ => none
    | .ldiv => match st with
      | .inl (.long y) :: .inl (.long x) :: r => if y = 0 then none else K (pc + len) ls (.inl (.long (x / y)) :: r) M
      | _ => none
    | .lrem => match st with
      | .inl (.long y) :: .inl (.long x) :: r => if y = 0 then none else K (pc + len) ls (.inl (.long (x - x / y * y)) :: r) M
      | _ => none
    | .lshl => match st with
      | .inl (.int y) :: .inl (.long x) :: r => K (pc + len) ls (.inl (.long (x <<< (y.toInt64 &&& 63))) :: r) M
      | _ => none
    | .lcmp => match st with
      | .inl (.long y) :: .inl (.long x) :: r => K (pc + len) ls (.inl (.int (lg_cmp x y)) :: r) M
      | _ => none
    | .i2l => match st with
      | .inl (.int x) :: r => K (pc + len) ls (.inl (.long x.toInt64) :: r) M
      | _ => none
    | .l2i => match st with
      | .inl (.long x) :: r => K (pc + len) ls (.inl (.int x.toInt32) :: r) M
      | _ => none
    | .dup => match st with
      | .inl (.int x) :: r => K (pc + len) ls (.inl (.int x) :: .inl (.int x) :: r) M
      | .inr q :: r => K (pc + len) ls (.inr q :: .inr q :: r) M
      | _ => none
    | .dup2 => match st with
      | .inl (.int x) :: .inr q :: r => K (pc + len) ls (.inl (.int x) :: .inr q :: .inl (.int x) :: .inr q :: r) M
      | _ => none
    | .pop => match st with
      | .inl (.int _) :: r => K (pc + len) ls r M
      | .inr _ :: r => K (pc + len) ls r M
      | _ => none
    | .goto _ => K a ls st M
    | .ifCond c _ => match st with
      | .inl (.int x) :: r => match c with
        | .eq => if x = 0 then K a ls r M else K (pc + len) ls r M
        | .ne => if x = 0 then K (pc + len) ls r M else K a ls r M
        | .lt => if x < 0 then K a ls r M else K (pc + len) ls r M
        | .ge => if 0 ≤ x then K a ls r M else K (pc + len) ls r M
        | .gt => if 0 < x then K a ls r M else K (pc + len) ls r M
        | .le => if x ≤ 0 then K a ls r M else K (pc + len) ls r M
      | _ => none
    | .if_icmp c _ => match st with
      | .inl (.int y) :: .inl (.int x) :: r => match c with
        | .eq => if x = y then K a ls r M else K (pc + len) ls r M
        | .ne => if x = y then K (pc + len) ls r M else K a ls r M
        | .lt => if x < y then K a ls r M else K (pc + len) ls r M
        | .ge => if y ≤ x then K a ls r M else K (pc + len) ls r M
        | .gt => if y < x then K a ls r M else K (pc + len) ls r M
        | .le => if x ≤ y then K a ls r M else K (pc + len) ls r M
      | _ => none
    | .ifnull _ => match st with
      | .inr _ :: r => K (pc + len) ls r M
      | .inl .null :: r => K a ls r M
      | _ => none
    | .ifnonnull _ => match st with
      | .inr _ :: r => K a ls r M
      | .inl .null :: r => K (pc + len) ls r M
      | _ => none
    | .tableswitch d lo _ os => match st with
      | .inl (.int x) :: r => am_sw (fun t => K t ls r M) (((pc : Int) + d).toNat) x ((List.range os.size).map (fun (j : Nat) => (Int32.ofInt (lo + (j : Int)), ((pc : Int) + os.getD j 0).toNat)))
      | _ => none
    | .lookupswitch d ps => match st with
      | .inl (.int x) :: r => am_sw (fun t => K t ls r M) (((pc : Int) + d).toNat) x (ps.toList.map (fun q => (Int32.ofInt q.1, ((pc : Int) + q.2).toNat)))
      | _ => none
    | .getfield _ => match st with
      | .inr (k, j) :: r => cond (Nat.beq k b) (match am_ft b a with
        | some k' => K (pc + len) ls (.inr (k', j) :: r) M
        | none => cond (am_fz b a) (K (pc + len) ls (.inl (.int (am_b (M k j a))) :: r) M) (K (pc + len) ls (.inl (.int (M k j a)) :: r) M)) none
      | _ => none
    | .putfield _ => match st with
      | .inl (.int x) :: .inr (k, j) :: r => cond (Nat.beq k b) (match am_ft b a with
        | some _ => none
        | none => cond (am_fz b a) (if am_b x = x then K (pc + len) ls r (am_put M k j a x) else none) (K (pc + len) ls r (am_put M k j a x))) none
      | _ => none
    | .getstatic _ => K (pc + len) ls (.inr (a, 0) :: st) M
    | .arraylength => match st with
      | .inr (k, _) :: r => cond (Nat.beq k 29 && Nat.beq rt 5) (K (pc + len) ls (.inl (.int (Int32.ofNat X.1)) :: r) M) (match am_ar k with
        | some (_, n) => K (pc + len) ls (.inl (.int (Int32.ofNat n)) :: r) M
        | none => none)
      | _ => none
    | .iaload => match st with
      | .inl (.int x) :: .inr (k, j) :: r => cond (Nat.beq k 27 || Nat.beq k 28) (if am_in x 16 then K (pc + len) ls (.inl (.int (am_st k x.toNatClampNeg)) :: r) M else none)
        (cond (Nat.beq k 29 && Nat.beq rt 5) (if am_in x X.1 then K (pc + len) ls (.inl (.int (X.2 x.toNatClampNeg)) :: r) M else none) (match am_ar k with
        | some (0, n) => if am_in x n then K (pc + len) ls (.inl (.int (M k j x.toNatClampNeg)) :: r) M else none
        | _ => none))
      | _ => none
    | .iastore => match st with
      | .inl (.int y) :: .inl (.int x) :: .inr (k, j) :: r => match am_ar k with
        | some (0, n) => if am_in x n then K (pc + len) ls r (am_put M k j x.toNatClampNeg y) else none
        | _ => none
      | _ => none
    | .baload => match st with
      | .inl (.int x) :: .inr (k, j) :: r => match am_ar k with
        | some (1, n) => if am_in x n then K (pc + len) ls (.inl (.int (am_b (M k j x.toNatClampNeg))) :: r) M else none
        | _ => none
      | _ => none
    | .bastore => match st with
      | .inl (.int y) :: .inl (.int x) :: .inr (k, j) :: r => match am_ar k with
        | some (1, n) => if am_in x n ∧ am_b y = y then K (pc + len) ls r (am_put M k j x.toNatClampNeg y) else none
        | _ => none
      | _ => none
    | .laload => match st with
      | .inl (.int x) :: .inr (k, j) :: r => match am_ar k with
        | some (2, n) => if am_in x n then K (pc + len) ls (.inl (.long (am_jn (M k j (2 * x.toNatClampNeg)) (M k j (2 * x.toNatClampNeg + 1)))) :: r) M else none
        | _ => none
      | _ => none
    | .lastore => match st with
      | .inl (.long y) :: .inl (.int x) :: .inr (k, j) :: r => match am_ar k with
        | some (2, n) => if am_in x n then K (pc + len) ls r (am_put (am_put M k j (2 * x.toNatClampNeg) (am_hi y)) k j (2 * x.toNatClampNeg + 1) (am_lo y)) else none
        | _ => none
      | _ => none
    | .aaload => match st with
      | .inl (.int x) :: .inr (k, _) :: r => match am_ar k with
        | some (e + 3, n) => if am_in x n then K (pc + len) ls (.inr (e, x.toNatClampNeg) :: r) M else none
        | _ => none
      | _ => none
    | .invokestatic _ => cond (Nat.beq (st.take b).length b && Nat.ble (am_wt (st.drop b)) 8) (am_ret hs pc (st.drop b) (K (pc + len) ls) (am_call cs a (st.take b).reverse M)) none
    | .invokevirtual _ => match z, (st.take b).reverse with
      | .ref c, .inr (k, j) :: as => cond (Nat.beq k c && Nat.beq (st.take b).length b && Nat.ble (am_wt (st.drop b)) 8) (am_ret hs pc (st.drop b) (K (pc + len) ls) (am_call cs a (.inr (k, j) :: as) M)) none
      | _, _ => none
    | i => (am_fin rt i ls st).map (fun o => (o, M))
def am_run (cs : List am_F) (hs : List (Nat × Nat × String × Value)) (rt : Nat) (X : Nat × (Nat → Int32)) (P : am_P) : Nat → Nat → List am_V → List am_V → am_M → am_R
  | 0 => fun _ _ _ _ => none
  | n + 1 => am_step cs hs rt X P (am_run cs hs rt X P n)
def am_lay : List am_V → List am_V
  | [] => []
  | .inl (.long x) :: l => .inl (.long x) :: am_D :: am_lay l
  | v :: l => v :: am_lay l
def am_ent (n : Nat) (av : List am_V) : List am_V := am_lay av ++ List.replicate (n - (am_lay av).length) am_D
def am_X0 : Nat × (Nat → Int32) := (0, fun _ => 0)
/-- a method of the program: its callees, handlers, the code of its answer's type, its locals, its rows -/
def am_meth (cs : List am_F) (hs : List (Nat × Nat × String × Value)) (rt nL N : Nat) (P : am_P) : am_F := fun av M => cond (Nat.ble (am_lay av).length nL) (am_run cs hs rt am_X0 P N 0 (am_ent nL av) [] M) none
end
section
/-! ===== the small machine's memory as a world of cells ===== -/
def am_co (ad : Nat → Nat → Nat) : am_V → Value
  | .inl v => v
  | .inr q => .ref (ad q.1 q.2)
/-- a reference is to a cell that is there (27, 28: the two rows of constants, 29: the script) -/
def am_ok : am_V → Prop
  | .inl (.double _) => False
  | .inl _ => True
  | .inr q => q.2 < am_ct q.1 ∨ ((q.1 = 27 ∨ q.1 = 28 ∨ q.1 = 29) ∧ q.2 = 0)
def am_fv (ad : Nat → Nat → Nat) (k i : Nat) (f : Nat → Int32) (j : Nat) : Value := match am_ft k j with
  | some k' => .ref (ad k' i)
  | none => .int (cond (am_fz k j) (am_b (f j)) (f j))
def am_en (ad : Nat → Nat → Nat) (cy : Nat → ClassId) (k i : Nat) (f : Nat → Int32) : va_E := match am_ar k with
  | none => .inr (k, (List.range (am_nf k)).map (am_fv ad k i f))
  | some (0, n) => .inl (cy 0, n, .inl f)
  | some (1, n) => .inl (cy 1, n, .inl (fun j => am_b (f j)))
  | some (2, n) => .inl (cy 2, n, .inr (.inl (fun j => am_jn (f (2 * j)) (f (2 * j + 1)))))
  | some (e + 3, n) => .inl (cy (e + 3), n, .inr (.inr (.inr (.inr (fun j => some (ad e j))))))
def am_KI : List (Nat × Nat) := (List.range 81).flatMap (fun k => (List.range (am_ct k)).map (fun i => (k, i)))
def am_W (ad : Nat → Nat → Nat) (cy : Nat → ClassId) (M : am_M) : va_W := am_KI.map (fun q => (ad q.1 q.2, am_en ad cy q.1 q.2 (M q.1 q.2)))
def am_A (ad : Nat → Nat → Nat) : Nat → Prop := fun q => ∃ k i, i < am_ct k ∧ q = ad k i
def am_up (M : am_M) (k i : Nat) (f : Nat → Int32) : am_M := fun k' i' => if k' = k ∧ i' = i then f else M k' i'
theorem am_ct_lt {k i : Nat} (h : i < am_ct k) : k < 81 := by
  rcases Nat.lt_or_ge k 81 with q | q
  · exact q
  · exfalso
    have h0 : am_ct k = 0 := by
      unfold am_ct
      rw [List.getD_eq_getElem?_getD, List.getElem?_eq_none (by show 81 ≤ k; exact q)]
      rfl
    omega
theorem am_mem {k i : Nat} (h : i < am_ct k) : (k, i) ∈ am_KI :=
  List.mem_flatMap.mpr ⟨k, List.mem_range.mpr (am_ct_lt h), List.mem_map.mpr ⟨i, List.mem_range.mpr h, rfl⟩⟩
theorem am_mem_of {q : Nat × Nat} (h : q ∈ am_KI) : q.2 < am_ct q.1 := by
  obtain ⟨k, -, h2⟩ := List.mem_flatMap.mp h
  obtain ⟨i, h3, rfl⟩ := List.mem_map.mp h2
  exact List.mem_range.mp h3
theorem am_KI_nd : va_nd (am_KI.map (fun q => q.1 * 1000 + q.2)) = true := by decide +kernel
theorem am_KI_small : ∀ q ∈ am_KI, q.2 < 1000 := by decide +kernel
theorem am_KI_inj {i j : Nat} {q : Nat × Nat} (h1 : am_KI[i]? = some q) (h2 : am_KI[j]? = some q) : i = j :=
  va_nd_inj _ am_KI_nd i j (q.1 * 1000 + q.2) (by rw [List.getElem?_map, h1]; rfl) (by rw [List.getElem?_map, h2]; rfl)
theorem am_wget {ad : Nat → Nat → Nat} {cy : Nat → ClassId} (M : am_M) {k i : Nat} (h : i < am_ct k) :
    ∃ q0, (am_W ad cy M)[q0]? = some (ad k i, am_en ad cy k i (M k i)) ∧ ∀ f, (am_W ad cy M).set q0 (ad k i, am_en ad cy k i f) = am_W ad cy (am_up M k i f) := by
  obtain ⟨q0, hq⟩ := List.getElem?_of_mem (am_mem h)
  refine ⟨q0, by unfold am_W; rw [List.getElem?_map, hq]; rfl, fun f => ?_⟩
  apply List.ext_getElem?
  intro j
  by_cases hj : j = q0
  · subst hj
    have hl : j < (am_W ad cy M).length := by
      unfold am_W
      rw [List.length_map]
      exact (List.getElem?_eq_some_iff.mp hq).1
    rw [List.getElem?_set_self hl]
    unfold am_W
    rw [List.getElem?_map, hq]
    simp [am_up]
  · rw [List.getElem?_set_ne (Ne.symm hj)]
    unfold am_W
    rw [List.getElem?_map, List.getElem?_map]
    cases hz : am_KI[j]? with
    | none => rfl
    | some z =>
      have hne : ¬ (z.1 = k ∧ z.2 = i) := fun e => hj (am_KI_inj hz (by rw [hq, ← e.1, ← e.2]))
      simp [am_up, hne]
theorem am_put_up (M : am_M) (k i f : Nat) (v : Int32) : am_put M k i f v = am_up M k i (upd (M k i) f v) := by
  funext k' i' f'
  unfold am_put am_up upd
  by_cases h : k' = k ∧ i' = i
  · obtain ⟨rfl, rfl⟩ := h
    by_cases hf : f' = f <;> simp [hf]
  · rw [if_neg h, if_neg (fun q => h ⟨q.1, q.2.1⟩)]
theorem am_W_at {ad : Nat → Nat → Nat} {cy : Nat → ClassId} {M : am_M} {q : Nat} {x : Nat × va_E} (h : (am_W ad cy M)[q]? = some x) : ∃ z, am_KI[q]? = some z ∧ x.1 = ad z.1 z.2 := by
  unfold am_W at h
  rw [List.getElem?_map] at h
  cases hz : am_KI[q]? with
  | none => rw [hz] at h; cases h
  | some z => rw [hz] at h; cases h; exact ⟨z, rfl, rfl⟩
theorem am_D_of {ad : Nat → Nat → Nat} {cy : Nat → ClassId} {A B : Nat → Prop} {M : am_M} (h : va_D A (am_W ad cy M)) (hB : ∀ k i, i < am_ct k → A (ad k i) → B (ad k i)) (M' : am_M) : va_D B (am_W ad cy M') := by
  have key : ∀ {q : Nat} {x : Nat × va_E}, (am_W ad cy M')[q]? = some x → ∃ y, (am_W ad cy M)[q]? = some y ∧ y.1 = x.1 := by
    intro q x hx
    obtain ⟨z, hz, e⟩ := am_W_at hx
    refine ⟨(ad z.1 z.2, am_en ad cy z.1 z.2 (M z.1 z.2)), by unfold am_W; rw [List.getElem?_map, hz]; rfl, e.symm⟩
  refine ⟨fun i j p q hp hq hpq => ?_, fun k q hq => ?_⟩
  · obtain ⟨y1, h1, e1⟩ := key hp
    obtain ⟨y2, h2, e2⟩ := key hq
    exact h.1 i j y1 y2 h1 h2 (e1.trans (hpq.trans e2.symm))
  · obtain ⟨z, hz, e⟩ := am_W_at hq
    obtain ⟨y, hy, e2⟩ := key hq
    rw [e]
    exact hB z.1 z.2 (am_mem_of (List.mem_of_getElem? hz)) (by rw [← e, ← e2]; exact h.2 k y hy)
theorem am_b_b (x : Int32) : am_b (am_b x) = am_b x := by
  unfold am_b
  by_cases h : x = 0
  · simp [h]
  · simp [h]
theorem am_b01 {x : Int32} (h : am_b x = x) : x = 0 ∨ x = 1 := by
  unfold am_b at h
  by_cases q : x = 0
  · exact Or.inl q
  · rw [if_neg q] at h; exact Or.inr h.symm
theorem am_jn_eq (x : Int64) : am_jn (am_hi x) (am_lo x) = x := by
  have hx : x.toBitVec.toNat < 18446744073709551616 := x.toBitVec.isLt
  have h1 : (am_hi x).toBitVec.toNat = x.toBitVec.toNat / 4294967296 := by
    unfold am_hi
    show (x.toBitVec.toNat / 4294967296) % 4294967296 = _
    omega
  have h2 : (am_lo x).toBitVec.toNat = x.toBitVec.toNat % 4294967296 := by
    unfold am_lo
    show (x.toBitVec.toNat % 4294967296) % 4294967296 = _
    omega
  unfold am_jn
  rw [h1, h2, show x.toBitVec.toNat / 4294967296 * 4294967296 + x.toBitVec.toNat % 4294967296 = x.toBitVec.toNat by omega]
  apply Int64.toBitVec_inj.mp
  apply BitVec.eq_of_toNat_eq
  show x.toBitVec.toNat % 18446744073709551616 = _
  omega
/-! the locals -/
def am_lv (ad : Nat → Nat → Nat) : Nat → List am_V → List (Nat × Value)
  | _, [] => []
  | n, v :: l => cond (am_isD v) (am_lv ad (n + 1) l) ((n, am_co ad v) :: am_lv ad (n + 1) l)
theorem am_lv_mem {ad : Nat → Nat → Nat} {q : Nat × Value} : ∀ {n : Nat} {ls : List am_V}, q ∈ am_lv ad n ls ↔ ∃ j v, ls[j]? = some v ∧ am_isD v = false ∧ q = (n + j, am_co ad v)
  | n, [] => by simp [am_lv]
  | n, v :: l => by
    have ih := @am_lv_mem ad q (n + 1) l
    constructor
    · intro h
      unfold am_lv at h
      cases hd : am_isD v with
      | true =>
        rw [hd] at h
        obtain ⟨j, w, h1, h2, h3⟩ := ih.mp h
        exact ⟨j + 1, w, by simpa using h1, h2, by rw [h3]; simp; omega⟩
      | false =>
        rw [hd] at h
        rcases List.mem_cons.mp h with h | h
        · exact ⟨0, v, rfl, hd, by rw [h]; rfl⟩
        · obtain ⟨j, w, h1, h2, h3⟩ := ih.mp h
          exact ⟨j + 1, w, by simpa using h1, h2, by rw [h3]; simp; omega⟩
    · rintro ⟨j, w, h1, h2, h3⟩
      unfold am_lv
      cases j with
      | zero =>
        simp at h1
        subst h1
        rw [h2]
        exact List.mem_cons.mpr (Or.inl (by rw [h3]; rfl))
      | succ j =>
        have hm : q ∈ am_lv ad (n + 1) l := ih.mpr ⟨j, w, by simpa using h1, h2, by rw [h3]; simp; omega⟩
        cases am_isD v with
        | true => exact hm
        | false => exact List.mem_cons.mpr (Or.inr hm)
theorem am_lv_at {ad : Nat → Nat → Nat} {lsA : Array Slot} {nL : Nat} {ls : List am_V} (h : lv_has lsA nL (am_lv ad 0 ls)) {j : Nat} {v : am_V} (hv : ls[j]? = some v) (hd : am_isD v = false) : lsA[j]? = some (.val (am_co ad v)) :=
  h.2.2 (j, am_co ad v) (am_lv_mem.mpr ⟨j, v, hv, hd, by simp⟩)
theorem am_isD_co {ad : Nat → Nat → Nat} {v : am_V} (h : am_isD v = false) (h2 : (am_co ad v).category = 2) : (∃ x, v = .inl (.long x)) ∨ ∃ x, v = .inl (.double x) := by
  cases v with
  | inl w => cases w <;> first | exact Or.inl ⟨_, rfl⟩ | exact Or.inr ⟨_, rfl⟩ | (simp [am_co, Value.category] at h2)
  | inr q => simp [am_co, Value.category] at h2
theorem am_kill_at {ls : List am_V} {i j : Nat} {v : am_V} (h : (am_kill ls i)[j]? = some v) (hd : am_isD v = false) : ls[j]? = some v ∧ ¬ (j + 1 = i ∧ ∃ x, v = .inl (.long x)) := by
  unfold am_kill at h
  cases i with
  | zero => exact ⟨h, fun q => by omega⟩
  | succ i =>
    simp only at h
    split at h
    · rename_i x hx
      by_cases hj : j = i
      · subst hj
        rw [List.getElem?_set_self (List.getElem?_eq_some_iff.mp hx).1] at h
        cases h
        cases hd
      · rw [List.getElem?_set_ne (Ne.symm hj)] at h
        exact ⟨h, fun q => hj (by omega)⟩
    · rename_i hx
      refine ⟨h, fun q => ?_⟩
      obtain ⟨e1, x, rfl⟩ := q
      have : j = i := by omega
      subst this
      exact hx x h
def am_nod : List am_V → Prop := fun ls => ∀ (j : Nat) (x : UInt64), ls[j]? ≠ some (.inl (.double x))
theorem am_lv_set1 {ad : Nat → Nat → Nat} {lsA : Array Slot} {nL : Nat} {ls : List am_V} {i : Nat} {v : am_V} (hn : am_nod ls) (h : lv_has lsA nL ((i, am_co ad v) :: (am_lv ad 0 ls).filter (fun q => !(q.1 == i) && !(q.1 + 1 == i && q.2.category == 2)))) : lv_has lsA nL (am_lv ad 0 (am_set1 ls i v)) := by
  refine ⟨h.1, h.2.1, fun q hq => h.2.2 q ?_⟩
  obtain ⟨j, w, h1, h2, rfl⟩ := am_lv_mem.mp hq
  unfold am_set1 at h1
  by_cases hj : j = i
  · subst hj
    by_cases hl : j < (am_kill ls j).length
    · rw [List.getElem?_set_self hl] at h1
      cases h1
      exact List.mem_cons.mpr (Or.inl (by simp))
    · rw [List.getElem?_eq_none (by simpa using hl)] at h1
      cases h1
  · rw [List.getElem?_set_ne (Ne.symm hj)] at h1
    obtain ⟨h3, h4⟩ := am_kill_at h1 h2
    refine List.mem_cons.mpr (Or.inr (List.mem_filter.mpr ⟨am_lv_mem.mpr ⟨j, w, h3, h2, rfl⟩, ?_⟩))
    have h5 : ¬ (j + 1 = i ∧ (am_co ad w).category = 2) := fun e => by
      rcases am_isD_co h2 e.2 with ⟨x, hx⟩ | ⟨x, hx⟩
      · exact h4 ⟨e.1, x, hx⟩
      · exact hn j x (by rw [h3, hx])
    simp only [Bool.and_eq_true, Bool.not_eq_true', beq_eq_false_iff_ne, ne_eq, Bool.and_eq_false_iff, Nat.zero_add]
    refine ⟨hj, ?_⟩
    by_cases hz : j + 1 = i
    · exact Or.inr (fun e => h5 ⟨hz, e⟩)
    · exact Or.inl hz
theorem am_lv_set2 {ad : Nat → Nat → Nat} {lsA : Array Slot} {nL : Nat} {ls : List am_V} {i : Nat} {v : am_V} (hn : am_nod ls) (h : lv_has lsA nL ((i, am_co ad v) :: (am_lv ad 0 ls).filter (fun q => !(q.1 == i) && (!(q.1 == i + 1) && !(q.1 + 1 == i && q.2.category == 2))))) : lv_has lsA nL (am_lv ad 0 (am_set2 ls i v)) := by
  refine ⟨h.1, h.2.1, fun q hq => h.2.2 q ?_⟩
  obtain ⟨j, w, h1, h2, rfl⟩ := am_lv_mem.mp hq
  unfold am_set2 at h1
  have hj1 : ¬ j = i + 1 := fun e => by
    subst e
    by_cases hl : i + 1 < ((am_kill ls i).set i v).length
    · rw [List.getElem?_set_self hl] at h1
      cases h1
      cases h2
    · rw [List.getElem?_eq_none (by simpa using hl)] at h1
      cases h1
  rw [List.getElem?_set_ne (Ne.symm hj1)] at h1
  by_cases hj : j = i
  · subst hj
    by_cases hl : j < (am_kill ls j).length
    · rw [List.getElem?_set_self hl] at h1
      cases h1
      exact List.mem_cons.mpr (Or.inl (by simp))
    · rw [List.getElem?_eq_none (by simpa using hl)] at h1
      cases h1
  · rw [List.getElem?_set_ne (Ne.symm hj)] at h1
    obtain ⟨h3, h4⟩ := am_kill_at h1 h2
    refine List.mem_cons.mpr (Or.inr (List.mem_filter.mpr ⟨am_lv_mem.mpr ⟨j, w, h3, h2, rfl⟩, ?_⟩))
    have h5 : ¬ (j + 1 = i ∧ (am_co ad w).category = 2) := fun e => by
      rcases am_isD_co h2 e.2 with ⟨x, hx⟩ | ⟨x, hx⟩
      · exact h4 ⟨e.1, x, hx⟩
      · exact hn j x (by rw [h3, hx])
    simp only [Bool.and_eq_true, Bool.not_eq_true', beq_eq_false_iff_ne, ne_eq, Bool.and_eq_false_iff, Nat.zero_add]
    refine ⟨hj, hj1, ?_⟩
    by_cases hz : j + 1 = i
    · exact Or.inr (fun e => h5 ⟨hz, e⟩)
    · exact Or.inl hz
end
section
/-! ===== the small machine is the machine: states, contracts, one step ===== -/
def am_U : List Cond := lw_tbl.filter goodWord
theorem am_U_good {big : List Cond} (h : ∀ w ∈ am_U, w ∈ big) : GoodIn big am_U := fun w hw => ⟨h w hw, good_of_word (List.mem_filter.mp hw).2⟩
def am_ty (cy : Nat → ClassId) : List (ClassId × FieldType) := [(cy 0, .int), (cy 1, .boolean), (cy 2, .long), (cy 4, .object RX1), (cy 7, .object RX4), (cy 8, .object RX5), (cy 9, .object RX6), (cy 11, .object RX8)]
/-- the class's rows of constants, and what a throw reads -/
def am_Ro (ad : Nat → Nat → Nat) (U : State) (H : Heap) : Prop :=
  va_Z RX6 "LEAST" "[I" (.ref (ad 27 0)) (am_A ad) U H ∧ va_T .int (ad 27 0) 16 (fun j => .int (am_st 27 j)) (am_A ad) U H ∧
  va_Z RX6 "MOST" "[I" (.ref (ad 28 0)) (am_A ad) U H ∧ va_T .int (ad 28 0) 16 (fun j => .int (am_st 28 j)) (am_A ad) U H ∧
  vx_Zq Bundle.tN "UNASSIGNED_STACK" Bundle.steD (am_A ad) U H ∧ vx_Zq Bundle.tN "SUPPRESSED_SENTINEL" Bundle.listD (am_A ad) U H
theorem am_Ro.moved {ad : Nat → Nat → Nat} {u U : State} {H : Heap} (hvm : u.vm.Alike U.vm) (h : am_Ro ad u H) : am_Ro ad U H :=
  ⟨va_Z.moved hvm h.1, va_T.moved hvm h.2.1, va_Z.moved hvm h.2.2.1, va_T.moved hvm h.2.2.2.1, vx_Zq.moved hvm h.2.2.2.2.1, vx_Zq.moved hvm h.2.2.2.2.2⟩
theorem am_Ro.kept {ad : Nat → Nat → Nat} {U : State} {H H1 : Heap} (h : am_Ro ad U H) (hq : ∀ a : Nat, a < H.size → ¬ am_A ad a → H1[a]? = H[a]?) : am_Ro ad U H1 :=
  ⟨va_Z.kept h.1 hq, va_T.kept h.2.1 hq, va_Z.kept h.2.2.1 hq, va_T.kept h.2.2.2.1 hq, vx_Zq.kept h.2.2.2.2.1 hq, vx_Zq.kept h.2.2.2.2.2 hq⟩
/-- calls of a nest mate's private static methods -/
def am_nl : List (String × Nat × MethodName × String) := [(RX0, 22, yX9_isWithin, RX9), (RX0, 32, yX9_rounded, RX9), (RX2, 17, yX9_isWithin, RX9), (RX6, 33, yX9_isWithin, RX9), (RX6, 83, yX9_rounded, RX9), (RX7, 46, yX9_isWithin, RX9)]
def am_isx (w : Cond) : Bool := match w with
  | .castable _ _ => true
  | .declares _ => true
  | _ => false
def am_xw : List Cond := lw_tbl.filter am_isx
def am_ex : List String := ["java/lang/IllegalArgumentException", "java/lang/IllegalStateException", "java/util/NoSuchElementException", "java/lang/IndexOutOfBoundsException"]
def am_Nk (U : State) : Prop := (∀ q ∈ am_nl, va_Nw (.methodLinkNest q.1 q.2.1 q.2.2.1 q.2.2.2) U) ∧ (∀ w ∈ am_xw, va_Nw w U) ∧ ∀ E ∈ am_ex, ∀ F ∈ am_ex, E ≠ F → va_Nc E F U
theorem am_xw_warm {w : Cond} (hx : am_isx w = true) {s U : State} (hW : s.WarmedH U.vm) (h : va_Nw w s) : va_Nw w U := by
  cases w with
  | castable a b => exact va_Nw.warmC hW h
  | declares x => exact va_Nw.warmD hW h
  | _ => cases hx
theorem am_Nc_moved {E F : String} {u U : State} (hvm : u.vm.Alike U.vm) (h : va_Nc E F u) : va_Nc E F U := by
  obtain ⟨c, t, h1, h2, h3⟩ := h
  exact ⟨c, t, by rw [hvm.findClass]; exact h1, by rw [hvm.findClass]; exact h2, by rw [hvm.assignable]; exact h3⟩
theorem am_Nk.warm {s U : State} (hW : s.WarmedH U.vm) (h : am_Nk s) : am_Nk U := ⟨fun q hq => va_Nw.warmM hW (h.1 q hq), fun w hw => am_xw_warm (List.mem_filter.mp hw).2 hW (h.2.1 w hw), fun E hE F hF hne => am_Nc_moved hW.alike (h.2.2 E hE F hF hne)⟩
theorem am_Nk.same {s U : State} (hv : s.vm = U.vm) (h : am_Nk s) : am_Nk U := am_Nk.warm (by rw [← hv]; exact State.WarmedH.refl s) h
def am_St (dC : Nat → ClassId) (dI : Nat → Nat → Nat) (ad : Nat → Nat → Nat) (cy : Nat → ClassId) (M : am_M) (U : State) : Prop :=
  va_P (dC, dI) vwCl (am_W ad cy M) U.heap ∧ va_K (dC, dI) vwCl (am_ty cy) U ∧ va_D (am_A ad) (am_W ad cy M) ∧ am_Ro ad U U.heap ∧ am_Nk U
theorem am_St_blind {dC : Nat → ClassId} {dI : Nat → Nat → Nat} {ad : Nat → Nat → Nat} {cy : Nat → ClassId} {M : am_M} {av : List Value} : FrameBlind (va_Pc av (am_St dC dI ad cy M)) := by
  rintro a U g mk ⟨h1, h2, h3, h4, h5, h6⟩
  exact ⟨h1, h2, va_K.moved (u := U) (U := U.calling g mk a) (Vm.Alike.refl U.vm) h3, h4, am_Ro.moved (u := U) (U := U.calling g mk a) (Vm.Alike.refl U.vm) h5, am_Nk.same (s := U) (U := U.calling g mk a) rfl h6⟩
/-- a method's end: it has returned r, the cells hold M -/
def am_Q (dC : Nat → ClassId) (dI : Nat → Nat → Nat) (ad : Nat → Nat → Nat) (cy : Nat → ClassId) (r : Option am_V) (M : am_M) : Array Value → State → Outcome → State → Prop := fun _ st o t =>
  o = .returned (r.map (am_co ad)) ∧ va_P (dC, dI) vwCl (am_W ad cy M) t.heap ∧ va_F (am_A ad) st t
/-- the contract of a method whose meaning is F -/
def am_Ok (l : Launch) (dC : Nat → ClassId) (dI : Nat → Nat → Nat) (ad : Nat → Nat → Nat) (cy : Nat → ClassId) (y : MethodName) (w : Cond) (rm : Room) (F : am_F) : Prop :=
  ∀ (av : List am_V) (M M' : am_M) (r : Option am_V), (∀ v ∈ av, am_ok v) → F av M = some (.inl r, M') →
    Met l y (w :: am_U) rm (va_Pc (av.map (am_co ad)) (am_St dC dI ad cy M)) (am_Q dC dI ad cy r M') rm.cells rm.slots (am_A ad)
theorem am_okv_ok {r : Option am_V} (h : am_okv r = true) : ∀ v, r = some v → am_ok v := by
  intro v hv
  subst hv
  cases v with
  | inl w => cases w <;> first | exact trivial | (cases h)
  | inr q => obtain ⟨k, j⟩ := q; exact Or.inl (Nat.blt_eq.mp h)
/-! tables -/
def am_T (c : Nat) : u_T := (vwCl.getD c (RX0, TX0, 0)).2.1
def am_N (c : Nat) : String := (vwCl.getD c (RX0, TX0, 0)).1
theorem am_cl_at : ∀ c, c < 11 → vwCl[c]? = some (am_N c, am_T c, am_nf c) := by
  intro c hc
  match c, hc with
  | 0, _ => rfl
  | 1, _ => rfl
  | 2, _ => rfl
  | 3, _ => rfl
  | 4, _ => rfl
  | 5, _ => rfl
  | 6, _ => rfl
  | 7, _ => rfl
  | 8, _ => rfl
  | 9, _ => rfl
  | 10, _ => rfl
theorem am_cl_nm : ∀ c, c < 11 → ∀ a, a < am_nf c → ∀ b, b < am_nf c → a ≠ b → (am_T c a).2.1 ≠ (am_T c b).2.1 := by decide +kernel
theorem am_cl_ty : ∀ c, c < 11 → ∀ f, f < am_nf c → (parseFieldDescriptor (am_T c f).2.2.1).isSome = true := by decide +kernel
theorem am_cl_num : ∀ c, c < 11 → ∀ f, f < am_nf c → am_ft c f = none → (am_T c f).2.2.2 = false ∧ parseFieldDescriptor (am_T c f).2.2.1 = some (cond (am_fz c f) .boolean .int) := by decide +kernel
theorem am_cl_ar : ∀ c, c < 11 → am_ar c = none := by decide +kernel
theorem am_ft_ct : ∀ c, c < 11 → ∀ f, f < am_nf c → ∀ k, am_ft c f = some k → am_ct c ≤ am_ct k := by decide +kernel
theorem am_ar_ct : ∀ k, k < 81 → ∀ e n, am_ar k = some (e + 3, n) → n ≤ am_ct e := by
  intro k hk e n h
  match k, hk with
  | k, hk =>
    have key : ∀ k, k < 81 → (match am_ar k with | some (e, n) => decide (e < 3) || decide (n ≤ am_ct (e - 3)) | none => true) = true := by decide +kernel
    have := key k hk
    rw [h] at this
    simp only [Bool.or_eq_true, decide_eq_true_eq, Nat.add_sub_cancel] at this
    rcases this with h | h
    · omega
    · exact h
theorem am_ar_ti : ∀ k, k < 81 → (match am_ar k with | some (e, _) => decide (e = 0 ∨ e = 1 ∨ e = 2 ∨ e = 4 ∨ e = 7 ∨ e = 8 ∨ e = 9 ∨ e = 11) | none => true) = true := by decide +kernel
theorem am_ar_lt {k : Nat} {x : Nat × Nat} (h : am_ar k = some x) : k < 81 := by
  rcases Nat.lt_or_ge k 81 with q | q
  · exact q
  · exfalso
    unfold am_ar at h
    rw [List.getD_eq_getElem?_getD, List.getElem?_eq_none (by show 81 ≤ k; exact q)] at h
    cases h
theorem am_ar_ro : am_ar 27 = none ∧ am_ar 28 = none ∧ am_ar 29 = none := by decide +kernel
theorem am_in_vp {x : Int32} {n : Nat} (h : am_in x n) : vp_in x n := vp_in_iff.mpr h
end
section
/-! ===== a row is right: its length, its numbers; the words that it needs ===== -/
/-- a callee: its name, its code's word, its room, its receiver's class (none: static), how many parameters its descriptor has, its locals -/
abbrev am_C : Type := MethodName × Cond × Room × Option Nat × Nat × Nat
def am_chk (nL pc : Nat) (r : am_Row) : Bool := match r with
  | (i, len, a, b, z) => match i with
    | .iconst v => decide (len = 1 ∧ z = .int (Int32.ofInt v))
    | .bipush v => decide (len = 2 ∧ z = .int (Int8.ofInt v).toInt32)
    | .sipush v => decide (len = 3 ∧ z = .int (Int16.ofInt v).toInt32)
    | .ldc _ => decide (len = 2) && (match z with | .int _ => true | _ => false)
    | .lconst v => decide (len = 1 ∧ z = .long (Int64.ofNat v))
    | .ldc2_w _ => decide (len = 3) && (match z with | .long _ => true | _ => false)
    | .iload_n k => decide (len = 1 ∧ (k : Nat) = a)
    | .lload_n k => decide (len = 1 ∧ (k : Nat) = a)
    | .aload_n k => decide (len = 1 ∧ (k : Nat) = a)
    | .iload k => decide (len = 2 ∧ k = a)
    | .lload k => decide (len = 2 ∧ k = a)
    | .aload k => decide (len = 2 ∧ k = a)
    | .istore_n k => decide (len = 1 ∧ (k : Nat) = a ∧ a < nL)
    | .lstore_n k => decide (len = 1 ∧ (k : Nat) = a ∧ a + 1 < nL)
    | .astore_n k => decide (len = 1 ∧ (k : Nat) = a ∧ a < nL)
    | .istore k => decide (len = 2 ∧ k = a ∧ a < nL)
    | .lstore k => decide (len = 2 ∧ k = a ∧ a + 1 < nL)
    | .astore k => decide (len = 2 ∧ k = a ∧ a < nL)
    | .iinc k v => decide (len = 3 ∧ k = a ∧ a < nL ∧ z = .int (Int32.ofInt v))
    | .goto o => decide (len = 3 ∧ (pc : Int) + o = (a : Int))
    | .ifCond _ o => decide (len = 3 ∧ (pc : Int) + o = (a : Int))
    | .if_icmp _ o => decide (len = 3 ∧ (pc : Int) + o = (a : Int))
    | .ifnull o => decide (len = 3 ∧ (pc : Int) + o = (a : Int))
    | .ifnonnull o => decide (len = 3 ∧ (pc : Int) + o = (a : Int))
    | .tableswitch d lo hi os => decide (0 ≤ (pc : Int) + d ∧ 0 ≤ lo ∧ hi < 1000 ∧ hi + 1 = lo + os.size) && (List.range os.size).all (fun j => decide (0 ≤ (pc : Int) + os.getD j 0))
    | .lookupswitch d ps => decide (0 ≤ (pc : Int) + d) && (ps.toList.zip (ps.toList.drop 1)).all (fun (a, next) => a.1 < next.1) && ps.toList.all (fun q => decide (0 ≤ (pc : Int) + q.2 ∧ 0 ≤ q.1 ∧ q.1 < 1000))
    | .getfield _ => decide (len = 3 ∧ b < 11 ∧ a < am_nf b)
    | .putfield _ => decide (len = 3 ∧ b < 11 ∧ a < am_nf b)
    | .getstatic _ => decide (len = 3 ∧ (a = 27 ∨ a = 28))
    | .invokestatic _ => decide (len = 3)
    | .invokevirtual _ => decide (len = 3) && (match z with | .ref c => decide (c < 11) | _ => false)
    | _ => decide (len = 1)
/-- the words that a row needs -/
def am_need (own : String) (ci : List am_C) (r : am_Row) : List Cond := match r with
  | (i, _, a, b, z) => match i with
    | .ldc k => (match z with | .int v => [.constant own k v] | _ => [])
    | .ldc2_w k => (match z with | .long v => [.constantLong own k v] | _ => [])
    | .getfield k => [.fieldLink own k (am_T b a).1 (am_T b a).2.1 (am_T b a).2.2.1]
    | .putfield k => [.fieldLink own k (am_T b a).1 (am_T b a).2.1 (am_T b a).2.2.1]
    | .getstatic k => [.fieldLink own k RX6 (if a = 27 then "LEAST" else "MOST") "[I"]
    | .invokestatic k => (match ci[a]? with | some (y, _) => [.static y, .initialized y.cls] ++ (if (own, k, y, RX9) ∈ am_nl then [] else [.methodLink own k y]) | none => [])
    | .invokevirtual k => (match ci[a]? with | some (y, _) => [.methodLink own k y, .instanceMethod y, .selects y.cls y y, .initialized y.cls] | none => [])
    | _ => []
section AMS
variable {p : Program} {l : Launch} {e : Env} {R : Room} {s : State} {m : MethodId} {args : Array Value} {below : List Frame} {meth : Method} {c : Code} {Q : State → Prop}
variable {dC : Nat → ClassId} {dI : Nat → Nat → Nat} {ad : Nat → Nat → Nat} {cy : Nat → ClassId} {cc : ByteArray} {own : String} {nL : Nat}
/-- the machine comes to Q from here, whatever the heap is that holds M -/
def am_Wp (p : Program) (l : Launch) (e : Env) (R : Room) (s : State) (m : MethodId) (args : Array Value) (below : List Frame) (meth : Method) (c : Code) (Q : State → Prop) (dC : Nat → ClassId) (dI : Nat → Nat → Nat) (ad : Nat → Nat → Nat) (cy : Nat → ClassId) (nL cells slots pc : Nat) (ls st : List am_V) (M : am_M) : Prop :=
  ∀ (H : Heap) (locs : List Loc) (lsA : Array Slot), lv_has lsA nL (am_lv ad 0 ls) → va_P (dC, dI) vwCl (am_W ad cy M) H → va_S (am_A ad) s.heap H locs → W p l e R s m args below meth c H locs cells slots Q (F0 m pc lsA (st.map (am_co ad)))
/-- what stays the same while a method runs -/
def am_Cx (p : Program) (s : State) (m : MethodId) (args : Array Value) (c : Code) (dC : Nat → ClassId) (dI : Nat → Nat → Nat) (ad : Nat → Nat → Nat) (cy : Nat → ClassId) (cc : ByteArray) (own : String) (nL : Nat) : Prop :=
  p.tables.exec = Jvm.exec ∧ c.code = cc ∧ c.maxLocals = nL ∧ s.vm.findClass own = some m.cls ∧ (∀ w ∈ am_U, w.before args s = true) ∧ va_K (dC, dI) vwCl (am_ty cy) s ∧ (∀ M, va_D (am_A ad) (am_W ad cy M)) ∧ am_Ro ad s s.heap ∧ am_Nk s
theorem am_in_u : ∀ c, c < 11 → ∀ w ∈ u_ws (am_N c) (am_T c) (am_nf c), w ∈ am_U := by
  have key : ∀ c, c < 11 → (u_ws (am_N c) (am_T c) (am_nf c)).all (fun w => decide (w ∈ lw_tbl) && goodWord w) = true := by decide +kernel
  intro c hc w hw
  have h := List.all_eq_true.mp (key c hc) w hw
  simp only [Bool.and_eq_true, decide_eq_true_eq] at h
  exact List.mem_filter.mpr ⟨h.1, h.2⟩
/-- an object's cell in the world -/
theorem am_obj {M : am_M} {k i : Nat} (hk : k < 11) (h : i < am_ct k) : ∃ q0, (am_W ad cy M)[q0]? = some (ad k i, .inr (k, (List.range (am_nf k)).map (am_fv ad k i (M k i)))) ∧ ∀ f, (am_W ad cy M).set q0 (ad k i, am_en ad cy k i f) = am_W ad cy (am_up M k i f) := by
  obtain ⟨q0, h1, h2⟩ := am_wget (ad := ad) (cy := cy) M h
  refine ⟨q0, ?_, h2⟩
  rw [h1]
  unfold am_en
  rw [am_cl_ar k hk]
theorem am_s_get (C : am_Cx p s m args c dC dI ad cy cc own nL) {cells slots pc idx a b j : Nat} {ls r : List am_V} {M : am_M} (hb : b < 11) (ha : a < am_nf b) (hj : j < am_ct b) (hw : Cond.fieldLink own idx (am_T b a).1 (am_T b a).2.1 (am_T b a).2.2.1 ∈ am_U) (hd : decode cc pc = .ok (.getfield idx, 3)) {v : am_V}
    (hv : am_co ad v = am_fv ad b j (M b j) a)
    (k : am_Wp p l e R s m args below meth c Q dC dI ad cy nL cells slots (pc + 3) ls (v :: r) M) : am_Wp p l e R s m args below meth c Q dC dI ad cy nL cells slots pc ls (.inr (b, j) :: r) M := by
  intro H locs lsA hl hP hS
  obtain ⟨hx, hbb, -, hown, hts, hK, -, -, -⟩ := C
  obtain ⟨q0, h1, -⟩ := am_obj (ad := ad) (cy := cy) (M := M) hb hj
  refine va_get hx hbb hts (am_in_u b hb) hown hK hP q0 h1 (am_cl_at b hb) a ha (hts _ hw) (fun x h => h) (v := am_co ad v) ?_ hd (k H locs lsA hl hP hS)
  rw [List.getElem?_map, List.getElem?_range ha, hv]
  rfl
theorem am_s_put (C : am_Cx p s m args c dC dI ad cy cc own nL) {cells slots pc idx a b j : Nat} {ls r : List am_V} {M : am_M} {x : Int32} (hb : b < 11) (ha : a < am_nf b) (hj : j < am_ct b) (hw : Cond.fieldLink own idx (am_T b a).1 (am_T b a).2.1 (am_T b a).2.2.1 ∈ am_U) (hd : decode cc pc = .ok (.putfield idx, 3))
    (hf : am_ft b a = none) (hz : am_fz b a = true → am_b x = x)
    (k : am_Wp p l e R s m args below meth c Q dC dI ad cy nL cells slots (pc + 3) ls r (am_put M b j a x)) : am_Wp p l e R s m args below meth c Q dC dI ad cy nL cells slots pc ls (.inl (.int x) :: .inr (b, j) :: r) M := by
  intro H locs lsA hl hP hS
  obtain ⟨hx, hbb, -, hown, hts, hK, hD, -, -⟩ := C
  obtain ⟨q0, h1, h2⟩ := am_obj (ad := ad) (cy := cy) (M := M) hb hj
  obtain ⟨hfin, hty⟩ := am_cl_num b hb a ha hf
  have hn : narrow (cond (am_fz b a) .boolean .int) (.int x) = .int x ∧ fits (cond (am_fz b a) .boolean .int) (.int x) = true := by
    cases hq : am_fz b a with
    | false => exact ⟨rfl, rfl⟩
    | true => rcases am_b01 (hz hq) with rfl | rfl <;> exact ⟨rfl, rfl⟩
  refine va_put hx hbb hts (am_in_u b hb) (fun f => (parseFieldDescriptor (am_T b f).2.2.1).getD .int) (fun f hf => by
      have := am_cl_ty b hb f hf
      cases hq : parseFieldDescriptor (am_T b f).2.2.1 with
      | none => rw [hq] at this; cases this
      | some t => rfl) (am_cl_nm b hb) hown hK hP (hD M) hS q0 h1 (am_cl_at b hb) a ha (hts _ hw) (fun x h => h) hfin hty hn.1 hn.2 (by simpa using ha) hd ?_
  intro H1 locs1 hP1 hD1 hS1
  refine k H1 locs1 lsA hl ?_ hS1
  have e : (am_W ad cy M).set q0 (ad b j, .inr (b, ((List.range (am_nf b)).map (am_fv ad b j (M b j))).set a (.int x))) = am_W ad cy (am_put M b j a x) := by
    rw [am_put_up, ← h2]
    refine congrArg (fun z => (am_W ad cy M).set q0 (ad b j, z)) ?_
    unfold am_en
    rw [am_cl_ar b hb]
    refine congrArg (fun z => Sum.inr (b, z)) ?_
    apply List.ext_getElem?
    intro f
    by_cases hfa : f = a
    · subst hfa
      rw [List.getElem?_set_self (by simpa using ha), List.getElem?_map, List.getElem?_range ha]
      have e2 : am_fv ad b j (upd (M b j) f x) f = .int x := by
        unfold am_fv
        rw [hf, show upd (M b j) f x f = x from if_pos rfl]
        cases hq : am_fz b f with
        | false => rfl
        | true => show Value.int (am_b x) = _; rw [hz hq]
      rw [Option.map_some, e2]
    · rw [List.getElem?_set_ne (Ne.symm hfa), List.getElem?_map, List.getElem?_map]
      cases hq : (List.range (am_nf b))[f]? with
      | none => rfl
      | some g =>
        have hg : g = f := by
          obtain ⟨h3, h4⟩ := List.getElem?_eq_some_iff.mp hq
          rw [List.getElem_range] at h4
          exact h4.symm
        subst hg
        rw [Option.map_some, Option.map_some]
        refine congrArg some ?_
        unfold am_fv
        rw [show upd (M b j) a x g = M b j g from if_neg hfa]
  rw [← e]
  exact hP1
theorem am_arr {M : am_M} {k i : Nat} (h : i < am_ct k) {x : va_E} (hx : am_en ad cy k i (M k i) = x) : ∃ q0, (am_W ad cy M)[q0]? = some (ad k i, x) ∧ ∀ f, (am_W ad cy M).set q0 (ad k i, am_en ad cy k i f) = am_W ad cy (am_up M k i f) := by
  obtain ⟨q0, h1, h2⟩ := am_wget (ad := ad) (cy := cy) M h
  exact ⟨q0, by rw [h1, hx], h2⟩
theorem am_s_iald (C : am_Cx p s m args c dC dI ad cy cc own nL) {cells slots pc k j n : Nat} {ls r : List am_V} {M : am_M} {x : Int32} (hk : am_ar k = some (0, n)) (hj : j < am_ct k) (hi : am_in x n) (hd : decode cc pc = .ok (.iaload, 1))
    (kk : am_Wp p l e R s m args below meth c Q dC dI ad cy nL cells slots (pc + 1) ls (.inl (.int (M k j x.toNatClampNeg)) :: r) M) : am_Wp p l e R s m args below meth c Q dC dI ad cy nL cells slots pc ls (.inl (.int x) :: .inr (k, j) :: r) M := by
  intro H locs lsA hl hP hS
  obtain ⟨hx, hbb, -, hown, hts, hK, -, -, -⟩ := C
  obtain ⟨q0, h1, -⟩ := am_arr (ad := ad) (cy := cy) (M := M) hj (x := .inl (cy 0, n, .inl (M k j))) (by unfold am_en; rw [hk])
  exact va_iald hx hbb hK hP q0 0 h1 rfl (am_in_vp hi) hd (kk H locs lsA hl hP hS)
theorem am_s_baload (C : am_Cx p s m args c dC dI ad cy cc own nL) {cells slots pc k j n : Nat} {ls r : List am_V} {M : am_M} {x : Int32} (hk : am_ar k = some (1, n)) (hj : j < am_ct k) (hi : am_in x n) (hd : decode cc pc = .ok (.baload, 1))
    (kk : am_Wp p l e R s m args below meth c Q dC dI ad cy nL cells slots (pc + 1) ls (.inl (.int (am_b (M k j x.toNatClampNeg))) :: r) M) : am_Wp p l e R s m args below meth c Q dC dI ad cy nL cells slots pc ls (.inl (.int x) :: .inr (k, j) :: r) M := by
  intro H locs lsA hl hP hS
  obtain ⟨hx, hbb, -, hown, hts, hK, -, -, -⟩ := C
  obtain ⟨q0, h1, -⟩ := am_arr (ad := ad) (cy := cy) (M := M) hj (x := .inl (cy 1, n, .inl (fun i => am_b (M k j i)))) (by unfold am_en; rw [hk])
  exact va_zald hx hbb hK hP q0 1 h1 rfl (am_in_vp hi) hd (kk H locs lsA hl hP hS)
theorem am_s_laload (C : am_Cx p s m args c dC dI ad cy cc own nL) {cells slots pc k j n : Nat} {ls r : List am_V} {M : am_M} {x : Int32} (hk : am_ar k = some (2, n)) (hj : j < am_ct k) (hi : am_in x n) (hd : decode cc pc = .ok (.laload, 1))
    (kk : am_Wp p l e R s m args below meth c Q dC dI ad cy nL cells slots (pc + 1) ls (.inl (.long (am_jn (M k j (2 * x.toNatClampNeg)) (M k j (2 * x.toNatClampNeg + 1)))) :: r) M) : am_Wp p l e R s m args below meth c Q dC dI ad cy nL cells slots pc ls (.inl (.int x) :: .inr (k, j) :: r) M := by
  intro H locs lsA hl hP hS
  obtain ⟨hx, hbb, -, hown, hts, hK, -, -, -⟩ := C
  obtain ⟨q0, h1, -⟩ := am_arr (ad := ad) (cy := cy) (M := M) hj (x := .inl (cy 2, n, .inr (.inl (fun i => am_jn (M k j (2 * i)) (M k j (2 * i + 1)))))) (by unfold am_en; rw [hk])
  exact va_lald hx hbb hK hP q0 2 h1 rfl (am_in_vp hi) hd (kk H locs lsA hl hP hS)
theorem am_s_iast (C : am_Cx p s m args c dC dI ad cy cc own nL) {cells slots pc k j n : Nat} {ls r : List am_V} {M : am_M} {x y : Int32} (hk : am_ar k = some (0, n)) (hj : j < am_ct k) (hi : am_in x n) (hd : decode cc pc = .ok (.iastore, 1))
    (kk : am_Wp p l e R s m args below meth c Q dC dI ad cy nL cells slots (pc + 1) ls r (am_put M k j x.toNatClampNeg y)) : am_Wp p l e R s m args below meth c Q dC dI ad cy nL cells slots pc ls (.inl (.int y) :: .inl (.int x) :: .inr (k, j) :: r) M := by
  intro H locs lsA hl hP hS
  obtain ⟨hx, hbb, -, hown, hts, hK, hD, -, -⟩ := C
  obtain ⟨q0, h1, h2⟩ := am_arr (ad := ad) (cy := cy) (M := M) hj (x := .inl (cy 0, n, .inl (M k j))) (by unfold am_en; rw [hk])
  refine va_iast hx hbb hK hP (hD M) hS q0 0 h1 rfl (am_in_vp hi) hd (fun H1 locs1 hP1 hD1 hS1 => kk H1 locs1 lsA hl ?_ hS1)
  rw [am_put_up, ← h2, show am_en ad cy k j (upd (M k j) x.toNatClampNeg y) = .inl (cy 0, n, .inl (upd (M k j) x.toNatClampNeg y)) by unfold am_en; rw [hk]]
  exact hP1
theorem am_s_bast (C : am_Cx p s m args c dC dI ad cy cc own nL) {cells slots pc k j n : Nat} {ls r : List am_V} {M : am_M} {x y : Int32} (hk : am_ar k = some (1, n)) (hj : j < am_ct k) (hi : am_in x n) (hy : am_b y = y) (hd : decode cc pc = .ok (.bastore, 1))
    (kk : am_Wp p l e R s m args below meth c Q dC dI ad cy nL cells slots (pc + 1) ls r (am_put M k j x.toNatClampNeg y)) : am_Wp p l e R s m args below meth c Q dC dI ad cy nL cells slots pc ls (.inl (.int y) :: .inl (.int x) :: .inr (k, j) :: r) M := by
  intro H locs lsA hl hP hS
  obtain ⟨hx, hbb, -, hown, hts, hK, hD, -, -⟩ := C
  obtain ⟨q0, h1, h2⟩ := am_arr (ad := ad) (cy := cy) (M := M) hj (x := .inl (cy 1, n, .inl (fun i => am_b (M k j i)))) (by unfold am_en; rw [hk])
  refine va_zast hx hbb hK hP (hD M) hS q0 1 h1 rfl (am_in_vp hi) hd (fun H1 locs1 hP1 hD1 hS1 => kk H1 locs1 lsA hl ?_ hS1)
  have hn : vp_nar .boolean y = y := by rcases am_b01 hy with rfl | rfl <;> rfl
  rw [am_put_up, ← h2, show am_en ad cy k j (upd (M k j) x.toNatClampNeg y) = .inl (cy 1, n, .inl (fun i => am_b (upd (M k j) x.toNatClampNeg y i))) by unfold am_en; rw [hk]]
  rw [hn] at hP1
  rw [show (fun i => am_b (upd (M k j) x.toNatClampNeg y i)) = upd (fun i => am_b (M k j i)) x.toNatClampNeg y by
    funext i
    unfold upd
    by_cases hi : i = x.toNatClampNeg
    · rw [if_pos hi, if_pos hi, hy]
    · rw [if_neg hi, if_neg hi]]
  exact hP1
theorem am_s_last (C : am_Cx p s m args c dC dI ad cy cc own nL) {cells slots pc k j n : Nat} {ls r : List am_V} {M : am_M} {x : Int32} {y : Int64} (hk : am_ar k = some (2, n)) (hj : j < am_ct k) (hi : am_in x n) (hd : decode cc pc = .ok (.lastore, 1))
    (kk : am_Wp p l e R s m args below meth c Q dC dI ad cy nL cells slots (pc + 1) ls r (am_put (am_put M k j (2 * x.toNatClampNeg) (am_hi y)) k j (2 * x.toNatClampNeg + 1) (am_lo y))) : am_Wp p l e R s m args below meth c Q dC dI ad cy nL cells slots pc ls (.inl (.long y) :: .inl (.int x) :: .inr (k, j) :: r) M := by
  intro H locs lsA hl hP hS
  obtain ⟨hx, hbb, -, hown, hts, hK, hD, -, -⟩ := C
  obtain ⟨q0, h1, h2⟩ := am_arr (ad := ad) (cy := cy) (M := M) hj (x := .inl (cy 2, n, .inr (.inl (fun i => am_jn (M k j (2 * i)) (M k j (2 * i + 1)))))) (by unfold am_en; rw [hk])
  refine va_last hx hbb hK hP (hD M) hS q0 2 h1 rfl (am_in_vp hi) hd (fun H1 locs1 hP1 hD1 hS1 => kk H1 locs1 lsA hl ?_ hS1)
  have e : am_put (am_put M k j (2 * x.toNatClampNeg) (am_hi y)) k j (2 * x.toNatClampNeg + 1) (am_lo y) = am_up M k j (upd (upd (M k j) (2 * x.toNatClampNeg) (am_hi y)) (2 * x.toNatClampNeg + 1) (am_lo y)) := by
    rw [am_put_up, am_put_up]
    funext k' i'
    unfold am_up
    by_cases hq : k' = k ∧ i' = j
    · simp [hq]
    · simp [hq]
  rw [e, ← h2, show am_en ad cy k j (upd (upd (M k j) (2 * x.toNatClampNeg) (am_hi y)) (2 * x.toNatClampNeg + 1) (am_lo y)) = .inl (cy 2, n, .inr (.inl (fun i => am_jn (upd (upd (M k j) (2 * x.toNatClampNeg) (am_hi y)) (2 * x.toNatClampNeg + 1) (am_lo y) (2 * i)) (upd (upd (M k j) (2 * x.toNatClampNeg) (am_hi y)) (2 * x.toNatClampNeg + 1) (am_lo y) (2 * i + 1))))) by unfold am_en; rw [hk]]
  rw [show (fun i => am_jn (upd (upd (M k j) (2 * x.toNatClampNeg) (am_hi y)) (2 * x.toNatClampNeg + 1) (am_lo y) (2 * i)) (upd (upd (M k j) (2 * x.toNatClampNeg) (am_hi y)) (2 * x.toNatClampNeg + 1) (am_lo y) (2 * i + 1))) = vp_updL (fun i => am_jn (M k j (2 * i)) (M k j (2 * i + 1))) x.toNatClampNeg y by
    funext i
    unfold vp_updL
    by_cases hi : i = x.toNatClampNeg
    · subst hi
      rw [if_pos rfl]
      have a1 : upd (upd (M k j) (2 * x.toNatClampNeg) (am_hi y)) (2 * x.toNatClampNeg + 1) (am_lo y) (2 * x.toNatClampNeg) = am_hi y := by simp [upd]
      have a2 : upd (upd (M k j) (2 * x.toNatClampNeg) (am_hi y)) (2 * x.toNatClampNeg + 1) (am_lo y) (2 * x.toNatClampNeg + 1) = am_lo y := by simp [upd]
      rw [a1, a2, am_jn_eq]
    · rw [if_neg hi]
      have a1 : upd (upd (M k j) (2 * x.toNatClampNeg) (am_hi y)) (2 * x.toNatClampNeg + 1) (am_lo y) (2 * i) = M k j (2 * i) := by
        unfold upd
        rw [if_neg (by omega), if_neg (by omega)]
      have a2 : upd (upd (M k j) (2 * x.toNatClampNeg) (am_hi y)) (2 * x.toNatClampNeg + 1) (am_lo y) (2 * i + 1) = M k j (2 * i + 1) := by
        unfold upd
        rw [if_neg (by omega), if_neg (by omega)]
      rw [a1, a2]]
  exact hP1
theorem am_s_aald (C : am_Cx p s m args c dC dI ad cy cc own nL) {cells slots pc k j n e' : Nat} {ls r : List am_V} {M : am_M} {x : Int32} (hk : am_ar k = some (e' + 3, n)) (hj : j < am_ct k) (hi : am_in x n) (hd : decode cc pc = .ok (.aaload, 1))
    (kk : am_Wp p l e R s m args below meth c Q dC dI ad cy nL cells slots (pc + 1) ls (.inr (e', x.toNatClampNeg) :: r) M) : am_Wp p l e R s m args below meth c Q dC dI ad cy nL cells slots pc ls (.inl (.int x) :: .inr (k, j) :: r) M := by
  intro H locs lsA hl hP hS
  obtain ⟨hx, hbb, -, hown, hts, hK, -, -, -⟩ := C
  obtain ⟨q0, h1, -⟩ := am_arr (ad := ad) (cy := cy) (M := M) hj (x := .inl (cy (e' + 3), n, .inr (.inr (.inr (.inr (fun i => some (ad e' i))))))) (by unfold am_en; rw [hk])
  have ht := am_ar_ti k (am_ar_lt hk)
  rw [hk] at ht
  simp only [decide_eq_true_eq] at ht
  rcases ht with h | h | h | h | h | h | h | h
  · omega
  · omega
  · omega
  · rw [h] at h1; exact va_aldq hx hbb hK hP q0 3 h1 rfl (am_in_vp hi) hd (kk H locs lsA hl hP hS)
  · rw [h] at h1; exact va_aldq hx hbb hK hP q0 4 h1 rfl (am_in_vp hi) hd (kk H locs lsA hl hP hS)
  · rw [h] at h1; exact va_aldq hx hbb hK hP q0 5 h1 rfl (am_in_vp hi) hd (kk H locs lsA hl hP hS)
  · rw [h] at h1; exact va_aldq hx hbb hK hP q0 6 h1 rfl (am_in_vp hi) hd (kk H locs lsA hl hP hS)
  · rw [h] at h1; exact va_aldq hx hbb hK hP q0 7 h1 rfl (am_in_vp hi) hd (kk H locs lsA hl hP hS)
theorem am_s_alen (C : am_Cx p s m args c dC dI ad cy cc own nL) {cells slots pc k j n e' : Nat} {ls r : List am_V} {M : am_M} (hk : am_ar k = some (e', n)) (he : e' < 3) (hj : j < am_ct k) (hd : decode cc pc = .ok (.arraylength, 1))
    (kk : am_Wp p l e R s m args below meth c Q dC dI ad cy nL cells slots (pc + 1) ls (.inl (.int (Int32.ofNat n)) :: r) M) : am_Wp p l e R s m args below meth c Q dC dI ad cy nL cells slots pc ls (.inr (k, j) :: r) M := by
  intro H locs lsA hl hP hS
  obtain ⟨hx, hbb, -, hown, hts, hK, -, -, -⟩ := C
  obtain ⟨q0, h1, -⟩ := am_wget (ad := ad) (cy := cy) M hj
  unfold am_en at h1
  rw [hk] at h1
  match e', he, h1 with
  | 0, _, h1 => exact va_alen hx hbb hK hP q0 0 h1 rfl rfl hd (kk H locs lsA hl hP hS)
  | 1, _, h1 => exact va_alen hx hbb hK hP q0 1 h1 rfl rfl hd (kk H locs lsA hl hP hS)
  | 2, _, h1 => exact va_alen hx hbb hK hP q0 2 h1 rfl rfl hd (kk H locs lsA hl hP hS)
theorem am_s_alenq (C : am_Cx p s m args c dC dI ad cy cc own nL) {cells slots pc k j n e' : Nat} {ls r : List am_V} {M : am_M} (hk : am_ar k = some (e', n)) (he : ¬ e' < 3) (hj : j < am_ct k) (hd : decode cc pc = .ok (.arraylength, 1))
    (kk : am_Wp p l e R s m args below meth c Q dC dI ad cy nL cells slots (pc + 1) ls (.inl (.int (Int32.ofNat n)) :: r) M) : am_Wp p l e R s m args below meth c Q dC dI ad cy nL cells slots pc ls (.inr (k, j) :: r) M := by
  intro H locs lsA hl hP hS
  obtain ⟨hx, hbb, -, hown, hts, hK, -, -, -⟩ := C
  obtain ⟨e2, rfl⟩ : ∃ e2, e' = e2 + 3 := ⟨e' - 3, by omega⟩
  obtain ⟨q0, h1, -⟩ := am_arr (ad := ad) (cy := cy) (M := M) hj (x := .inl (cy (e2 + 3), n, .inr (.inr (.inr (.inr (fun i => some (ad e2 i))))))) (by unfold am_en; rw [hk])
  have ht := am_ar_ti k (am_ar_lt hk)
  rw [hk] at ht
  simp only [decide_eq_true_eq] at ht
  rcases ht with h | h | h | h | h | h | h | h
  · omega
  · omega
  · omega
  · rw [h] at h1; exact va_alen hx hbb hK hP q0 3 h1 rfl rfl hd (kk H locs lsA hl hP hS)
  · rw [h] at h1; exact va_alen hx hbb hK hP q0 4 h1 rfl rfl hd (kk H locs lsA hl hP hS)
  · rw [h] at h1; exact va_alen hx hbb hK hP q0 5 h1 rfl rfl hd (kk H locs lsA hl hP hS)
  · rw [h] at h1; exact va_alen hx hbb hK hP q0 6 h1 rfl rfl hd (kk H locs lsA hl hP hS)
  · rw [h] at h1; exact va_alen hx hbb hK hP q0 7 h1 rfl rfl hd (kk H locs lsA hl hP hS)
end AMS
end
section
/-! ===== one step ===== -/
/-- the arguments of a call, as the small machine takes them -/
def am_Cl (i : Instr) (z : Value) (b : Nat) (av rest : List am_V) : Prop :=
  ((∃ idx, i = .invokestatic idx) ∨ (∃ idx k j as, i = .invokevirtual idx ∧ z = .ref k ∧ av = .inr (k, j) :: as)) ∧ av.length = b ∧ am_wt rest ≤ 8
/-- a callee, as its caller needs it -/
def am_Cal (l : Launch) (dC : Nat → ClassId) (dI : Nat → Nat → Nat) (ad : Nat → Nat → Nat) (cy : Nat → ClassId) (R : Room) (gc gs : Nat) (q : am_C) (F : am_F) : Prop := match q with
  | (y, w, rm, rc, np, mL) => am_Ok l dC dI ad cy y w rm F ∧ w ∈ am_U ∧ rm.cells ≤ gc ∧ rm.slots ≤ gs ∧ rm.frames + 1 ≤ R.frames ∧ 8 + (mL + 11) + rm.locals ≤ R.locals ∧
    (y.cls ≠ "java/lang/invoke/MethodHandle" ∧ y.cls ≠ "java/lang/invoke/VarHandle" ∧ (parseMethodDescriptor y.desc).map (fun d => d.parameters.length) = some np) ∧
    (match rc with | some k => k < 11 ∧ y.cls = am_N k | none => True) ∧ ((∃ bytes ret, w = .code y bytes mL ret) ∨ (rc = none ∧ ∃ bytes ret hh, w = .codeWith y bytes mL ret hh))
section AMT
variable {p : Program} {l : Launch} {e : Env} {R : Room} {s : State} {m : MethodId} {args : Array Value} {below : List Frame} {meth : Method} {c : Code} {Q : State → Prop}
variable {dC : Nat → ClassId} {dI : Nat → Nat → Nat} {ad : Nat → Nat → Nat} {cy : Nat → ClassId} {cc : ByteArray} {own : String} {nL : Nat}
theorem am_co_cat {v : am_V} (h : am_ok v) : (am_co ad v).category ≤ (match v with | .inl (.long _) => 2 | _ => 1) := by
  cases v with
  | inl w => cases w <;> first | exact Nat.le_refl _ | (exact absurd h id)
  | inr q => exact Nat.le_refl _
theorem am_wt_le : ∀ {st : List am_V}, (∀ v ∈ st, am_ok v) → ((st.map (am_co ad)).map fun v => v.category).sum ≤ am_wt st
  | [], _ => Nat.le_refl _
  | v :: l, h => by
    have ih := am_wt_le (st := l) (fun w hw => h w (List.mem_cons_of_mem _ hw))
    have h1 := am_co_cat (ad := ad) (h v List.mem_cons_self)
    rw [List.map_cons, List.map_cons, List.sum_cons]
    cases v with
    | inl w =>
      cases w with
      | long x => show _ ≤ 2 + am_wt l; exact Nat.add_le_add h1 ih
      | int x => show _ ≤ 1 + am_wt l; exact Nat.add_le_add h1 ih
      | null => show _ ≤ 1 + am_wt l; exact Nat.add_le_add h1 ih
      | float x => show _ ≤ 1 + am_wt l; exact Nat.add_le_add h1 ih
      | double x => exact absurd (h _ List.mem_cons_self) id
      | ref x => show _ ≤ 1 + am_wt l; exact Nat.add_le_add h1 ih
      | _ => show _ ≤ 1 + am_wt l; exact Nat.add_le_add h1 ih
    | inr q => show _ ≤ 1 + am_wt l; exact Nat.add_le_add h1 ih
theorem am_back {H : Heap} {locs : List Loc} {cells slots mc ms pc : Nat} {lsA : Array Slot} {st0 rest : List Value} {a' : Array Value} {r : Option am_V} {M' : am_M} (hr : va_Run p l e R s m args below meth c H locs cells slots mc ms (F0 m pc lsA st0) rest (am_Q dC dI ad cy r M' a') (am_A ad)) (hS : va_S (am_A ad) s.heap H locs)
    (kk : ∀ (H1 : Heap) (locs1 : List Loc), va_P (dC, dI) vwCl (am_W ad cy M') H1 → va_S (am_A ad) s.heap H1 locs1 → W p l e R s m args below meth c H1 locs1 (cells + mc) (slots + ms) Q (F0 m (pc + 3) lsA ((r.map (am_co ad)).toList ++ rest))) : W p l e R s m args below meth c H locs cells slots Q (F0 m pc lsA st0) := by
  intro T hT X
  obtain ⟨v, st₀, t, T', L, h0, X', hL, e1, e2, ⟨hv, hP, hz, hk⟩, st⟩ := hr T hT X
  cases hv
  rw [h0] at hz hk
  obtain ⟨t2, a1, b1⟩ := kk T'.heap (locs ++ L) (by rw [e1]; exact hP)
    ⟨Nat.le_trans hS.1 (by rw [e1]; exact hz), fun q h1 h2 => by rw [e1, hk q (Nat.lt_of_lt_of_le h1 hS.1) h2]; exact hS.2.1 q h1 h2, fun q hq => by
      rcases List.mem_append.mp hq with h | h
      · exact hS.2.2 q h
      · exact hL q h⟩ T' rfl X'
  exact ⟨t2, st t2 a1, b1⟩
theorem am_good (q : Cond) (h : q ∈ am_U) : GoodIn am_U (q :: am_U) := fun w hw => by
  rcases List.mem_cons.mp hw with rfl | hw
  · exact ⟨h, good_of_word (List.mem_filter.mp h).2⟩
  · exact ⟨hw, good_of_word (List.mem_filter.mp hw).2⟩
theorem am_pre {C0 : am_Cx p s m args c dC dI ad cy cc own nL} {H : Heap} {locs : List Loc} {M : am_M} {av : List am_V} (hP : va_P (dC, dI) vwCl (am_W ad cy M) H) (hS : va_S (am_A ad) s.heap H locs) : ∀ U : State, U.heap = H → s.WarmedH U.vm → va_Pc (av.map (am_co ad)) (am_St dC dI ad cy M) (av.map (am_co ad)).toArray U := by
  intro U hU hW
  obtain ⟨-, -, -, -, -, hK, hD, hRo, hNk⟩ := C0
  refine ⟨rfl, by rw [hU]; exact hP, va_K.moved hW.alike hK, hD M, ?_, am_Nk.warm hW hNk⟩
  rw [hU]
  exact am_Ro.moved hW.alike (am_Ro.kept hRo hS.2.1)
theorem am_no_cw : ∀ q ∈ am_nl, (lw_tbl.any (fun w => match w with | .codeWith y _ _ _ _ => decide (y = q.2.2.1) | _ => false)) = false := by decide +kernel
theorem am_s_call (C : am_Cx p s m args c dC dI ad cy cc own nL) {cells slots gc gs pc idx a b : Nat} {i : Instr} {z : Value} {ls av rest : List am_V} {M M' : am_M} {r : Option am_V} {q : am_C} {F : am_F} (hq : am_Cal l dC dI ad cy R gc gs q F) (hroom : cells + gc ≤ R.cells ∧ slots + gs ≤ R.slots)
    (hi : i = .invokestatic idx ∧ ((∀ w ∈ ([.static q.1, .initialized q.1.cls] : List Cond), w ∈ am_U) ∧ (Cond.methodLink own idx q.1 ∈ am_U ∨ (own, idx, q.1, RX9) ∈ am_nl)) ∧ av.length = q.2.2.2.2.1 ∨ i = .invokevirtual idx ∧ (∀ w ∈ ([.methodLink own idx q.1, .instanceMethod q.1, .selects q.1.cls q.1 q.1, .initialized q.1.cls] : List Cond), w ∈ am_U) ∧ ∃ k j as, av = .inr (k, j) :: as ∧ as.length = q.2.2.2.2.1 ∧ q.2.2.2.1 = some k)
    (hd : decode cc pc = .ok (i, 3)) (hF : F av M = some (.inl r, M')) (hav : ∀ v ∈ av, am_ok v) (hrest : ∀ v ∈ rest, am_ok v) (hwt : am_wt rest ≤ 8)
    (kk : am_Wp p l e R s m args below meth c Q dC dI ad cy nL (cells + gc) (slots + gs) (pc + 3) ls (r.toList ++ rest) M') : am_Wp p l e R s m args below meth c Q dC dI ad cy nL cells slots pc ls (av.reverse ++ rest) M := by
  obtain ⟨y, w, rm, rc, np, mL⟩ := q
  obtain ⟨hOk, hw, hc1, hc2, hfr, hlo, hyd, hrc, hcode⟩ := hq
  have hM := hOk av M M' r hav hF
  intro H locs lsA hl hP hS
  have C' := C
  obtain ⟨hx, hbb, hml, hown, hts, hK, hD, hRo, hNk⟩ := C
  have hsum : 2 * 0 + ((rest.map (am_co ad)).map fun v => v.category).sum ≤ 8 := by have := am_wt_le (ad := ad) hrest; omega
  have hcr : cells + rm.cells ≤ R.cells ∧ slots + rm.slots ≤ R.slots := ⟨by omega, by omega⟩
  have fin : ∀ (hr : va_Run p l e R s m args below meth c H locs cells slots rm.cells rm.slots (F0 m pc lsA ((av.reverse ++ rest).map (am_co ad))) (rest.map (am_co ad)) (am_Q dC dI ad cy r M' (av.map (am_co ad)).toArray) (am_A ad)), W p l e R s m args below meth c H locs cells slots Q (F0 m pc lsA ((av.reverse ++ rest).map (am_co ad))) := by
    intro hr
    refine am_back hr hS (fun H1 locs1 hP1 hS1 => W.widen (k := cells + gc) (n := slots + gs) (by omega) (by omega) ?_)
    have := kk H1 locs1 lsA hl hP1 hS1
    rw [List.map_append] at this
    cases r with
    | none => exact this
    | some v => exact this
  have hst : (F0 m pc lsA ((av.reverse ++ rest).map (am_co ad))).stack = (av.map (am_co ad)).reverse ++ rest.map (am_co ad) := by
    show (av.reverse ++ rest).map (am_co ad) = _
    rw [List.map_append, List.map_reverse]
  rcases hi with ⟨rfl, hn, hlen⟩ | ⟨rfl, hn, k, j, as, rfl, hlen, hk⟩
  · obtain ⟨hn0, hn1⟩ := hn
    have hst0 := hn0 _ List.mem_cons_self
    have hin0 := hn0 (.initialized y.cls) (List.mem_cons_of_mem _ List.mem_cons_self)
    have three : Cond.methodLink own idx y ∈ am_U → ∀ w ∈ ([.methodLink own idx y, .static y, .initialized y.cls] : List Cond), w ∈ am_U := by
      intro hm w hw3
      rcases List.mem_cons.mp hw3 with rfl | hw3
      · exact hm
      · exact hn0 w hw3
    rcases hcode with ⟨bytes, ret, rfl⟩ | ⟨-, bytes, ret, hh, rfl⟩
    · rcases hn1 with hm | hm
      · refine fin (va_runS ⟨hx, hbb, hml, hown, hts⟩ hM (va_cwS np hts ?_ rfl rfl rfl hyd ⟨hfr, hlo⟩) ⟨am_St_blind, am_pre (C0 := C') hP hS⟩ rfl (by rw [List.length_map]; exact hlen) hl.1 hst hsum hd hcr)
        intro w hw2
        rcases List.mem_append.mp (show w ∈ ([.methodLink own idx y, .static y, .initialized y.cls] : List Cond) ++ (Cond.code y bytes mL ret :: am_U) from hw2) with h | h
        · exact ⟨three hm w h, good_of_word (List.mem_filter.mp (three hm w h)).2⟩
        · exact am_good _ hw w h
      · exact fin (va_runSN (host := RX9) ⟨hx, hbb, hml, hown, hts⟩ hM ⟨va_cnB np hts (am_good _ hw) rfl rfl rfl (hNk.1 _ hm) (hts _ hin0) hyd ⟨hfr, hlo⟩, hts _ hst0, trivial⟩ ⟨am_St_blind, am_pre (C0 := C') hP hS⟩ rfl (by rw [List.length_map]; exact hlen) hl.1 hst hsum hd hcr)
    · rcases hn1 with hm | hm
      · refine fin (vx_runSW (hh := hh) ⟨hx, hbb, hml, hown, hts⟩ hM (vx_cwSW np hts ?_ rfl rfl rfl hyd ⟨hfr, hlo⟩) ⟨am_St_blind, am_pre (C0 := C') hP hS⟩ rfl (by rw [List.length_map]; exact hlen) hl.1 hst hsum hd hcr)
        intro w hw2
        rcases List.mem_append.mp (show w ∈ ([.methodLink own idx y, .static y, .initialized y.cls] : List Cond) ++ (Cond.codeWith y bytes mL ret hh :: am_U) from hw2) with h | h
        · exact ⟨three hm w h, good_of_word (List.mem_filter.mp (three hm w h)).2⟩
        · exact am_good _ hw w h
      · exfalso
        have h1 := am_no_cw _ hm
        have h2 := List.any_eq_false.mp h1 _ (List.mem_filter.mp hw).1
        simp at h2
  · rcases hcode with ⟨bytes, ret, rfl⟩ | ⟨h0, -⟩
    · have hk' : rc = some k := hk
      subst hk'
      obtain ⟨hk11, hyc⟩ := hrc
      have hjk : j < am_ct k := by
        rcases hav _ List.mem_cons_self with h | h
        · exact h
        · exfalso; obtain ⟨h, -⟩ := h; omega
      obtain ⟨q0, h1, -⟩ := am_obj (ad := ad) (cy := cy) (M := M) hk11 hjk
      refine fin (va_runV (C := y.cls) (b := ad k j) (As := as.map (am_co ad)) (rest := rest.map (am_co ad)) ⟨hx, hbb, hml, hown, hts⟩ hM (cwV np hts ?_ rfl rfl rfl ⟨rfl, hyd⟩ ⟨hfr, hlo⟩) ⟨am_St_blind, ?_, am_pre (C0 := C') (av := .inr (k, j) :: as) hP hS⟩ rfl (by rw [List.length_map]; exact hlen) hl.1 ?_ hsum hd hcr)
      · intro w hw2
        rcases List.mem_append.mp (show w ∈ ([.methodLink own idx y, .instanceMethod y, .selects y.cls y y, .initialized y.cls] : List Cond) ++ (Cond.code y bytes mL ret :: am_U) from hw2) with h | h
        · exact ⟨hn w h, good_of_word (List.mem_filter.mp (hn w h)).2⟩
        · exact am_good _ hw w h
      · have := va_recv hK hP (am_cl_at k hk11) h1
        rw [hyc]
        exact this
      · rw [hst, List.map_cons, List.reverse_cons, List.append_assoc]
        rfl
    · exfalso
      have hk' : rc = some k := hk
      rw [h0] at hk'
      cases hk'
end AMT
end
section
/-! ===== the step, the run ===== -/
def am_Sc (rt : Nat) (ad : Nat → Nat → Nat) (X : Nat × (Nat → Int32)) (s : State) : Prop := rt = 5 → va_X (ad 29 0) X.1 X.2 s s.heap ∧ ad 29 0 < s.heap.size ∧ ¬ am_A ad (ad 29 0)
section AMU
variable {p : Program} {l : Launch} {e : Env} {R : Room} {s : State} {m : MethodId} {args : Array Value} {below : List Frame} {meth : Method} {c : Code} {Q : State → Prop}
variable {dC : Nat → ClassId} {dI : Nat → Nat → Nat} {ad : Nat → Nat → Nat} {cy : Nat → ClassId} {cc : ByteArray} {own : String} {nL : Nat}
theorem am_ok_ls {ls : List am_V} (h : ∀ v ∈ ls, am_ok v) : am_nod ls := fun j x e => absurd (h _ (List.mem_of_getElem? e)) id
theorem am_ok_kill {ls : List am_V} (h : ∀ v ∈ ls, am_ok v) (i : Nat) : ∀ v ∈ am_kill ls i, am_ok v := by
  intro v hv
  unfold am_kill at hv
  cases i with
  | zero => exact h v hv
  | succ j =>
    simp only at hv
    split at hv
    · rcases List.mem_or_eq_of_mem_set hv with h1 | h1
      · exact h v h1
      · rw [h1]; exact trivial
    · exact h v hv
theorem am_ok_set1 {ls : List am_V} {i : Nat} {w : am_V} (h : ∀ v ∈ ls, am_ok v) (hw : am_ok w) : ∀ v ∈ am_set1 ls i w, am_ok v := by
  intro v hv
  rcases List.mem_or_eq_of_mem_set hv with h1 | h1
  · exact am_ok_kill h i v h1
  · rw [h1]; exact hw
theorem am_ok_set2 {ls : List am_V} {i : Nat} {w : am_V} (h : ∀ v ∈ ls, am_ok v) (hw : am_ok w) : ∀ v ∈ am_set2 ls i w, am_ok v := by
  intro v hv
  rcases List.mem_or_eq_of_mem_set hv with h1 | h1
  · rcases List.mem_or_eq_of_mem_set h1 with h2 | h2
    · exact am_ok_kill h i v h2
    · rw [h2]; exact hw
  · rw [h1]; exact trivial
theorem am_wid {cells slots gc gs pc : Nat} {ls st : List am_V} {M : am_M} (k : am_Wp p l e R s m args below meth c Q dC dI ad cy nL (cells + gc) (slots + gs) pc ls st M) : am_Wp p l e R s m args below meth c Q dC dI ad cy nL cells slots pc ls st M :=
  fun H locs lsA hl hP hS => W.widen (Nat.le_add_right _ _) (Nat.le_add_right _ _) (k H locs lsA hl hP hS)
theorem am_ok_at {k j : Nat} (h : am_ok (.inr (k, j))) {x : Nat × Nat} (hk : am_ar k = some x) : j < am_ct k := by
  rcases h with h | ⟨h | h | h, -⟩
  · exact h
  · simp only at h; subst h; rw [am_ar_ro.1] at hk; cases hk
  · simp only at h; subst h; rw [am_ar_ro.2.1] at hk; cases hk
  · simp only at h; subst h; rw [am_ar_ro.2.2] at hk; cases hk
theorem am_ok_ob {k j : Nat} (h : am_ok (.inr (k, j))) (hk : k < 11) : j < am_ct k := by
  rcases h with h | ⟨h | h | h, -⟩
  · exact h
  · simp only at h; omega
  · simp only at h; omega
  · simp only at h; omega
theorem am_i32 {n : Int} (h0 : 0 ≤ n) (h1 : n < 1000) : (Int32.ofInt n).toInt = n := Int32.toInt_ofInt_of_le (by omega) (by omega)
theorem am_sw_ok {α : Type} {K : Nat → Option α} {d : Nat} {x : Int32} {r : α} : ∀ {L : List (Int32 × Nat)}, am_sw K d x L = some r → (∃ (j : Nat) (q : Int32 × Nat), L[j]? = some q ∧ x = q.1 ∧ K q.2 = some r ∧ ∀ (i : Nat) (q' : Int32 × Nat), i < j → L[i]? = some q' → x ≠ q'.1) ∨ ((∀ q ∈ L, x ≠ q.1) ∧ K d = some r)
  | [], h => Or.inr ⟨fun _ h => (nomatch h), h⟩
  | q :: l, h => by
    unfold am_sw at h
    by_cases hx : x = q.1
    · rw [if_pos hx] at h
      exact Or.inl ⟨0, q, rfl, hx, h, fun i _ hi => by omega⟩
    · rw [if_neg hx] at h
      rcases am_sw_ok h with ⟨j, q', h1, h2, h3, h4⟩ | ⟨h1, h2⟩
      · refine Or.inl ⟨j + 1, q', by simpa using h1, h2, h3, fun i z hi hz => ?_⟩
        cases i with
        | zero => simp at hz; rw [← hz]; exact hx
        | succ i => exact h4 i z (by omega) (by simpa using hz)
      · refine Or.inr ⟨fun z hz => ?_, h2⟩
        rcases List.mem_cons.mp hz with rfl | hz
        · exact hx
        · exact h1 z hz
theorem am_lnk {own : String} {ci : List am_C} {idx len a b : Nat} {z : Value} {q : am_C} (hq : ci[a]? = some q) (hw : ∀ w ∈ am_need own ci (.invokestatic idx, len, a, b, z), w ∈ am_U) : Cond.methodLink own idx q.1 ∈ am_U ∨ (own, idx, q.1, RX9) ∈ am_nl := by
  obtain ⟨y, w, rest⟩ := q
  by_cases h : (own, idx, y, RX9) ∈ am_nl
  · exact Or.inr h
  · refine Or.inl (hw _ ?_)
    simp only [am_need]
    rw [hq]
    refine List.mem_append_right _ ?_
    rw [if_neg h]
    exact List.mem_cons_self
set_option maxHeartbeats 4000000 in
theorem am_step_ok (C : am_Cx p s m args c dC dI ad cy cc own nL) {cs : List am_F} {hs : List (Nat × Nat × String × Value)} {rt : Nat} {X : Nat × (Nat → Int32)} {P : am_P} {ci : List am_C} {gc gs cells slots : Nat}
    (hrow : ∀ (pc : Nat) (r : am_Row), am_at P pc = some r → decode cc pc = .ok (r.1, r.2.1) ∧ am_chk nL pc r = true ∧ ∀ w ∈ am_need own ci r, w ∈ am_U)
    (hcs : ∀ (a : Nat) (F : am_F), cs[a]? = some F → ∃ q : am_C, ci[a]? = some q ∧ am_Cal l dC dI ad cy R gc gs q F)
    (hcv : ∀ (pc : Nat) (i : Instr) (len a b : Nat) (z : Value) (q : am_C), am_at P pc = some (i, len, a, b, z) → ci[a]? = some q → (∀ idx, i = .invokestatic idx → b = q.2.2.2.2.1) ∧ (∀ idx k, i = .invokevirtual idx → z = .ref k → b = q.2.2.2.2.1 + 1 ∧ q.2.2.2.1 = some k))
    (hX : am_Sc rt ad X s) (hroom : cells + gc ≤ R.cells ∧ slots + gs ≤ R.slots)
    {K : Nat → List am_V → List am_V → am_M → am_R} {o : am_O} {Mf : am_M}
    (hK : ∀ pc ls st M, K pc ls st M = some (o, Mf) → (∀ v ∈ ls, am_ok v) → (∀ v ∈ st, am_ok v) → am_Wp p l e R s m args below meth c Q dC dI ad cy nL (cells + gc) (slots + gs) pc ls st M)
    (hfin : ∀ (pc : Nat) (i : Instr) (a b : Nat) (z : Value) (ls st : List am_V), am_at P pc = some (i, 1, a, b, z) → am_fin rt i ls st = some o → (∀ v ∈ ls, am_ok v) → (∀ v ∈ st, am_ok v) → am_Wp p l e R s m args below meth c Q dC dI ad cy nL cells slots pc ls st Mf)
    (hthr : ∀ (pc : Nat) (i : Instr) (a b : Nat) (z : Value) (ls av rest : List am_V) (M M1 : am_M) (E : String) (F : am_F), am_at P pc = some (i, 3, a, b, z) → cs[a]? = some F → F av M = some (.inr E, M1) → am_Cl i z b av rest → (am_catch hs pc E = none ∧ o = .inr E ∧ Mf = M1 ∨ ∃ v, am_catch hs pc E = some v ∧ o = .inl (some (.inl v)) ∧ Mf = M1) → (∀ v ∈ ls, am_ok v) → (∀ v ∈ av, am_ok v) → (∀ v ∈ rest, am_ok v) → am_Wp p l e R s m args below meth c Q dC dI ad cy nL cells slots pc ls (av.reverse ++ rest) M)
    (pc : Nat) (ls st : List am_V) (M : am_M) (hls : ∀ v ∈ ls, am_ok v) (hst : ∀ v ∈ st, am_ok v) (h : am_step cs hs rt X P K pc ls st M = some (o, Mf)) : am_Wp p l e R s m args below meth c Q dC dI ad cy nL cells slots pc ls st M := by
  have C' := C
  obtain ⟨hx, hb, hml, hown, hts, hKK, hD, hRo, hNk⟩ := C
  unfold am_step at h
  cases hat : am_at P pc with
  | none => rw [hat] at h; cases h
  | some row =>
    obtain ⟨i, len, a, b, z⟩ := row
    obtain ⟨hd, hc, hw⟩ := hrow pc _ hat
    rw [hat] at h
    simp only at hd h
    have t1 : ∀ {v : am_V} {l : List am_V}, (∀ w ∈ v :: l, am_ok w) → ∀ w ∈ l, am_ok w := fun h w hw => h w (List.mem_cons_of_mem _ hw)
    have t2 : ∀ {v : am_V} {l : List am_V}, am_ok v → (∀ w ∈ l, am_ok w) → ∀ w ∈ v :: l, am_ok w := fun h1 h2 w hw => (List.mem_cons.mp hw).elim (fun e => e ▸ h1) (h2 w)
    have kw : ∀ {pc' : Nat} {ls' st' : List am_V} {M' : am_M}, K pc' ls' st' M' = some (o, Mf) → (∀ v ∈ ls', am_ok v) → (∀ v ∈ st', am_ok v) → am_Wp p l e R s m args below meth c Q dC dI ad cy nL cells slots pc' ls' st' M' := fun h1 h2 h3 => am_wid (hK _ _ _ _ h1 h2 h3)
    cases i with
    | iconst v =>
      dsimp only at h
      simp only [am_chk, decide_eq_true_eq, Bool.and_eq_true] at hc
      obtain ⟨rfl, rfl⟩ := hc
      intro H locs lsA hl hP hS
      exact lv_iconst hx hb hd rfl (kw h hls (t2 trivial hst) H locs lsA hl hP hS)
    | bipush v =>
      dsimp only at h
      simp only [am_chk, decide_eq_true_eq, Bool.and_eq_true] at hc
      obtain ⟨rfl, rfl⟩ := hc
      intro H locs lsA hl hP hS
      exact lv_bipush hx hb hd rfl (kw h hls (t2 trivial hst) H locs lsA hl hP hS)
    | sipush v =>
      dsimp only at h
      simp only [am_chk, decide_eq_true_eq, Bool.and_eq_true] at hc
      obtain ⟨rfl, rfl⟩ := hc
      intro H locs lsA hl hP hS
      exact lv_sipush hx hb hd rfl (kw h hls (t2 trivial hst) H locs lsA hl hP hS)
    | lconst v =>
      dsimp only at h
      simp only [am_chk, decide_eq_true_eq, Bool.and_eq_true] at hc
      obtain ⟨rfl, rfl⟩ := hc
      intro H locs lsA hl hP hS
      exact lv_lconst hx hb hd rfl (kw h hls (t2 trivial hst) H locs lsA hl hP hS)
    | ldc k =>
      dsimp only at h
      simp only [am_chk, decide_eq_true_eq, Bool.and_eq_true] at hc
      obtain ⟨rfl, hz⟩ := hc
      split at hz
      · intro H locs lsA hl hP hS
        exact lv_ldc hx hb hown (hts _ (hw _ (by simp [am_need]))) hd (kw h hls (t2 trivial hst) H locs lsA hl hP hS)
      · cases hz
    | ldc2_w k =>
      dsimp only at h
      simp only [am_chk, decide_eq_true_eq, Bool.and_eq_true] at hc
      obtain ⟨rfl, hz⟩ := hc
      split at hz
      · intro H locs lsA hl hP hS
        exact lv_ldc2 hx hb hown (hts _ (hw _ (by simp [am_need]))) hd (kw h hls (t2 trivial hst) H locs lsA hl hP hS)
      · cases hz
    | aconst_null =>
      dsimp only at h
      simp only [am_chk, decide_eq_true_eq, Bool.and_eq_true] at hc
      subst hc
      intro H locs lsA hl hP hS
      exact lv_null hx hb hd (kw h hls (t2 trivial hst) H locs lsA hl hP hS)
    | iload_n k =>
      dsimp only at h
      simp only [am_chk, decide_eq_true_eq, Bool.and_eq_true] at hc
      obtain ⟨rfl, rfl⟩ := hc
      split at h
      · rename_i x hv
        intro H locs lsA hl hP hS
        exact lv_iload_n hx hb hd rfl (am_lv_at hl hv rfl) (kw h hls (t2 trivial hst) H locs lsA hl hP hS)
      · cases h
    | iload k =>
      dsimp only at h
      simp only [am_chk, decide_eq_true_eq, Bool.and_eq_true] at hc
      obtain ⟨rfl, rfl⟩ := hc
      split at h
      · rename_i x hv
        intro H locs lsA hl hP hS
        exact lv_iload hx hb hd (am_lv_at hl hv rfl) (kw h hls (t2 trivial hst) H locs lsA hl hP hS)
      · cases h
    | lload_n k =>
      dsimp only at h
      simp only [am_chk, decide_eq_true_eq, Bool.and_eq_true] at hc
      obtain ⟨rfl, rfl⟩ := hc
      split at h
      · rename_i x hv
        intro H locs lsA hl hP hS
        exact lv_lload_n hx hb hd rfl (am_lv_at hl hv rfl) (kw h hls (t2 trivial hst) H locs lsA hl hP hS)
      · cases h
    | lload k =>
      dsimp only at h
      simp only [am_chk, decide_eq_true_eq, Bool.and_eq_true] at hc
      obtain ⟨rfl, rfl⟩ := hc
      split at h
      · rename_i x hv
        intro H locs lsA hl hP hS
        exact lv_lload hx hb hd (am_lv_at hl hv rfl) (kw h hls (t2 trivial hst) H locs lsA hl hP hS)
      · cases h
    | aload_n k =>
      dsimp only at h
      simp only [am_chk, decide_eq_true_eq, Bool.and_eq_true] at hc
      obtain ⟨rfl, rfl⟩ := hc
      split at h
      · rename_i q hv
        intro H locs lsA hl hP hS
        exact lv_aload_n hx hb hd rfl (am_lv_at hl hv rfl) (kw h hls (t2 (hls _ (List.mem_of_getElem? hv)) hst) H locs lsA hl hP hS)
      · rename_i hv
        intro H locs lsA hl hP hS
        exact lv_aload_nN hx hb hd rfl (am_lv_at hl hv rfl) (kw h hls (t2 trivial hst) H locs lsA hl hP hS)
      · cases h
    | aload k =>
      dsimp only at h
      simp only [am_chk, decide_eq_true_eq, Bool.and_eq_true] at hc
      obtain ⟨rfl, rfl⟩ := hc
      split at h
      · rename_i q hv
        intro H locs lsA hl hP hS
        exact lv_aload hx hb hd (am_lv_at hl hv rfl) (kw h hls (t2 (hls _ (List.mem_of_getElem? hv)) hst) H locs lsA hl hP hS)
      · rename_i hv
        intro H locs lsA hl hP hS
        exact lv_aloadN hx hb hd (am_lv_at hl hv rfl) (kw h hls (t2 trivial hst) H locs lsA hl hP hS)
      · cases h
    | istore_n k =>
      dsimp only at h
      simp only [am_chk, decide_eq_true_eq, Bool.and_eq_true] at hc
      obtain ⟨rfl, rfl, hn⟩ := hc
      split at h
      · rename_i x r
        intro H locs lsA hl hP hS
        exact lv_istore_n hx hb hd rfl hl hn rfl (fun lsB hl2 => kw h (am_ok_set1 hls trivial) (t1 hst) H locs lsB (am_lv_set1 (v := .inl _) (am_ok_ls hls) hl2) hP hS)
      · cases h
    | istore k =>
      dsimp only at h
      simp only [am_chk, decide_eq_true_eq, Bool.and_eq_true] at hc
      obtain ⟨rfl, rfl, hn⟩ := hc
      split at h
      · rename_i x r
        intro H locs lsA hl hP hS
        exact lv_istore hx hb hd hl hn rfl (fun lsB hl2 => kw h (am_ok_set1 hls trivial) (t1 hst) H locs lsB (am_lv_set1 (v := .inl _) (am_ok_ls hls) hl2) hP hS)
      · cases h
    | lstore_n k =>
      dsimp only at h
      simp only [am_chk, decide_eq_true_eq, Bool.and_eq_true] at hc
      obtain ⟨rfl, rfl, hn⟩ := hc
      split at h
      · rename_i x r
        intro H locs lsA hl hP hS
        exact lv_lstore_n hx hb hd rfl hl hn rfl (fun lsB hl2 => kw h (am_ok_set2 hls trivial) (t1 hst) H locs lsB (am_lv_set2 (v := .inl _) (am_ok_ls hls) hl2) hP hS)
      · cases h
    | lstore k =>
      dsimp only at h
      simp only [am_chk, decide_eq_true_eq, Bool.and_eq_true] at hc
      obtain ⟨rfl, rfl, hn⟩ := hc
      split at h
      · rename_i x r
        intro H locs lsA hl hP hS
        exact lv_lstore hx hb hd hl hn rfl (fun lsB hl2 => kw h (am_ok_set2 hls trivial) (t1 hst) H locs lsB (am_lv_set2 (v := .inl _) (am_ok_ls hls) hl2) hP hS)
      · cases h
    | astore_n k =>
      dsimp only at h
      simp only [am_chk, decide_eq_true_eq, Bool.and_eq_true] at hc
      obtain ⟨rfl, rfl, hn⟩ := hc
      split at h
      · rename_i q r
        intro H locs lsA hl hP hS
        exact lv_astore_n hx hb hd rfl hl hn rfl (fun lsB hl2 => kw h (am_ok_set1 hls (hst _ List.mem_cons_self)) (t1 hst) H locs lsB (am_lv_set1 (v := .inr q) (am_ok_ls hls) hl2) hP hS)
      · rename_i r
        intro H locs lsA hl hP hS
        exact lv_astore_nN hx hb hd rfl hl hn rfl (fun lsB hl2 => kw h (am_ok_set1 hls trivial) (t1 hst) H locs lsB (am_lv_set1 (v := .inl .null) (am_ok_ls hls) hl2) hP hS)
      · cases h
    | astore k =>
      dsimp only at h
      simp only [am_chk, decide_eq_true_eq, Bool.and_eq_true] at hc
      obtain ⟨rfl, rfl, hn⟩ := hc
      split at h
      · rename_i q r
        intro H locs lsA hl hP hS
        exact lv_astore hx hb hd hl hn rfl (fun lsB hl2 => kw h (am_ok_set1 hls (hst _ List.mem_cons_self)) (t1 hst) H locs lsB (am_lv_set1 (v := .inr q) (am_ok_ls hls) hl2) hP hS)
      · rename_i r
        intro H locs lsA hl hP hS
        exact lv_astoreN hx hb hd hl hn rfl (fun lsB hl2 => kw h (am_ok_set1 hls trivial) (t1 hst) H locs lsB (am_lv_set1 (v := .inl .null) (am_ok_ls hls) hl2) hP hS)
      · cases h
    | iinc k v =>
      dsimp only at h
      simp only [am_chk, decide_eq_true_eq, Bool.and_eq_true] at hc
      obtain ⟨rfl, rfl, hn, rfl⟩ := hc
      split at h
      · rename_i x v2 hv he
        cases he
        intro H locs lsA hl hP hS
        obtain ⟨kx, hkx⟩ := List.getElem?_of_mem (am_lv_mem.mpr ⟨_, _, hv, rfl, rfl⟩ : (0 + k, am_co ad (.inl (.int x))) ∈ am_lv ad 0 ls)
        rw [Nat.zero_add] at hkx
        exact lv_iinc hx hb hd hl hkx rfl hn rfl (fun lsB hl2 => kw h (am_ok_set1 hls trivial) hst H locs lsB (am_lv_set1 (v := .inl _) (am_ok_ls hls) hl2) hP hS)
      · cases h
    | iadd =>
      dsimp only at h
      simp only [am_chk, decide_eq_true_eq, Bool.and_eq_true] at hc
      subst hc
      split at h
      · intro H locs lsA hl hP hS
        exact lv_iadd hx hb hd (kw h hls (t2 trivial (t1 (t1 hst))) H locs lsA hl hP hS)
      · cases h
    | isub =>
      dsimp only at h
      simp only [am_chk, decide_eq_true_eq, Bool.and_eq_true] at hc
      subst hc
      split at h
      · intro H locs lsA hl hP hS
        exact lv_isub hx hb hd (kw h hls (t2 trivial (t1 (t1 hst))) H locs lsA hl hP hS)
      · cases h
    | imul =>
      dsimp only at h
      simp only [am_chk, decide_eq_true_eq, Bool.and_eq_true] at hc
      subst hc
      split at h
      · intro H locs lsA hl hP hS
        exact lv_imul hx hb hd (kw h hls (t2 trivial (t1 (t1 hst))) H locs lsA hl hP hS)
      · cases h
    | iand =>
      dsimp only at h
      simp only [am_chk, decide_eq_true_eq, Bool.and_eq_true] at hc
      subst hc
      split at h
      · intro H locs lsA hl hP hS
        exact lv_iand hx hb hd (kw h hls (t2 trivial (t1 (t1 hst))) H locs lsA hl hP hS)
      · cases h
    | ior =>
      dsimp only at h
      simp only [am_chk, decide_eq_true_eq, Bool.and_eq_true] at hc
      subst hc
      split at h
      · intro H locs lsA hl hP hS
        exact lv_ior hx hb hd (kw h hls (t2 trivial (t1 (t1 hst))) H locs lsA hl hP hS)
      · cases h
    | ishr =>
      dsimp only at h
      simp only [am_chk, decide_eq_true_eq, Bool.and_eq_true] at hc
      subst hc
      split at h
      · intro H locs lsA hl hP hS
        exact lv_ishr hx hb hd (kw h hls (t2 trivial (t1 (t1 hst))) H locs lsA hl hP hS)
      · cases h
    | ladd =>
      dsimp only at h
      simp only [am_chk, decide_eq_true_eq, Bool.and_eq_true] at hc
      subst hc
      split at h
      · intro H locs lsA hl hP hS
        exact lv_ladd hx hb hd (kw h hls (t2 trivial (t1 (t1 hst))) H locs lsA hl hP hS)
      · cases h
    | lsub =>
      dsimp only at h
      simp only [am_chk, decide_eq_true_eq, Bool.and_eq_true] at hc
      subst hc
      split at h
      · intro H locs lsA hl hP hS
        exact lv_lsub hx hb hd (kw h hls (t2 trivial (t1 (t1 hst))) H locs lsA hl hP hS)
      · cases h
    | lmul =>
      dsimp only at h
      simp only [am_chk, decide_eq_true_eq, Bool.and_eq_true] at hc
      subst hc
      split at h
      · intro H locs lsA hl hP hS
        exact lv_lmul hx hb hd (kw h hls (t2 trivial (t1 (t1 hst))) H locs lsA hl hP hS)
      · cases h
    | lxor =>
      dsimp only at h
      simp only [am_chk, decide_eq_true_eq, Bool.and_eq_true] at hc
      subst hc
      split at h
      · intro H locs lsA hl hP hS
        exact lv_lxor hx hb hd (kw h hls (t2 trivial (t1 (t1 hst))) H locs lsA hl hP hS)
      · cases h
    | lcmp =>
      dsimp only at h
      simp only [am_chk, decide_eq_true_eq, Bool.and_eq_true] at hc
      subst hc
      split at h
      · intro H locs lsA hl hP hS
        exact W.lcmp hx hb hd (kw h hls (t2 trivial (t1 (t1 hst))) H locs lsA hl hP hS)
      · cases h
    | lshl =>
      dsimp only at h
      simp only [am_chk, decide_eq_true_eq, Bool.and_eq_true] at hc
      subst hc
      split at h
      · intro H locs lsA hl hP hS
        exact lv_lshl hx hb hd rfl (kw h hls (t2 trivial (t1 (t1 hst))) H locs lsA hl hP hS)
      · cases h
    | idiv =>
      dsimp only at h
      simp only [am_chk, decide_eq_true_eq, Bool.and_eq_true] at hc
      subst hc
      split at h
      · split at h
        · cases h
        · rename_i hne
          intro H locs lsA hl hP hS
          exact lv_idiv hx hb hd hne (kw h hls (t2 trivial (t1 (t1 hst))) H locs lsA hl hP hS)
      · cases h
    | irem =>
      dsimp only at h
      simp only [am_chk, decide_eq_true_eq, Bool.and_eq_true] at hc
      subst hc
      split at h
      · split at h
        · cases h
        · rename_i hne
          intro H locs lsA hl hP hS
          exact lv_irem hx hb hd hne (kw h hls (t2 trivial (t1 (t1 hst))) H locs lsA hl hP hS)
      · cases h
    | ldiv =>
      dsimp only at h
      simp only [am_chk, decide_eq_true_eq, Bool.and_eq_true] at hc
      subst hc
      split at h
      · split at h
        · cases h
        · rename_i hne
          intro H locs lsA hl hP hS
          exact lv_ldiv hx hb hd hne (kw h hls (t2 trivial (t1 (t1 hst))) H locs lsA hl hP hS)
      · cases h
    | lrem =>
      dsimp only at h
      simp only [am_chk, decide_eq_true_eq, Bool.and_eq_true] at hc
      subst hc
      split at h
      · split at h
        · cases h
        · rename_i hne
          intro H locs lsA hl hP hS
          exact lv_lrem hx hb hd hne (kw h hls (t2 trivial (t1 (t1 hst))) H locs lsA hl hP hS)
      · cases h
    | i2l =>
      dsimp only at h
      simp only [am_chk, decide_eq_true_eq, Bool.and_eq_true] at hc
      subst hc
      split at h
      · intro H locs lsA hl hP hS
        exact lv_i2l hx hb hd rfl (kw h hls (t2 trivial (t1 hst)) H locs lsA hl hP hS)
      · cases h
    | l2i =>
      dsimp only at h
      simp only [am_chk, decide_eq_true_eq, Bool.and_eq_true] at hc
      subst hc
      split at h
      · intro H locs lsA hl hP hS
        exact lv_l2i hx hb hd rfl (kw h hls (t2 trivial (t1 hst)) H locs lsA hl hP hS)
      · cases h
    | dup =>
      dsimp only at h
      simp only [am_chk, decide_eq_true_eq, Bool.and_eq_true] at hc
      subst hc
      split at h
      · intro H locs lsA hl hP hS
        exact lv_dup hx hb hd rfl (kw h hls (t2 trivial hst) H locs lsA hl hP hS)
      · intro H locs lsA hl hP hS
        exact lv_dup hx hb hd rfl (kw h hls (t2 (hst _ List.mem_cons_self) hst) H locs lsA hl hP hS)
      · cases h
    | dup2 =>
      dsimp only at h
      simp only [am_chk, decide_eq_true_eq, Bool.and_eq_true] at hc
      subst hc
      split at h
      · intro H locs lsA hl hP hS
        exact lv_dup2_11 hx hb hd rfl rfl (kw h hls (t2 trivial (t2 (t1 hst _ List.mem_cons_self) hst)) H locs lsA hl hP hS)
      · cases h
    | pop =>
      dsimp only at h
      simp only [am_chk, decide_eq_true_eq, Bool.and_eq_true] at hc
      subst hc
      split at h
      · intro H locs lsA hl hP hS
        exact lv_pop hx hb hd rfl (kw h hls (t1 hst) H locs lsA hl hP hS)
      · intro H locs lsA hl hP hS
        exact lv_pop hx hb hd rfl (kw h hls (t1 hst) H locs lsA hl hP hS)
      · cases h
    | goto off =>
      dsimp only at h
      simp only [am_chk, decide_eq_true_eq, Bool.and_eq_true] at hc
      obtain ⟨rfl, ht⟩ := hc
      intro H locs lsA hl hP hS
      exact lv_goto hx hb hd ht (kw h hls hst H locs lsA hl hP hS)
    | ifCond cn off =>
      dsimp only at h
      simp only [am_chk, decide_eq_true_eq, Bool.and_eq_true] at hc
      obtain ⟨rfl, ht⟩ := hc
      split at h
      · cases cn with
        | eq =>
          simp only at h
          split at h
          · rename_i hq
            intro H locs lsA hl hP hS
            exact lv_if_eq hx hb hd ht (fun z => kw h hls (t1 hst) H locs lsA hl hP hS) (fun z => absurd hq z)
          · rename_i hq
            intro H locs lsA hl hP hS
            exact lv_if_eq hx hb hd ht (fun z => absurd z hq) (fun z => kw h hls (t1 hst) H locs lsA hl hP hS)
        | ne =>
          simp only at h
          split at h
          · rename_i hq
            intro H locs lsA hl hP hS
            exact lv_if_ne hx hb hd ht (fun z => absurd hq z) (fun z => kw h hls (t1 hst) H locs lsA hl hP hS)
          · rename_i hq
            intro H locs lsA hl hP hS
            exact lv_if_ne hx hb hd ht (fun z => kw h hls (t1 hst) H locs lsA hl hP hS) (fun z => absurd z hq)
        | lt =>
          simp only at h
          split at h
          · rename_i hq
            intro H locs lsA hl hP hS
            exact lv_if_lt hx hb hd ht (fun z => kw h hls (t1 hst) H locs lsA hl hP hS) (fun z => absurd hq z)
          · rename_i hq
            intro H locs lsA hl hP hS
            exact lv_if_lt hx hb hd ht (fun z => absurd z hq) (fun z => kw h hls (t1 hst) H locs lsA hl hP hS)
        | ge =>
          simp only at h
          split at h
          · rename_i hq
            intro H locs lsA hl hP hS
            exact lv_if_ge hx hb hd ht (fun z => kw h hls (t1 hst) H locs lsA hl hP hS) (fun z => absurd hq z)
          · rename_i hq
            intro H locs lsA hl hP hS
            exact lv_if_ge hx hb hd ht (fun z => absurd z hq) (fun z => kw h hls (t1 hst) H locs lsA hl hP hS)
        | gt =>
          simp only at h
          split at h
          · rename_i hq
            intro H locs lsA hl hP hS
            exact lv_if_gt hx hb hd ht (fun z => kw h hls (t1 hst) H locs lsA hl hP hS) (fun z => absurd hq z)
          · rename_i hq
            intro H locs lsA hl hP hS
            exact lv_if_gt hx hb hd ht (fun z => absurd z hq) (fun z => kw h hls (t1 hst) H locs lsA hl hP hS)
        | le =>
          simp only at h
          split at h
          · rename_i hq
            intro H locs lsA hl hP hS
            exact lv_if_le hx hb hd ht (fun z => kw h hls (t1 hst) H locs lsA hl hP hS) (fun z => absurd hq z)
          · rename_i hq
            intro H locs lsA hl hP hS
            exact lv_if_le hx hb hd ht (fun z => absurd z hq) (fun z => kw h hls (t1 hst) H locs lsA hl hP hS)
      · cases h
    | if_icmp cn off =>
      dsimp only at h
      simp only [am_chk, decide_eq_true_eq, Bool.and_eq_true] at hc
      obtain ⟨rfl, ht⟩ := hc
      split at h
      · cases cn with
        | eq =>
          simp only at h
          split at h
          · rename_i hq
            intro H locs lsA hl hP hS
            exact lv_icmp_eq hx hb hd ht (fun z => kw h hls (t1 (t1 hst)) H locs lsA hl hP hS) (fun z => absurd hq z)
          · rename_i hq
            intro H locs lsA hl hP hS
            exact lv_icmp_eq hx hb hd ht (fun z => absurd z hq) (fun z => kw h hls (t1 (t1 hst)) H locs lsA hl hP hS)
        | ne =>
          simp only at h
          split at h
          · rename_i hq
            intro H locs lsA hl hP hS
            exact lv_icmp_ne hx hb hd ht (fun z => absurd hq z) (fun z => kw h hls (t1 (t1 hst)) H locs lsA hl hP hS)
          · rename_i hq
            intro H locs lsA hl hP hS
            exact lv_icmp_ne hx hb hd ht (fun z => kw h hls (t1 (t1 hst)) H locs lsA hl hP hS) (fun z => absurd z hq)
        | lt =>
          simp only at h
          split at h
          · rename_i hq
            intro H locs lsA hl hP hS
            exact lv_icmp_lt hx hb hd ht (fun z => kw h hls (t1 (t1 hst)) H locs lsA hl hP hS) (fun z => absurd hq z)
          · rename_i hq
            intro H locs lsA hl hP hS
            exact lv_icmp_lt hx hb hd ht (fun z => absurd z hq) (fun z => kw h hls (t1 (t1 hst)) H locs lsA hl hP hS)
        | ge =>
          simp only at h
          split at h
          · rename_i hq
            intro H locs lsA hl hP hS
            exact lv_icmp_ge hx hb hd ht (fun z => kw h hls (t1 (t1 hst)) H locs lsA hl hP hS) (fun z => absurd hq z)
          · rename_i hq
            intro H locs lsA hl hP hS
            exact lv_icmp_ge hx hb hd ht (fun z => absurd z hq) (fun z => kw h hls (t1 (t1 hst)) H locs lsA hl hP hS)
        | gt =>
          simp only at h
          split at h
          · rename_i hq
            intro H locs lsA hl hP hS
            exact lv_icmp_gt hx hb hd ht (fun z => kw h hls (t1 (t1 hst)) H locs lsA hl hP hS) (fun z => absurd hq z)
          · rename_i hq
            intro H locs lsA hl hP hS
            exact lv_icmp_gt hx hb hd ht (fun z => absurd z hq) (fun z => kw h hls (t1 (t1 hst)) H locs lsA hl hP hS)
        | le =>
          simp only at h
          split at h
          · rename_i hq
            intro H locs lsA hl hP hS
            exact lv_icmp_le hx hb hd ht (fun z => kw h hls (t1 (t1 hst)) H locs lsA hl hP hS) (fun z => absurd hq z)
          · rename_i hq
            intro H locs lsA hl hP hS
            exact lv_icmp_le hx hb hd ht (fun z => absurd z hq) (fun z => kw h hls (t1 (t1 hst)) H locs lsA hl hP hS)
      · cases h
    | ifnull off =>
      dsimp only at h
      simp only [am_chk, decide_eq_true_eq, Bool.and_eq_true] at hc
      obtain ⟨rfl, ht⟩ := hc
      split at h
      · intro H locs lsA hl hP hS
        exact lv_ifnull hx hb hd (kw h hls (t1 hst) H locs lsA hl hP hS)
      · intro H locs lsA hl hP hS
        exact lv_ifnullN hx hb hd ht (kw h hls (t1 hst) H locs lsA hl hP hS)
      · cases h
    | ifnonnull off =>
      dsimp only at h
      simp only [am_chk, decide_eq_true_eq, Bool.and_eq_true] at hc
      obtain ⟨rfl, ht⟩ := hc
      split at h
      · intro H locs lsA hl hP hS
        exact lv_ifnonnull hx hb hd ht (kw h hls (t1 hst) H locs lsA hl hP hS)
      · intro H locs lsA hl hP hS
        exact lv_ifnonnullN hx hb hd (kw h hls (t1 hst) H locs lsA hl hP hS)
      · cases h
    | tableswitch df lo hi os =>
      dsimp only at h
      simp only [am_chk, decide_eq_true_eq, Bool.and_eq_true] at hc
      obtain ⟨⟨h0, h1, h2, h3⟩, h4⟩ := hc
      split at h
      · rename_i x r
        intro H locs lsA hl hP hS
        have hg : ∀ j, j < os.size → 0 ≤ (pc : Int) + os.getD j 0 := fun j hj => of_decide_eq_true (List.all_eq_true.mp h4 j (List.mem_range.mpr hj))
        rcases am_sw_ok h with ⟨j, q, e1, e2, e3, -⟩ | ⟨e1, e2⟩
        · rw [List.getElem?_map] at e1
          cases hr : (List.range os.size)[j]? with
          | none => rw [hr] at e1; cases e1
          | some j2 =>
            rw [hr] at e1
            obtain ⟨e5, e6⟩ := List.getElem?_eq_some_iff.mp hr
            rw [List.length_range] at e5
            rw [List.getElem_range] at e6
            subst e6
            cases e1
            simp only at e2 e3
            have ex : x.toInt = lo + (j : Int) := by rw [e2]; exact am_i32 (by omega) (by omega)
            refine lv_tableIn hx hb hd (by omega) (by omega) (off := os.getD j 0) ?_ ?_ (kw e3 hls (t1 hst) H locs lsA hl hP hS)
            · rw [show (x.toInt - lo).toNat = j by omega, Array.getD_eq_getD_getElem?, Array.getElem?_eq_getElem e5]; rfl
            · have := hg j e5; omega
        · refine lv_tableOut hx hb hd ?_ (by omega) (kw e2 hls (t1 hst) H locs lsA hl hP hS)
          rcases Int.lt_or_le x.toInt lo with hz | hz
          · exact Or.inl hz
          · rcases Int.lt_or_le hi x.toInt with hz2 | hz2
            · exact Or.inr hz2
            · exfalso
              refine e1 (Int32.ofInt (lo + (((x.toInt - lo).toNat : Nat) : Int)), ((pc : Int) + os.getD (x.toInt - lo).toNat 0).toNat) (List.mem_map.mpr ⟨(x.toInt - lo).toNat, List.mem_range.mpr (by omega), rfl⟩) ?_
              apply Int32.toInt_inj.mp
              rw [am_i32 (by omega) (by omega)]
              omega
      · cases h
    | lookupswitch df ps =>
      dsimp only at h
      simp only [am_chk, decide_eq_true_eq, Bool.and_eq_true] at hc
      obtain ⟨⟨h0, h1⟩, h4⟩ := hc
      split at h
      · rename_i x r
        intro H locs lsA hl hP hS
        have key : ∀ (L : List (Int × Int)), (∀ q ∈ L, 0 ≤ (pc : Int) + q.2 ∧ 0 ≤ q.1 ∧ q.1 < 1000) → am_sw (fun t => K t ls r M) ((pc : Int) + df).toNat x (L.map (fun q => (Int32.ofInt q.1, ((pc : Int) + q.2).toNat))) = some (o, Mf) → ∃ tgt : Nat, (pc : Int) + Op.lookupswitch.offset L df x.toInt = (tgt : Int) ∧ K tgt ls r M = some (o, Mf) := by
          intro L
          induction L with
          | nil => intro _ hk; exact ⟨((pc : Int) + df).toNat, by show (pc : Int) + df = _; omega, hk⟩
          | cons q L ih =>
            intro hq hk
            rw [List.map_cons] at hk
            unfold am_sw at hk
            obtain ⟨g1, g2, g3⟩ := hq q List.mem_cons_self
            by_cases hxq : x = Int32.ofInt q.1
            · rw [if_pos hxq] at hk
              have : x.toInt = q.1 := by rw [hxq]; exact am_i32 g2 g3
              exact ⟨((pc : Int) + q.2).toNat, by simp [Op.lookupswitch.offset, this]; omega, hk⟩
            · rw [if_neg hxq] at hk
              obtain ⟨tgt, i1, i2⟩ := ih (fun z hz => hq z (List.mem_cons_of_mem _ hz)) hk
              have : ¬ x.toInt = q.1 := fun e => hxq (Int32.toInt_inj.mp (by rw [e, am_i32 g2 g3]))
              refine ⟨tgt, ?_, i2⟩
              rw [← i1]
              simp [Op.lookupswitch.offset, this, Ne.symm this]
        obtain ⟨tgt, i1, i2⟩ := key ps.toList (fun q hq => of_decide_eq_true (List.all_eq_true.mp h4 q hq)) h
        exact lv_lookup hx hb hd h1 rfl i1 (kw i2 hls (t1 hst) H locs lsA hl hP hS)
      · cases h
    | getfield idx =>
      dsimp only at h
      simp only [am_chk, decide_eq_true_eq, Bool.and_eq_true] at hc
      obtain ⟨rfl, hb11, ha⟩ := hc
      split at h
      · rename_i k j r
        cases hk : Nat.beq k b with
        | false => rw [hk] at h; cases h
        | true =>
          rw [hk] at h
          have hkb := Nat.eq_of_beq_eq_true hk
          subst hkb
          have hj := am_ok_ob (hst _ List.mem_cons_self) hb11
          have hwd : Cond.fieldLink own idx (am_T k a).1 (am_T k a).2.1 (am_T k a).2.2.1 ∈ am_U := hw _ (by simp [am_need])
          simp only [cond_true] at h
          split at h
          · rename_i k2 hk2
            exact am_s_get C' hb11 ha hj hwd hd (v := .inr (k2, j)) (by unfold am_fv; rw [hk2]; rfl) (kw h hls (t2 (Or.inl (Nat.lt_of_lt_of_le hj (am_ft_ct k hb11 a ha k2 hk2))) (t1 hst)))
          · rename_i hk2
            cases hz : am_fz k a with
            | true => rw [hz] at h; exact am_s_get C' hb11 ha hj hwd hd (v := .inl (.int (am_b (M k j a)))) (by unfold am_fv; rw [hk2, hz]; rfl) (kw h hls (t2 trivial (t1 hst)))
            | false => rw [hz] at h; exact am_s_get C' hb11 ha hj hwd hd (v := .inl (.int (M k j a))) (by unfold am_fv; rw [hk2, hz]; rfl) (kw h hls (t2 trivial (t1 hst)))
      · cases h
    | putfield idx =>
      dsimp only at h
      simp only [am_chk, decide_eq_true_eq, Bool.and_eq_true] at hc
      obtain ⟨rfl, hb11, ha⟩ := hc
      split at h
      · rename_i x k j r
        cases hk : Nat.beq k b with
        | false => rw [hk] at h; cases h
        | true =>
          rw [hk] at h
          have hkb := Nat.eq_of_beq_eq_true hk
          subst hkb
          have hj := am_ok_ob (t1 hst _ List.mem_cons_self) hb11
          have hwd : Cond.fieldLink own idx (am_T k a).1 (am_T k a).2.1 (am_T k a).2.2.1 ∈ am_U := hw _ (by simp [am_need])
          simp only [cond_true] at h
          split at h
          · cases h
          · rename_i hk2
            cases hz : am_fz k a with
            | true =>
              rw [hz] at h
              simp only [cond_true] at h
              split at h
              · rename_i hbx
                exact am_s_put C' hb11 ha hj hwd hd hk2 (fun _ => hbx) (kw h hls (t1 (t1 hst)))
              · cases h
            | false => rw [hz] at h; exact am_s_put C' hb11 ha hj hwd hd hk2 (fun z => by rw [hz] at z; cases z) (kw h hls (t1 (t1 hst)))
      · cases h
    | getstatic idx =>
      dsimp only at h
      simp only [am_chk, decide_eq_true_eq, Bool.and_eq_true] at hc
      obtain ⟨rfl, ha⟩ := hc
      intro H locs lsA hl hP hS
      rcases ha with rfl | rfl
      · exact va_gets hx hb hRo.1 hS hown (hts _ (hw _ (by simp [am_need]))) (fun x h => h) hd (kw h hls (t2 (Or.inr ⟨Or.inl rfl, rfl⟩) hst) H locs lsA hl hP hS)
      · exact va_gets hx hb hRo.2.2.1 hS hown (hts _ (hw _ (by simp [am_need]))) (fun x h => h) hd (kw h hls (t2 (Or.inr ⟨Or.inr (Or.inl rfl), rfl⟩) hst) H locs lsA hl hP hS)
    | arraylength =>
      dsimp only at h
      simp only [am_chk, decide_eq_true_eq, Bool.and_eq_true] at hc
      subst hc
      split at h
      · rename_i k j r
        cases hk : (Nat.beq k 29 && Nat.beq rt 5) with
        | true =>
          rw [hk] at h
          simp only [Bool.and_eq_true] at hk
          have h29 := Nat.eq_of_beq_eq_true hk.1
          have h5 := Nat.eq_of_beq_eq_true hk.2
          subst h29
          obtain ⟨x1, x2, x3⟩ := hX h5
          have hj0 : j = 0 := by
            rcases hst _ List.mem_cons_self with q | q
            · exact absurd q (by rw [show am_ct 29 = 0 from rfl]; exact Nat.not_lt_zero _)
            · exact q.2
          subst hj0
          intro H locs lsA hl hP hS
          exact va_slen hx hb x1 x2 x3 hS hd (kw h hls (t2 trivial (t1 hst)) H locs lsA hl hP hS)
        | false =>
          rw [hk] at h
          simp only [cond_false] at h
          split at h
          · rename_i e1 n1 hk2
            have hj := am_ok_at (hst _ List.mem_cons_self) hk2
            by_cases he : e1 < 3
            · exact am_s_alen C' hk2 he hj hd (kw h hls (t2 trivial (t1 hst)))
            · exact am_s_alenq C' hk2 he hj hd (kw h hls (t2 trivial (t1 hst)))
          · cases h
      · cases h
    | iaload =>
      dsimp only at h
      simp only [am_chk, decide_eq_true_eq, Bool.and_eq_true] at hc
      subst hc
      split at h
      · rename_i x k j r
        cases hk : (Nat.beq k 27 || Nat.beq k 28) with
        | true =>
          rw [hk] at h
          simp only [cond_true] at h
          split at h
          · rename_i hin
            have h27 : k = 27 ∨ k = 28 := by
              simp only [Bool.or_eq_true] at hk
              exact hk.imp Nat.eq_of_beq_eq_true Nat.eq_of_beq_eq_true
            have hj0 : j = 0 := by
              rcases t1 hst _ List.mem_cons_self with q | q
              · rcases h27 with e | e
                · subst e; exact absurd q (by rw [show am_ct 27 = 0 from rfl]; exact Nat.not_lt_zero _)
                · subst e; exact absurd q (by rw [show am_ct 28 = 0 from rfl]; exact Nat.not_lt_zero _)
              · exact q.2
            subst hj0
            intro H locs lsA hl hP hS
            rcases h27 with e | e
            · subst e; exact va_ti hx hb hRo.2.1 hS (am_in_vp hin) rfl hd (kw h hls (t2 trivial (t1 (t1 hst))) H locs lsA hl hP hS)
            · subst e; exact va_ti hx hb hRo.2.2.2.1 hS (am_in_vp hin) rfl hd (kw h hls (t2 trivial (t1 (t1 hst))) H locs lsA hl hP hS)
          · cases h
        | false =>
          rw [hk] at h
          simp only [cond_false] at h
          cases hk9 : (Nat.beq k 29 && Nat.beq rt 5) with
          | true =>
            rw [hk9] at h
            simp only [Bool.and_eq_true] at hk9
            simp only [cond_true] at h
            have h29 := Nat.eq_of_beq_eq_true hk9.1
            have h5 := Nat.eq_of_beq_eq_true hk9.2
            subst h29
            obtain ⟨x1, x2, x3⟩ := hX h5
            have hj0 : j = 0 := by
              rcases t1 hst _ List.mem_cons_self with q | q
              · exact absurd q (by rw [show am_ct 29 = 0 from rfl]; exact Nat.not_lt_zero _)
              · exact q.2
            subst hj0
            split at h
            · rename_i hin
              intro H locs lsA hl hP hS
              exact va_sld hx hb x1 x2 x3 hS (am_in_vp hin) hd (kw h hls (t2 trivial (t1 (t1 hst))) H locs lsA hl hP hS)
            · cases h
          | false =>
            rw [hk9] at h
            simp only [cond_false] at h
            split at h
            · rename_i n hk2
              split at h
              · rename_i hin
                exact am_s_iald C' hk2 (am_ok_at (t1 hst _ List.mem_cons_self) hk2) hin hd (kw h hls (t2 trivial (t1 (t1 hst))))
              · cases h
            · cases h
      · cases h
    | iastore =>
      dsimp only at h
      simp only [am_chk, decide_eq_true_eq, Bool.and_eq_true] at hc
      subst hc
      split at h
      · split at h
        · rename_i n hk2
          split at h
          · rename_i hin
            exact am_s_iast C' hk2 (am_ok_at (t1 (t1 hst) _ List.mem_cons_self) hk2) hin hd (kw h hls (t1 (t1 (t1 hst))))
          · cases h
        · cases h
      · cases h
    | baload =>
      dsimp only at h
      simp only [am_chk, decide_eq_true_eq, Bool.and_eq_true] at hc
      subst hc
      split at h
      · split at h
        · rename_i n hk2
          split at h
          · rename_i hin
            exact am_s_baload C' hk2 (am_ok_at (t1 hst _ List.mem_cons_self) hk2) hin hd (kw h hls (t2 trivial (t1 (t1 hst))))
          · cases h
        · cases h
      · cases h
    | bastore =>
      dsimp only at h
      simp only [am_chk, decide_eq_true_eq, Bool.and_eq_true] at hc
      subst hc
      split at h
      · split at h
        · rename_i n hk2
          split at h
          · rename_i hin
            exact am_s_bast C' hk2 (am_ok_at (t1 (t1 hst) _ List.mem_cons_self) hk2) hin.1 hin.2 hd (kw h hls (t1 (t1 (t1 hst))))
          · cases h
        · cases h
      · cases h
    | laload =>
      dsimp only at h
      simp only [am_chk, decide_eq_true_eq, Bool.and_eq_true] at hc
      subst hc
      split at h
      · split at h
        · rename_i n hk2
          split at h
          · rename_i hin
            exact am_s_laload C' hk2 (am_ok_at (t1 hst _ List.mem_cons_self) hk2) hin hd (kw h hls (t2 trivial (t1 (t1 hst))))
          · cases h
        · cases h
      · cases h
    | lastore =>
      dsimp only at h
      simp only [am_chk, decide_eq_true_eq, Bool.and_eq_true] at hc
      subst hc
      split at h
      · split at h
        · rename_i n hk2
          split at h
          · rename_i hin
            exact am_s_last C' hk2 (am_ok_at (t1 (t1 hst) _ List.mem_cons_self) hk2) hin hd (kw h hls (t1 (t1 (t1 hst))))
          · cases h
        · cases h
      · cases h
    | aaload =>
      dsimp only at h
      simp only [am_chk, decide_eq_true_eq, Bool.and_eq_true] at hc
      subst hc
      split at h
      · rename_i x k j r
        split at h
        · rename_i e1 n1 hk2
          split at h
          · rename_i hin
            refine am_s_aald C' hk2 (am_ok_at (t1 hst _ List.mem_cons_self) hk2) hin hd (kw h hls (t2 (Or.inl ?_) (t1 (t1 hst))))
            have hv := am_ar_ct k (am_ar_lt hk2) e1 n1 hk2
            have := hin.2
            have h0 := hin.1
            show x.toNatClampNeg < am_ct e1
            have : x.toNatClampNeg = x.toInt.toNat := rfl
            omega
          · cases h
        · cases h
      · cases h
    | invokestatic idx =>
      dsimp only at h
      simp only [am_chk, decide_eq_true_eq, Bool.and_eq_true] at hc
      subst hc
      cases hq : (Nat.beq (st.take b).length b && Nat.ble (am_wt (st.drop b)) 8) with
      | false => rw [hq] at h; cases h
      | true =>
        rw [hq] at h
        simp only [Bool.and_eq_true] at hq
        simp only [cond_true] at h
        have q1 := Nat.eq_of_beq_eq_true hq.1
        have q2 := Nat.le_of_ble_eq_true hq.2
        have hav : ∀ v ∈ (st.take b).reverse, am_ok v := fun v hv => hst v (List.mem_of_mem_take (List.mem_reverse.mp hv))
        have hre : ∀ v ∈ st.drop b, am_ok v := fun v hv => hst v (List.mem_of_mem_drop hv)
        have est : (st.take b).reverse.reverse ++ st.drop b = st := by rw [List.reverse_reverse, List.take_append_drop]
        unfold am_ret at h
        unfold am_call at h
        cases hF : cs[a]? with
        | none => rw [hF] at h; cases h
        | some F =>
          rw [hF] at h
          simp only at h
          obtain ⟨q, hq3, hCal⟩ := hcs a F hF
          have hln : (st.take b).reverse.length = q.2.2.2.2.1 := by rw [List.length_reverse, q1]; exact (hcv pc _ _ _ _ _ q hat hq3).1 idx rfl
          cases hR : F (st.take b).reverse M with
          | none => rw [hR] at h; cases h
          | some res =>
            obtain ⟨ro, M1⟩ := res
            rw [hR] at h
            cases ro with
            | inl r =>
              simp only at h
              cases hvv : am_okv r with
              | false => rw [hvv] at h; cases h
              | true =>
              rw [hvv] at h
              simp only [cond_true] at h
              have hro := am_okv_ok hvv
              rw [← est]
              refine am_s_call C' (a := a) (b := b) (z := z) (idx := idx) (gc := gc) (gs := gs) hCal hroom (Or.inl ⟨rfl, ⟨fun w hw2 => hw w (by simp only [am_need]; rw [hq3]; exact List.mem_append_left _ hw2), am_lnk hq3 hw⟩, hln⟩) hd hR hav hre q2 (hK _ _ _ _ h hls (fun v hv => ?_))
              rcases List.mem_append.mp hv with h1 | h1
              · exact hro v (by cases r <;> simp at h1 ⊢; exact h1.symm)
              · exact hre v h1
            | inr E =>
              simp only at h
              rw [← est]
              refine hthr pc _ a b z ls _ _ M M1 E F hat hF hR ⟨Or.inl ⟨idx, rfl⟩, by rw [List.length_reverse]; exact q1, q2⟩ ?_ hls hav hre
              cases hcq : am_catch hs pc E with
              | none => rw [hcq] at h; cases h; exact Or.inl ⟨rfl, rfl, rfl⟩
              | some v => rw [hcq] at h; cases h; exact Or.inr ⟨v, rfl, rfl, rfl⟩
    | invokevirtual idx =>
      dsimp only at h
      simp only [am_chk, decide_eq_true_eq, Bool.and_eq_true] at hc
      obtain ⟨rfl, -⟩ := hc
      split at h
      · rename_i k2 k j as hta
        cases hq : (Nat.beq k k2 && Nat.beq (st.take b).length b && Nat.ble (am_wt (st.drop b)) 8) with
        | false => rw [hq] at h; cases h
        | true =>
          rw [hq] at h
          simp only [Bool.and_eq_true] at hq
          simp only [cond_true] at h
          have q0 := Nat.eq_of_beq_eq_true hq.1.1
          subst q0
          have q1 := Nat.eq_of_beq_eq_true hq.1.2
          have q2 := Nat.le_of_ble_eq_true hq.2
          have hav : ∀ v ∈ (.inr (k, j) :: as : List am_V), am_ok v := fun v hv => hst v (List.mem_of_mem_take (List.mem_reverse.mp (by rw [hta]; exact hv)))
          have hre : ∀ v ∈ st.drop b, am_ok v := fun v hv => hst v (List.mem_of_mem_drop hv)
          have est : (.inr (k, j) :: as : List am_V).reverse ++ st.drop b = st := by rw [← hta, List.reverse_reverse, List.take_append_drop]
          have hl1 : (.inr (k, j) :: as : List am_V).length = b := by rw [← hta, List.length_reverse]; exact q1
          unfold am_ret at h
          unfold am_call at h
          cases hF : cs[a]? with
          | none => rw [hF] at h; cases h
          | some F =>
            rw [hF] at h
            simp only at h
            obtain ⟨q, hq3, hCal⟩ := hcs a F hF
            obtain ⟨hn1, hn2⟩ := (hcv pc _ _ _ _ _ q hat hq3).2 idx k rfl rfl
            cases hR : F (.inr (k, j) :: as) M with
            | none => rw [hR] at h; cases h
            | some res =>
              obtain ⟨ro, M1⟩ := res
              rw [hR] at h
              cases ro with
              | inl r =>
                simp only at h
                cases hvv : am_okv r with
                | false => rw [hvv] at h; cases h
                | true =>
                rw [hvv] at h
                simp only [cond_true] at h
                have hro := am_okv_ok hvv
                rw [← est]
                refine am_s_call C' (a := a) (b := b) (z := .ref k) (idx := idx) (gc := gc) (gs := gs) hCal hroom (Or.inr ⟨rfl, fun w hw2 => hw w (by simp only [am_need]; rw [hq3]; exact hw2), k, j, as, rfl, by rw [List.length_cons] at hl1; omega, hn2⟩) hd hR hav hre q2 (hK _ _ _ _ h hls (fun v hv => ?_))
                rcases List.mem_append.mp hv with h1 | h1
                · exact hro v (by cases r <;> simp at h1 ⊢; exact h1.symm)
                · exact hre v h1
              | inr E =>
                simp only at h
                rw [← est]
                refine hthr pc _ a b (.ref k) ls _ _ M M1 E F hat hF hR ⟨Or.inr ⟨idx, k, j, as, rfl, rfl, rfl⟩, hl1, q2⟩ ?_ hls hav hre
                cases hcq : am_catch hs pc E with
                | none => rw [hcq] at h; cases h; exact Or.inl ⟨rfl, rfl, rfl⟩
                | some v => rw [hcq] at h; cases h; exact Or.inr ⟨v, rfl, rfl, rfl⟩
      · cases h
    | return_ =>
      dsimp only at h
      simp only [am_chk, decide_eq_true_eq] at hc
      subst hc
      cases hf : am_fin rt .return_ ls st with
      | none => rw [hf] at h; cases h
      | some o2 => rw [hf] at h; cases h; exact hfin pc _ a b z ls st hat hf hls hst
    | ireturn =>
      dsimp only at h
      simp only [am_chk, decide_eq_true_eq] at hc
      subst hc
      cases hf : am_fin rt .ireturn ls st with
      | none => rw [hf] at h; cases h
      | some o2 => rw [hf] at h; cases h; exact hfin pc _ a b z ls st hat hf hls hst
    | lreturn =>
      dsimp only at h
      simp only [am_chk, decide_eq_true_eq] at hc
      subst hc
      cases hf : am_fin rt .lreturn ls st with
      | none => rw [hf] at h; cases h
      | some o2 => rw [hf] at h; cases h; exact hfin pc _ a b z ls st hat hf hls hst
    | areturn =>
      dsimp only at h
      simp only [am_chk, decide_eq_true_eq] at hc
      subst hc
      cases hf : am_fin rt .areturn ls st with
      | none => rw [hf] at h; cases h
      | some o2 => rw [hf] at h; cases h; exact hfin pc _ a b z ls st hat hf hls hst
    | _ => simp [am_fin] at h
theorem am_run_ok (C : am_Cx p s m args c dC dI ad cy cc own nL) {cs : List am_F} {hs : List (Nat × Nat × String × Value)} {rt : Nat} {X : Nat × (Nat → Int32)} {P : am_P} {ci : List am_C} {gc gs : Nat}
    (hrow : ∀ (pc : Nat) (r : am_Row), am_at P pc = some r → decode cc pc = .ok (r.1, r.2.1) ∧ am_chk nL pc r = true ∧ ∀ w ∈ am_need own ci r, w ∈ am_U)
    (hcs : ∀ (a : Nat) (F : am_F), cs[a]? = some F → ∃ q : am_C, ci[a]? = some q ∧ am_Cal l dC dI ad cy R gc gs q F)
    (hcv : ∀ (pc : Nat) (i : Instr) (len a b : Nat) (z : Value) (q : am_C), am_at P pc = some (i, len, a, b, z) → ci[a]? = some q → (∀ idx, i = .invokestatic idx → b = q.2.2.2.2.1) ∧ (∀ idx k, i = .invokevirtual idx → z = .ref k → b = q.2.2.2.2.1 + 1 ∧ q.2.2.2.1 = some k))
    (hX : am_Sc rt ad X s) {o : am_O} {Mf : am_M} {Cm Sm : Nat} (hCm : Cm ≤ R.cells) (hSm : Sm ≤ R.slots)
    (hfin : ∀ (cells slots pc : Nat) (i : Instr) (a b : Nat) (z : Value) (ls st : List am_V), cells ≤ Cm → slots ≤ Sm → am_at P pc = some (i, 1, a, b, z) → am_fin rt i ls st = some o → (∀ v ∈ ls, am_ok v) → (∀ v ∈ st, am_ok v) → am_Wp p l e R s m args below meth c Q dC dI ad cy nL cells slots pc ls st Mf)
    (hthr : ∀ (cells slots pc : Nat) (i : Instr) (a b : Nat) (z : Value) (ls av rest : List am_V) (M M1 : am_M) (E : String) (F : am_F), cells ≤ Cm → slots ≤ Sm → am_at P pc = some (i, 3, a, b, z) → cs[a]? = some F → F av M = some (.inr E, M1) → am_Cl i z b av rest → (am_catch hs pc E = none ∧ o = .inr E ∧ Mf = M1 ∨ ∃ v, am_catch hs pc E = some v ∧ o = .inl (some (.inl v)) ∧ Mf = M1) → (∀ v ∈ ls, am_ok v) → (∀ v ∈ av, am_ok v) → (∀ v ∈ rest, am_ok v) → am_Wp p l e R s m args below meth c Q dC dI ad cy nL cells slots pc ls (av.reverse ++ rest) M) :
    ∀ (n cells slots pc : Nat) (ls st : List am_V) (M : am_M), cells + n * gc ≤ Cm → slots + n * gs ≤ Sm → (∀ v ∈ ls, am_ok v) → (∀ v ∈ st, am_ok v) → am_run cs hs rt X P n pc ls st M = some (o, Mf) → am_Wp p l e R s m args below meth c Q dC dI ad cy nL cells slots pc ls st M := by
  intro n
  induction n with
  | zero => intro cells slots pc ls st M _ _ _ _ h; cases h
  | succ n ih =>
    intro cells slots pc ls st M h1 h2 h3 h4 h
    rw [Nat.succ_mul] at h1 h2
    exact am_step_ok C hrow hcs hcv hX ⟨by omega, by omega⟩ (fun pc' ls' st' M' hk q1 q2 => ih (cells + gc) (slots + gs) pc' ls' st' M' (by omega) (by omega) q1 q2 hk)
      (fun pc' i a b z ls' st' => hfin cells slots pc' i a b z ls' st' (by omega) (by omega)) (fun pc' i a b z ls' av rest M' M1 E F => hthr cells slots pc' i a b z ls' av rest M' M1 E F (by omega) (by omega)) pc ls st M h3 h4 h
end AMU
end
section
/-! ===== a method's contract out of its rows ===== -/
def am_rtc (rt : Nat) (ret : Option FieldType) : Prop := match rt with
  | 0 => ret = none
  | 1 => ret = some .int
  | 2 => ret = some .boolean
  | 3 => ret = some .long
  | 4 => ∃ n, ret = some (.object n)
  | _ => False
theorem am_lay_len {ad : Nat → Nat → Nat} : ∀ {av : List am_V}, (∀ v ∈ av, am_ok v) → (lg_sl (av.map (am_co ad))).length = (am_lay av).length
  | [], _ => rfl
  | v :: l, h => by
    have ih := am_lay_len (ad := ad) (av := l) (fun w hw => h w (List.mem_cons_of_mem _ hw))
    have e : lg_sl ((v :: l).map (am_co ad)) = (if (am_co ad v).category = 2 then [Slot.val (am_co ad v), .second] else [.val (am_co ad v)]) ++ lg_sl (l.map (am_co ad)) := rfl
    rw [e, List.length_append, ih]
    cases v with
    | inl w =>
      cases w with
      | long x => show 2 + _ = (am_lay l).length + 1 + 1; omega
      | double x => exact absurd (h _ List.mem_cons_self) id
      | int x => show 1 + _ = (am_lay l).length + 1; omega
      | null => show 1 + _ = (am_lay l).length + 1; omega
      | float x => show 1 + _ = (am_lay l).length + 1; omega
      | ref x => show 1 + _ = (am_lay l).length + 1; omega
      | _ => show 1 + _ = (am_lay l).length + 1; omega
    | inr q => show 1 + _ = (am_lay l).length + 1; omega
theorem am_lay_args {ad : Nat → Nat → Nat} : ∀ {av : List am_V} {n : Nat}, (∀ v ∈ av, am_ok v) → ∀ q ∈ am_lv ad n (am_lay av), q ∈ lv_args n (av.map (am_co ad))
  | [], n, _, q, h => by cases h
  | v :: l, n, hok, q, h => by
    have h' : ∀ w ∈ l, am_ok w := fun w hw => hok w (List.mem_cons_of_mem _ hw)
    have one : ∀ (w : am_V), (am_co ad w).category = 1 → q ∈ am_lv ad n (w :: am_lay l) → q ∈ lv_args n ((w :: l).map (am_co ad)) := by
      intro w hc hq
      rw [List.map_cons]
      unfold lv_args
      rw [if_neg (by rw [hc]; decide)]
      unfold am_lv at hq
      cases hd : am_isD w with
      | true => rw [hd] at hq; exact List.mem_cons_of_mem _ (am_lay_args h' q hq)
      | false =>
        rw [hd] at hq
        rcases List.mem_cons.mp hq with e | e
        · exact List.mem_cons.mpr (Or.inl e)
        · exact List.mem_cons_of_mem _ (am_lay_args h' q e)
    cases v with
    | inl w =>
      cases w with
      | long x =>
        rw [List.map_cons]
        unfold lv_args
        rw [if_pos (show (am_co ad (.inl (.long x))).category = 2 from rfl)]
        rcases List.mem_cons.mp (show q ∈ (n, am_co ad (.inl (.long x))) :: am_lv ad (n + 1 + 1) (am_lay l) from h) with e | e
        · exact List.mem_cons.mpr (Or.inl e)
        · exact List.mem_cons_of_mem _ (am_lay_args h' q e)
      | double x => exact absurd (hok _ List.mem_cons_self) id
      | int x => exact one _ rfl h
      | null => exact one _ rfl h
      | float x => exact one _ rfl h
      | ref x => exact one _ rfl h
      | _ => exact one _ rfl h
    | inr z => exact one _ rfl h
theorem am_lv_rep {ad : Nat → Nat → Nat} : ∀ (l : List am_V) (n k : Nat), am_lv ad n (l ++ List.replicate k am_D) = am_lv ad n l
  | [], n, 0 => rfl
  | [], n, k + 1 => by
    rw [List.nil_append, List.replicate_succ]
    show am_lv ad (n + 1) (List.replicate k am_D) = _
    exact am_lv_rep [] (n + 1) k
  | v :: l, n, k => by
    rw [List.cons_append]
    unfold am_lv
    rw [am_lv_rep l (n + 1) k]
theorem am_lay_ok : ∀ {av : List am_V}, (∀ v ∈ av, am_ok v) → ∀ v ∈ am_lay av, am_ok v
  | [], _, v, h => by cases h
  | w :: l, hok, v, h => by
    have h' : ∀ w ∈ l, am_ok w := fun w hw => hok w (List.mem_cons_of_mem _ hw)
    have one : ∀ w : am_V, am_ok w → v ∈ w :: am_lay l → am_ok v := fun w hw hv => (List.mem_cons.mp hv).elim (fun e => e ▸ hw) (am_lay_ok h' v)
    have hw := hok w List.mem_cons_self
    cases w with
    | inl w =>
      cases w with
      | long x =>
        rcases List.mem_cons.mp h with e | e
        · rw [e]; exact trivial
        · exact one am_D trivial e
      | double x => exact absurd hw id
      | int x => exact one _ hw h
      | null => exact one _ hw h
      | float x => exact one _ hw h
      | ref x => exact one _ hw h
      | _ => exact one _ hw h
    | inr z => exact one _ hw h
theorem am_ent_ok {av : List am_V} {n : Nat} (h : ∀ v ∈ av, am_ok v) : ∀ v ∈ am_ent n av, am_ok v := by
  intro v hv
  rcases List.mem_append.mp hv with e | e
  · exact am_lay_ok h v e
  · rw [List.eq_of_mem_replicate e]; exact trivial
section AMX
variable {l : Launch} {dC : Nat → ClassId} {dI : Nat → Nat → Nat} {ad : Nat → Nat → Nat} {cy : Nat → ClassId}
theorem am_ofW {y : MethodName} {ws ws' : List Cond} {rm : Room} {Pc : Array Value → State → Prop} {Qc : Array Value → State → Outcome → State → Prop} {mc ms : Nat} {free : Addr → Prop} {cc : ByteArray} {maxL : Nat} {ret : Option FieldType}
    (hy : plainFor y = true) (hw : ws = Cond.code y cc maxL ret :: ws')
    (body : ∀ p e s m args below meth c s₁, BodyLoose p l y (headSpec ws rm) cc maxL ret e s m args below meth c s₁ → c.maxLocals = maxL → Pc args s →
      W p l e (headSpec ws rm).room s m args below meth c s.heap [] 0 0 (MQ below Qc args s mc ms free) (entryFrame m args maxL)) : Met l y ws rm Pc Qc mc ms free := by
  refine MetFree.of_bodySF (code := cc) (maxLocals := maxL) (ret := ret) hy ?_ ?_
  · intro args s m h hn
    obtain ⟨meth, c, h1, h2, h3, h4, h5, h6, -, -⟩ := Cond.code_spec hn (atoms_spec (ws := ws) h _ (by rw [hw]; exact List.mem_cons_self))
    exact ⟨meth, c, h1, h2, h3, h4, h5, h6⟩
  · intro p e s m args below meth c s₁ B hml hP _
    have hh0 : s₁.heap = s.heap := by rw [B.state]; rfl
    obtain ⟨t, a1, o, b1, b2, b3⟩ := body p e s m args below meth c s₁ B hml hP s₁ hh0 (Stand.of_body B)
    exact ⟨t, o, a1, b1, b2, ⟨b3.1, b3.2⟩⟩
theorem am_meth_ok {y : MethodName} {cc : ByteArray} {nL N rt : Nat} {ret : Option FieldType} {rm : Room} {cs : List am_F} {ci : List am_C} {P : am_P} (hy : plainFor y = true) (hrt : am_rtc rt ret) (hrm : rm.cells = 0 ∧ rm.slots = 0)
    (hrow : ∀ (pc : Nat) (r : am_Row), am_at P pc = some r → decode cc pc = .ok (r.1, r.2.1) ∧ am_chk nL pc r = true ∧ ∀ w ∈ am_need y.cls ci r, w ∈ am_U)
    (hcs : ∀ (a : Nat) (F : am_F), cs[a]? = some F → ∃ q : am_C, ci[a]? = some q ∧ am_Cal l dC dI ad cy rm 0 0 q F)
    (hcv : ∀ (pc : Nat) (i : Instr) (len a b : Nat) (z : Value) (q : am_C), am_at P pc = some (i, len, a, b, z) → ci[a]? = some q → (∀ idx, i = .invokestatic idx → b = q.2.2.2.2.1) ∧ (∀ idx k, i = .invokevirtual idx → z = .ref k → b = q.2.2.2.2.1 + 1 ∧ q.2.2.2.1 = some k)) :
    am_Ok l dC dI ad cy y (.code y cc nL ret) rm (am_meth cs [] rt nL N P) := by
  intro av M M' r hav hF
  unfold am_meth at hF
  cases hle : Nat.ble (am_lay av).length nL with
  | false => rw [hle] at hF; cases hF
  | true =>
    rw [hle] at hF
    simp only [cond_true] at hF
    have hle := Nat.le_of_ble_eq_true hle
    rw [hrm.1, hrm.2]
    refine am_ofW (cc := cc) (maxL := nL) (ret := ret) hy rfl ?_
    intro p e s m args below meth c s₁ B hml hv
    obtain ⟨rfl, hP, hK, hD, hRo, hNk⟩ := hv
    have hx := B.exec
    have hb := B.bytes
    have hr := B.returns
    have hlocks := B.notSynchronized
    have hts0 := atoms_spec (ws := Cond.code y cc nL ret :: am_U) B.pre
    have hown : s.vm.findClass y.cls = some m.cls := findClass_of_methodNamed B.named
    have C : am_Cx p s m (av.map (am_co ad)).toArray c dC dI ad cy cc y.cls nL := ⟨hx, hb, hml, hown, fun w hw => hts0 w (List.mem_cons_of_mem _ hw), hK, fun M2 => am_D_of hD (fun _ _ _ h => h) M2, hRo, hNk⟩
    have hl := lv_entry (av.map (am_co ad)) (n := nL) (by rw [am_lay_len hav]; exact hle)
    rw [lg_entry_eq]
    refine am_run_ok (Q := MQ below (am_Q dC dI ad cy r M') (av.map (am_co ad)).toArray s 0 0 (am_A ad)) (o := .inl r) (Mf := M') (Cm := 0) (Sm := 0) (gc := 0) (gs := 0) C hrow hcs hcv ?_ (Nat.zero_le _) (Nat.zero_le _) ?_ ?_ N 0 0 0 (am_ent nL av) [] M (by omega) (by omega) (am_ent_ok hav) (fun _ h => nomatch h) hF s.heap [] _ ?_ hP va_S.rf
    · intro h5
      subst h5
      exact absurd hrt id
    · intro cells slots pc i a b z ls st h1 h2 hat hf hls hst H locs lsA hl hP hS
      obtain rfl : cells = 0 := by omega
      obtain rfl : slots = 0 := by omega
      obtain ⟨hd, -, -⟩ := hrow pc _ hat
      simp only at hd
      have hq : ∀ t : State, t.heap = H → s.WarmedH t.vm → am_Q dC dI ad cy r M' (av.map (am_co ad)).toArray s (.returned (r.map (am_co ad))) t := fun t ht _ => ⟨rfl, by rw [ht]; exact hP, hS.F ht⟩
      cases i with
      | return_ =>
        simp only [am_fin] at hf
        split at hf
        · cases h0 : Nat.beq rt 0 with
          | false => rw [h0] at hf; cases hf
          | true =>
            rw [h0] at hf
            have e0 := Nat.eq_of_beq_eq_true h0
            subst e0
            cases hf
            exact W.vret hx hb (hr.trans hrt) hq hS.2.2 hd hlocks
        · cases hf
      | ireturn =>
        simp only [am_fin] at hf
        split at hf
        · cases h0 : (Nat.beq rt 1 || Nat.beq rt 5) with
          | true =>
            rw [h0] at hf
            have e0 : rt = 1 := by
              rcases Bool.or_eq_true_iff.mp h0 with z | z
              · exact Nat.eq_of_beq_eq_true z
              · have e5 := Nat.eq_of_beq_eq_true z; subst e5; exact absurd hrt id
            subst e0
            cases hf
            exact W.iret hx hb (hr.trans hrt) hq hS.2.2 hd hlocks
          | false =>
            rw [h0] at hf
            simp only [cond_false] at hf
            cases h2 : Nat.beq rt 2 with
            | false => rw [h2] at hf; cases hf
            | true =>
              rw [h2] at hf
              simp only [cond_true] at hf
              have e0 := Nat.eq_of_beq_eq_true h2
              subst e0
              split at hf
              · rename_i hbx
                cases hf
                refine W.zret (ty := .boolean) hx hb (hr.trans hrt) ?_ hq hS.2.2 hd hlocks
                rcases am_b01 hbx with e | e <;> rw [e] <;> rfl
              · cases hf
        · cases hf
      | lreturn =>
        simp only [am_fin] at hf
        split at hf
        · cases h0 : Nat.beq rt 3 with
          | false => rw [h0] at hf; cases hf
          | true =>
            rw [h0] at hf
            have e0 := Nat.eq_of_beq_eq_true h0
            subst e0
            cases hf
            exact W.lret hx hb (hr.trans hrt) hq hS.2.2 hd hlocks
        · cases hf
      | areturn =>
        have fin : ∀ {v : am_V}, (am_co ad v = .null ∨ ∃ a, am_co ad v = .ref a) → cond (Nat.beq rt 4) (some (.inl (some v))) none = some (Sum.inl r : am_O) → W p l e (headSpec (Cond.code y cc nL ret :: am_U) rm).room s m (av.map (am_co ad)).toArray below meth c H locs 0 0 (MQ below (am_Q dC dI ad cy r M') (av.map (am_co ad)).toArray s 0 0 (am_A ad)) (F0 m pc lsA [am_co ad v]) := by
          intro v hv hg
          cases h0 : Nat.beq rt 4 with
          | false => rw [h0] at hg; cases hg
          | true =>
            rw [h0] at hg
            have e0 := Nat.eq_of_beq_eq_true h0
            subst e0
            cases hg
            obtain ⟨n, hn⟩ := hrt
            exact W.aret hx hb (hr.trans hn) (Or.inl ⟨n, rfl⟩) hv hq hS.2.2 hd hlocks
        simp only [am_fin] at hf
        split at hf
        · exact fin (Or.inr ⟨_, rfl⟩) hf
        · exact fin (Or.inl rfl) hf
        · cases hf
      | _ => simp [am_fin] at hf
    · intro cells slots pc i a b z ls av2 rest M2 M1 E F h1 h2 hat hF2 hR hCl ho hls hav2 hre
      exfalso
      rcases ho with ⟨-, h, -⟩ | ⟨v, h, -⟩
      · cases h
      · simp [am_catch] at h
    · refine ⟨hl.1, hl.2.1, fun q hq => hl.2.2 q (am_lay_args hav q ?_)⟩
      unfold am_ent at hq
      rw [am_lv_rep] at hq
      exact hq
end AMX
end
section
/-! ===== throwing: the four that throw, and a method that lets a callee's exception through ===== -/
def am_XC (dC : Nat → ClassId) (dI : Nat → Nat → Nat) (ad : Nat → Nat → Nat) (cy : Nat → ClassId) (E : String) (M : am_M) : String → State → State → Prop := fun E' st t =>
  E' = E ∧ va_P (dC, dI) vwCl (am_W ad cy M) t.heap ∧ va_F (am_A ad) st t
def am_rT (rm : Room) : Room := { frames := rm.frames, cells := 1, slots := 6, locals := rm.locals }
/-- the contract of a method where its meaning is a throw -/
def am_OkT (l : Launch) (dC : Nat → ClassId) (dI : Nat → Nat → Nat) (ad : Nat → Nat → Nat) (cy : Nat → ClassId) (y : MethodName) (w : Cond) (rm : Room) (F : am_F) : Prop :=
  ∀ (av : List am_V) (M M' : am_M) (E : String), (∀ v ∈ av, am_ok v) → F av M = some (.inr E, M') →
    vx_Met l y (w :: am_U) (am_rT rm) (va_Pc (av.map (am_co ad)) (am_St dC dI ad cy M)) (fun _ _ _ _ => False) (am_XC dC dI ad cy E M') 1 6 (am_A ad)
section AMZ
variable {p : Program} {l : Launch} {e : Env} {R : Room} {s : State} {m : MethodId} {args : Array Value} {below : List Frame} {meth : Method} {c : Code} {Q : State → Prop}
variable {dC : Nat → ClassId} {dI : Nat → Nat → Nat} {ad : Nat → Nat → Nat} {cy : Nat → ClassId} {cc : ByteArray} {own : String} {nL : Nat}
/-- a callee in its throwing mode, as its caller needs it -/
def am_CalT (l : Launch) (dC : Nat → ClassId) (dI : Nat → Nat → Nat) (ad : Nat → Nat → Nat) (cy : Nat → ClassId) (R : Room) (q : am_C) (F : am_F) : Prop := match q with
  | (y, w, rm, rc, np, mL) => am_OkT l dC dI ad cy y w rm F ∧ w ∈ am_U ∧ rm.frames + 1 ≤ R.frames ∧ 8 + (mL + 11) + rm.locals ≤ R.locals ∧
    (y.cls ≠ "java/lang/invoke/MethodHandle" ∧ y.cls ≠ "java/lang/invoke/VarHandle" ∧ (parseMethodDescriptor y.desc).map (fun d => d.parameters.length) = some np) ∧
    (match rc with | some k => k < 11 ∧ y.cls = am_N k | none => True) ∧ ∃ bytes ret, w = .code y bytes mL ret
theorem am_backT {H : Heap} {locs : List Loc} {cells slots pc : Nat} {lsA : Array Slot} {st0 rest : List Value} {a' : Array Value} {E : String} {M' : am_M} (hr : vx_Run p l e R s m args below meth c H locs cells slots 1 6 (F0 m pc lsA st0) rest ((fun (_ : Array Value) (_ : State) (_ : Outcome) (_ : State) => False) a') (am_XC dC dI ad cy E M') (am_A ad)) (hS : va_S (am_A ad) s.heap H locs)
    (kk : ∀ (H1 : Heap) (locs1 : List Loc) (q : Addr) (ce : Cell), va_P (dC, dI) vwCl (am_W ad cy M') H1 → va_S (am_A ad) s.heap H1 locs1 → H1[q]? = some ce → ce.vm = .none → s.vm.findClass E = some ce.cls → vx_W p l e R s m args below meth c H1 locs1 (cells + 1) (slots + 6) Q (F0 m pc lsA rest) q) : W p l e R s m args below meth c H locs cells slots Q (F0 m pc lsA st0) := by
  intro T hT X
  rcases hr T hT X with ⟨v, st₀, t, T', L, h0, X', hL, e1, e2, hF, st⟩ | ⟨q, st₀, t, T', L, E', ce, h0, X', hL, e1, e2, ⟨rfl, hP, hz, hk⟩, hce, hcv, hcl, st⟩
  · exact absurd hF id
  · rw [h0] at hz hk
    obtain ⟨t2, a1, b1⟩ := kk T'.heap (locs ++ L) q ce (by rw [e1]; exact hP)
      ⟨Nat.le_trans hS.1 (by rw [e1]; exact hz), fun q h1 h2 => by rw [e1, hk q (Nat.lt_of_lt_of_le h1 hS.1) h2]; exact hS.2.1 q h1 h2, fun q hq => by
        rcases List.mem_append.mp hq with h | h
        · exact hS.2.2 q h
        · exact hL q h⟩ (by rw [e1]; exact hce) hcv hcl T' rfl X'
    exact ⟨t2, st.trans a1, b1⟩
theorem am_s_callT (C : am_Cx p s m args c dC dI ad cy cc own nL) {cells slots pc idx : Nat} {i : Instr} {ls av rest : List am_V} {M M' : am_M} {E : String} {q : am_C} {F : am_F} (hq : am_CalT l dC dI ad cy R q F) (hroom : cells + 1 ≤ R.cells ∧ slots + 6 ≤ R.slots)
    (hi : i = .invokestatic idx ∧ ((∀ w ∈ ([.static q.1, .initialized q.1.cls] : List Cond), w ∈ am_U) ∧ Cond.methodLink own idx q.1 ∈ am_U) ∧ av.length = q.2.2.2.2.1 ∨ i = .invokevirtual idx ∧ (∀ w ∈ ([.methodLink own idx q.1, .instanceMethod q.1, .selects q.1.cls q.1 q.1, .initialized q.1.cls] : List Cond), w ∈ am_U) ∧ ∃ k j as, av = .inr (k, j) :: as ∧ as.length = q.2.2.2.2.1 ∧ q.2.2.2.1 = some k)
    (hd : decode cc pc = .ok (i, 3)) (hF : F av M = some (.inr E, M')) (hav : ∀ v ∈ av, am_ok v) (hrest : ∀ v ∈ rest, am_ok v) (hwt : am_wt rest ≤ 8)
    (kk : ∀ (H1 : Heap) (locs1 : List Loc) (lsA : Array Slot) (q : Addr) (ce : Cell), lv_has lsA nL (am_lv ad 0 ls) → va_P (dC, dI) vwCl (am_W ad cy M') H1 → va_S (am_A ad) s.heap H1 locs1 → H1[q]? = some ce → ce.vm = .none → s.vm.findClass E = some ce.cls → vx_W p l e R s m args below meth c H1 locs1 (cells + 1) (slots + 6) Q (F0 m pc lsA (rest.map (am_co ad))) q) : am_Wp p l e R s m args below meth c Q dC dI ad cy nL cells slots pc ls (av.reverse ++ rest) M := by
  obtain ⟨y, w, rm, rc, np, mL⟩ := q
  obtain ⟨hOk, hw, hfr, hlo, hyd, hrc, bytes, ret, rfl⟩ := hq
  have hM := hOk av M M' E hav hF
  intro H locs lsA hl hP hS
  have C' := C
  obtain ⟨hx, hbb, hml, hown, hts, hK, hD, hRo, hNk⟩ := C
  have hsum : 2 * 0 + ((rest.map (am_co ad)).map fun v => v.category).sum ≤ 8 := by have := am_wt_le (ad := ad) hrest; omega
  have hst : (F0 m pc lsA ((av.reverse ++ rest).map (am_co ad))).stack = (av.map (am_co ad)).reverse ++ rest.map (am_co ad) := by
    show (av.reverse ++ rest).map (am_co ad) = _
    rw [List.map_append, List.map_reverse]
  rcases hi with ⟨rfl, hn, hlen⟩ | ⟨rfl, hn, k, j, as, rfl, hlen, hk⟩
  · obtain ⟨hn0, hm⟩ := hn
    have three : ∀ w ∈ ([.methodLink own idx y, .static y, .initialized y.cls] : List Cond), w ∈ am_U := by
      intro w hw3
      rcases List.mem_cons.mp hw3 with rfl | hw3
      · exact hm
      · exact hn0 w hw3
    refine am_backT (a' := (av.map (am_co ad)).toArray) (vx_runS ⟨hx, hbb, hml, hown, hts⟩ hM (va_cwS np hts ?_ rfl rfl rfl hyd ⟨hfr, hlo⟩) ⟨am_St_blind, am_pre (C0 := C') hP hS⟩ rfl (by rw [List.length_map]; exact hlen) hl.1 hst hsum hd hroom) hS (fun H1 locs1 q ce h1 h2 => kk H1 locs1 lsA q ce hl h1 h2)
    intro w hw2
    rcases List.mem_append.mp (show w ∈ ([.methodLink own idx y, .static y, .initialized y.cls] : List Cond) ++ (Cond.code y bytes mL ret :: am_U) from hw2) with h | h
    · exact ⟨three w h, good_of_word (List.mem_filter.mp (three w h)).2⟩
    · exact am_good _ hw w h
  · have hk' : rc = some k := hk
    subst hk'
    obtain ⟨hk11, hyc⟩ := hrc
    have hjk : j < am_ct k := am_ok_ob (hav _ List.mem_cons_self) hk11
    obtain ⟨q0, h1, -⟩ := am_obj (ad := ad) (cy := cy) (M := M) hk11 hjk
    refine am_backT (a' := (((.inr (k, j) :: as : List am_V)).map (am_co ad)).toArray) (vx_runV (C := y.cls) (b := ad k j) (As := as.map (am_co ad)) (rest := rest.map (am_co ad)) ⟨hx, hbb, hml, hown, hts⟩ hM (cwV np hts ?_ rfl rfl rfl ⟨rfl, hyd⟩ ⟨hfr, hlo⟩) ⟨am_St_blind, ?_, am_pre (C0 := C') (av := .inr (k, j) :: as) hP hS⟩ rfl (by rw [List.length_map]; exact hlen) hl.1 ?_ hsum hd hroom) hS (fun H1 locs1 q ce h1 h2 => kk H1 locs1 lsA q ce hl h1 h2)
    · intro w hw2
      rcases List.mem_append.mp (show w ∈ ([.methodLink own idx y, .instanceMethod y, .selects y.cls y y, .initialized y.cls] : List Cond) ++ (Cond.code y bytes mL ret :: am_U) from hw2) with h | h
      · exact ⟨hn w h, good_of_word (List.mem_filter.mp (hn w h)).2⟩
      · exact am_good _ hw w h
    · have := va_recv hK hP (am_cl_at k hk11) h1
      rw [hyc]
      exact this
    · rw [hst, List.map_cons, List.reverse_cons, List.append_assoc]
      rfl
/-- a method that lets a callee's exception through -/
theorem am_meth_okT {y : MethodName} {cc : ByteArray} {nL N rt : Nat} {ret : Option FieldType} {rm : Room} {cs : List am_F} {ci : List am_C} {P : am_P} (hy : plainName y.cls = true) (hrt : am_rtc rt ret)
    (hrow : ∀ (pc : Nat) (r : am_Row), am_at P pc = some r → decode cc pc = .ok (r.1, r.2.1) ∧ am_chk nL pc r = true ∧ ∀ w ∈ am_need y.cls ci r, w ∈ am_U)
    (hcs : ∀ (a : Nat) (F : am_F), cs[a]? = some F → ∃ q : am_C, ci[a]? = some q ∧ am_Cal l dC dI ad cy (am_rT rm) 0 0 q F)
    (hcT : ∀ (a : Nat) (F : am_F) (q : am_C), cs[a]? = some F → ci[a]? = some q → (∃ av M E M', F av M = some (.inr E, M')) → am_CalT l dC dI ad cy (am_rT rm) q F ∧ ∀ idx, (y.cls, idx, q.1, RX9) ∉ am_nl)
    (hcv : ∀ (pc : Nat) (i : Instr) (len a b : Nat) (z : Value) (q : am_C), am_at P pc = some (i, len, a, b, z) → ci[a]? = some q → (∀ idx, i = .invokestatic idx → b = q.2.2.2.2.1) ∧ (∀ idx k, i = .invokevirtual idx → z = .ref k → b = q.2.2.2.2.1 + 1 ∧ q.2.2.2.1 = some k)) :
    am_OkT l dC dI ad cy y (.code y cc nL ret) rm (am_meth cs [] rt nL N P) := by
  intro av M M' E hav hF
  unfold am_meth at hF
  cases hle : Nat.ble (am_lay av).length nL with
  | false => rw [hle] at hF; cases hF
  | true =>
    rw [hle] at hF
    simp only [cond_true] at hF
    have hle := Nat.le_of_ble_eq_true hle
    refine vx_ofW (cc := cc) (maxL := nL) (ret := ret) hy rfl ?_
    intro p e s m args below meth c s₁ B hml hext hv
    obtain ⟨rfl, hP, hK, hD, hRo, hNk⟩ := hv
    have hx := B.exec
    have hb := B.bytes
    have hlocks := B.notSynchronized
    have hts0 := atoms_spec (ws := Cond.code y cc nL ret :: am_U) B.pre
    have hown : s.vm.findClass y.cls = some m.cls := findClass_of_methodNamed B.named
    have C : am_Cx p s m (av.map (am_co ad)).toArray c dC dI ad cy cc y.cls nL := ⟨hx, hb, hml, hown, fun w hw => hts0 w (List.mem_cons_of_mem _ hw), hK, fun M2 => am_D_of hD (fun _ _ _ h => h) M2, hRo, hNk⟩
    have hl := lv_entry (av.map (am_co ad)) (n := nL) (by rw [am_lay_len hav]; exact hle)
    rw [lg_entry_eq]
    refine am_run_ok (Q := vx_MQ below (fun _ _ _ _ => False) (am_XC dC dI ad cy E M') (av.map (am_co ad)).toArray s 1 6 (am_A ad)) (o := .inr E) (Mf := M') (Cm := 0) (Sm := 0) (gc := 0) (gs := 0) C hrow hcs hcv ?_ (Nat.zero_le _) (Nat.zero_le _) ?_ ?_ N 0 0 0 (am_ent nL av) [] M (by omega) (by omega) (am_ent_ok hav) (fun _ h => nomatch h) hF s.heap [] _ ?_ hP va_S.rf
    · intro h5
      subst h5
      exact absurd hrt id
    · intro cells slots pc i a b z ls st h1 h2 hat hf hls hst
      exfalso
      cases i with
      | return_ => simp only [am_fin] at hf; split at hf <;> first | (cases hq : Nat.beq rt 0 <;> rw [hq] at hf <;> cases hf) | cases hf
      | ireturn =>
        simp only [am_fin] at hf
        split at hf
        · cases hq : (Nat.beq rt 1 || Nat.beq rt 5) with
          | true => rw [hq] at hf; cases hf
          | false =>
            rw [hq] at hf
            simp only [cond_false] at hf
            cases hq2 : Nat.beq rt 2 with
            | true => rw [hq2] at hf; simp only [cond_true] at hf; split at hf <;> cases hf
            | false => rw [hq2] at hf; cases hf
        · cases hf
      | lreturn => simp only [am_fin] at hf; split at hf <;> first | (cases hq : Nat.beq rt 3 <;> rw [hq] at hf <;> cases hf) | cases hf
      | areturn => simp only [am_fin] at hf; split at hf <;> first | (cases hq : Nat.beq rt 4 <;> rw [hq] at hf <;> cases hf) | cases hf
      | _ => simp [am_fin] at hf
    · intro cells slots pc i a b z ls av2 rest M2 M1 E2 F h1 h2 hat hF2 hR hCl ho hls hav2 hre
      obtain rfl : cells = 0 := by omega
      obtain rfl : slots = 0 := by omega
      rcases ho with ⟨-, h, hMM⟩ | ⟨v, -, h, -⟩
      · cases h
        subst hMM
        obtain ⟨hd, -, hw⟩ := hrow pc _ hat
        obtain ⟨q, hq3, -⟩ := hcs a F hF2
        obtain ⟨hCT, hnn⟩ := hcT a F q hF2 hq3 ⟨_, _, _, _, hR⟩
        obtain ⟨hcl, hlen, hwt⟩ := hCl
        have fin : ∀ (H1 : Heap) (locs1 : List Loc) (lsA : Array Slot) (q9 : Addr) (ce : Cell), lv_has lsA nL (am_lv ad 0 ls) → va_P (dC, dI) vwCl (am_W ad cy M') H1 → va_S (am_A ad) s.heap H1 locs1 → H1[q9]? = some ce → ce.vm = .none → s.vm.findClass E = some ce.cls → vx_W p l e (headSpec (Cond.code y cc nL ret :: am_U) (am_rT rm)).room s m (av.map (am_co ad)).toArray below meth c H1 locs1 (0 + 1) (0 + 6) (vx_MQ below (fun _ _ _ _ => False) (am_XC dC dI ad cy E M') (av.map (am_co ad)).toArray s 1 6 (am_A ad)) (F0 m pc lsA (rest.map (am_co ad))) q9 :=
          fun H1 locs1 lsA q9 ce _ hP1 hS1 hce hcv hcl2 => vx_out (fun x hx2 => absurd (hext x hx2) id) hlocks hce hcv hcl2 (fun t ht _ => ⟨rfl, by rw [ht]; exact hP1, hS1.F ht⟩) hS1.2.2 (Nat.le_refl _) (Nat.le_refl _)
        rcases hcl with ⟨idx, rfl⟩ | ⟨idx, k, j, as, rfl, rfl, rfl⟩
        · refine am_s_callT C (idx := idx) hCT ⟨Nat.le_refl _, Nat.le_refl _⟩ (Or.inl ⟨rfl, ⟨fun w hw2 => hw w (by simp only [am_need]; rw [hq3]; exact List.mem_append_left _ hw2), ?_⟩, ?_⟩) hd hR hav2 hre hwt fin
          · rcases am_lnk hq3 hw with h | h
            · exact h
            · exact absurd h (hnn idx)
          · rw [hlen]; exact (hcv pc _ _ _ _ _ q hat hq3).1 idx rfl
        · obtain ⟨hn1, hn2⟩ := (hcv pc _ _ _ _ _ q hat hq3).2 idx k rfl rfl
          exact am_s_callT C (idx := idx) hCT ⟨Nat.le_refl _, Nat.le_refl _⟩ (Or.inr ⟨rfl, fun w hw2 => hw w (by simp only [am_need]; rw [hq3]; exact hw2), k, j, as, rfl, by rw [List.length_cons] at hlen; omega, hn2⟩) hd hR hav2 hre hwt fin
      · cases h
    · refine ⟨hl.1, hl.2.1, fun q hq => hl.2.2 q (am_lay_args hav q ?_)⟩
      unfold am_ent at hq
      rw [am_lv_rep] at hq
      exact hq
/-- the four that throw -/
theorem am_demT {l : Launch} (htr : l.stackTraces = false) {y : MethodName} {cc : ByteArray} {rm : Room} {E : String} {ik ic : Nat} {F : am_F} (hy : plainName y.cls = true) (hyc : y.cls = RX9) (hE : E ∈ am_ex) (hfit : Bundle.fit E = true)
    (d0 : decode cc 0 = .ok (.iload_n 0, 1)) (d1 : decode cc 1 = .ok (.ifCond .ne 11, 3)) (d4 : decode cc 4 = .ok (.new ik, 3)) (d7 : decode cc 7 = .ok (.dup, 1)) (d8 : decode cc 8 = .ok (.invokespecial ic, 3)) (d11 : decode cc 11 = .ok (.athrow, 1))
    (hk : Cond.classLink RX9 ik E ∈ am_U) (hini : Cond.initialized E ∈ am_U) (hat : ∀ w ∈ vx_at0 RX9 ic E ["java/lang/RuntimeException", "java/lang/Exception"], w ∈ am_U ∨ w ∈ am_xw) (hgood : ∀ w ∈ Cond.classLink RX9 ik E :: Cond.initialized E :: vx_at0 RX9 ic E ["java/lang/RuntimeException", "java/lang/Exception"], vx_ot w = true)
    (hfr : 6 ≤ rm.frames) (hlo : 100 ≤ rm.locals) (hF : ∀ av M E' M', F av M = some (.inr E', M') → av = [.inl (.int 0)] ∧ E' = E ∧ M' = M) : am_OkT l dC dI ad cy y (.code y cc 1 none) rm F := by
  intro av M M' E' hav hFv
  obtain ⟨rfl, rfl, rfl⟩ := hF av M E' M' hFv
  refine vx_ofW (cc := cc) (maxL := 1) (ret := none) hy rfl ?_
  intro p e s m args below meth c s₁ B hml hext hv
  obtain ⟨rfl, hP, hK, hD, hRo, hNk⟩ := hv
  have hx := B.exec
  have hb := B.bytes
  have hlocks := B.notSynchronized
  have hts0 := atoms_spec (ws := Cond.code y cc 1 none :: am_U) B.pre
  have hts : ∀ w ∈ am_U, w.before (([.inl (.int 0)] : List am_V).map (am_co ad)).toArray s = true := fun w hw => hts0 w (List.mem_cons_of_mem _ hw)
  have hown : s.vm.findClass RX9 = some m.cls := by rw [← hyc]; exact findClass_of_methodNamed B.named
  have hl := lv_entry (([.inl (.int 0)] : List am_V).map (am_co ad)) (n := 1) (Nat.le_of_ble_eq_true rfl)
  rw [lg_entry_eq]
  generalize (lg_sl (([.inl (.int 0)] : List am_V).map (am_co ad)) ++ List.replicate (1 - (lg_sl (([.inl (.int 0)] : List am_V).map (am_co ad))).length) Slot.unset).toArray = lsA at hl ⊢
  refine lv_iload_n hx hb d0 rfl (lv_at hl 0 rfl) ?_
  refine lv_if_ne (tgt := 12) hx hb d1 (by decide) (fun h => absurd rfl h) (fun _ => ?_)
  have hS : va_S (am_A ad) s.heap s.heap [] := va_S.rf
  refine vx_throw0 (A := am_A ad) (own := RX9) (cls := E') (names := ["java/lang/RuntimeException", "java/lang/Exception"]) (ik := ik) (ic := ic) hx hb htr hown hfit (by decide +kernel) (hts _ hk) (hts _ hini) (fun w hw => ?_) hgood hRo.2.2.2.2.1 hRo.2.2.2.2.2 hS (by rw [hl.1, hml]) d4 d7 d8 d11 (fun x hx2 => absurd (hext x hx2) id) ?_ ?_ ?_ ?_ hlocks (fun t _ hz hk2 => ?_) (fun z hz => nomatch hz) (Nat.le_refl _) (Nat.le_refl _)
  · rcases hat w hw with h | h
    · exact hts w h
    · have h1 := hNk.2.1 w h
      have h2 := (List.mem_filter.mp h).2
      cases w with
      | castable a b => exact va_Nw.use rfl h1
      | declares x => exact va_Nw.use rfl h1
      | _ => cases h2
  · show 2 + 3 < rm.frames
    omega
  · show 0 + (13 * (2 + 1) + 42) ≤ rm.locals
    omega
  · exact Nat.le_refl _
  · exact Nat.le_refl _
  · refine ⟨rfl, hP.kept (fun k q hq => hk2 q.1 (hP k q hq).lt), hz, fun q hq _ => hk2 q hq⟩
end AMZ
end
section
/-! ===== catching: a handler's row by its class's link, behind rows that are passed ===== -/
def am_FT (e : Env) (s : State) (f : JFrame) (a : Addr) (h : Handler) (vm' : Vm) : Prop :=
  ∀ (Q : Handler → Pre) (E : CtlPost) (d : Bool) (acts : List Action), wp (findHandler f a) Q E e d acts s ↔ Q h d acts (s.setVm vm')
theorem am_go_row {Q : Handler → Pre} {E : CtlPost} {e : Env} {d : Bool} {acts : List Action} {s : State} {f : JFrame} {a : Addr} {x : ExceptionTableEntry} {t : List ExceptionTableEntry} {c : ClassId} {cell : Cell} (hx : covers x f.pc = true) (h0 : x.catchType ≠ 0)
    (hl : s.vm.ClassLinks e.platform f.method.cls x.catchType c) (hcell : s.heap[a]? = some cell) (hobj : ∀ k, cell.vm ≠ .statics k)
    (hk : ∃ k, s.vm.classes[cell.cls]? = some k) (hc : ∃ k, s.vm.classes[c]? = some k) :
    (s.vm.assignable cell.cls c = true → (wp (findHandler.go f a (x :: t)) Q E e d acts s ↔ Q (.found x.handlerPc) d acts (s.setVm (s.vm.noted f.method.cls x.catchType (.cls c))))) ∧
    (s.vm.assignable cell.cls c = false → (wp (findHandler.go f a (x :: t)) Q E e d acts s ↔ wp (findHandler.go f a t) Q E e d acts (s.setVm (s.vm.noted f.method.cls x.catchType (.cls c))))) := by
  simp only [covers] at hx
  obtain ⟨ha, ht⟩ := (resolveClass_links e.toSetting hl).op (op := VmOp.resolveClass f.method.cls x.catchType) rfl
  have hal : s.vm.Alike (s.vm.noted f.method.cls x.catchType (.cls c)) := (Vm.Alike.refl s.vm).noted _ _ _
  obtain ⟨k1, hk1⟩ := hk
  obtain ⟨k2, hk2⟩ := hc
  obtain ⟨k1', hk1', -⟩ := hal.2.2 _ _ hk1
  obtain ⟨k2', hk2', -⟩ := hal.2.2 _ _ hk2
  refine ⟨fun hfit => ?_, fun hno => ?_⟩
  · have hfit' : (s.vm.noted f.method.cls x.catchType (.cls c)).assignable cell.cls c = true := by rw [hal.assignable]; exact hfit
    simp [findHandler.go, hx, h0, ha, ht, hcell, hobj, hk1', hk2', hfit', VmOp.dirties, VmOp.acts]
  · have hno' : (s.vm.noted f.method.cls x.catchType (.cls c)).assignable cell.cls c = false := by rw [hal.assignable]; exact hno
    simp [findHandler.go, hx, h0, ha, ht, hcell, hobj, hk1', hk2', hno', VmOp.dirties, VmOp.acts]
/-- a row that is passed: it doesn't cover, or its class doesn't take the object -/
def am_RP (pl : Platform) (s₀ : State) (d : ClassId) (pc : Nat) (thrown : ClassId) (y : ExceptionTableEntry) : Prop :=
  covers y pc = false ∨ (y.catchType ≠ 0 ∧ ∃ c, s₀.vm.ClassLinks pl d y.catchType c ∧ s₀.vm.assignable thrown c = false)
theorem am_go_thru {e : Env} {s₀ : State} {f : JFrame} {a : Addr} {cell : Cell} (hobj : ∀ k, cell.vm ≠ .statics k) (hk0 : ∃ k, s₀.vm.classes[cell.cls]? = some k)
    (x : ExceptionTableEntry) (rest : List ExceptionTableEntry) (hx : covers x f.pc = true) (h0 : x.catchType ≠ 0) {c : ClassId} (hl : s₀.vm.ClassLinks e.platform f.method.cls x.catchType c) (hfit : s₀.vm.assignable cell.cls c = true) :
    ∀ (pre : List ExceptionTableEntry) (S : State), s₀.WarmedH S.vm → S.heap[a]? = some cell → (∀ y ∈ pre, am_RP e.platform s₀ f.method.cls f.pc cell.cls y) →
      ∃ vm', s₀.WarmedH vm' ∧ ∀ (Q : Handler → Pre) (E : CtlPost) (d : Bool) (acts : List Action), wp (findHandler.go f a (pre ++ x :: rest)) Q E e d acts S ↔ Q (.found x.handlerPc) d acts (S.setVm vm') := by
  obtain ⟨k0, hk0⟩ := hk0
  intro pre
  induction pre with
  | nil =>
    intro S hW hcell _
    obtain ⟨k0', hk0', -⟩ := hW.alike.2.2 _ _ hk0
    obtain ⟨dk, _, _, kt, hd, _, _, _, _, hkt, _, hopen⟩ := hl.here
    obtain ⟨kt', hkt', -⟩ := hW.alike.2.2 _ _ hkt
    exact ⟨_, hW.noted hd hopen (State.rightAt_cls hl), fun Q E d acts => (am_go_row (t := rest) hx h0 (hW.classLinks hl) hcell hobj ⟨k0', hk0'⟩ ⟨kt', hkt'⟩).1 (by rw [hW.alike.assignable]; exact hfit)⟩
  | cons y ys ih =>
    intro S hW hcell hpass
    obtain ⟨k0', hk0', -⟩ := hW.alike.2.2 _ _ hk0
    have hrest : ∀ z ∈ ys, am_RP e.platform s₀ f.method.cls f.pc cell.cls z := fun z hz => hpass z (List.mem_cons_of_mem _ hz)
    by_cases hcov : covers y f.pc = true
    · rcases hpass y List.mem_cons_self with h | ⟨hy0, c2, hl2, hno⟩
      · rw [h] at hcov; cases hcov
      · obtain ⟨dk, _, _, kt, hd, _, _, _, _, hkt, _, hopen⟩ := hl2.here
        obtain ⟨kt', hkt', -⟩ := hW.alike.2.2 _ _ hkt
        obtain ⟨vm', hW', hq⟩ := ih (S.setVm (S.vm.noted f.method.cls y.catchType (.cls c2))) (hW.noted hd hopen (State.rightAt_cls hl2)) hcell hrest
        exact ⟨vm', hW', fun Q E d acts => ((am_go_row hcov hy0 (hW.classLinks hl2) hcell hobj ⟨k0', hk0'⟩ ⟨kt', hkt'⟩).2 (by rw [hW.alike.assignable]; exact hno)).trans (hq Q E d acts)⟩
    · obtain ⟨vm', hW', hq⟩ := ih S hW hcell hrest
      exact ⟨vm', hW', fun Q E d acts => (W.findHandler_go_skip (by simpa using hcov)).trans (hq Q E d acts)⟩
theorem am_stepCatch {e : Env} {s : State} {a : Addr} {f : JFrame} {r : List Frame} {pc : Nat} {vm' : Vm} (hfind : am_FT e s f a (.found pc) vm') :
    (stepThrowing e s a (.java f :: r)).Is ((s.setVm vm').setFrames (.java { f with pc := pc, stack := [.ref a] } :: r)) [] := by
  simp only [stepThrowing, searchFrame, vmDo]
  generalize hr : Sem.go _ e false [] s = res
  obtain ⟨as, rfl, ha⟩ := Sem.eq_ok_of hr (a := Handler.found pc) (s' := s.setVm vm') (acts' := []) (by simp [hfind _ _ _ _])
  exact ⟨rfl, ha⟩
theorem am_caught {tb : Tables} {e : Env} {s target : State} {g : JFrame} {c : Code} {below : List Frame} {a : Addr} (h : At s g.method c below) {pc : Nat} {vm' : Vm}
    (hfind : am_FT e ((s.setTop g).pushFrame (.throwing a)) g a (.found pc) vm') (hrest : Steps tb e below ((s.setVm vm').setTop { g with pc := pc, stack := [.ref a] }) target) :
    Steps tb e below ((s.setTop g).pushFrame (.throwing a)) target := by
  obtain ⟨hgo, hw⟩ := h.throwing a
  refine Steps.head hgo hw ?_
  rw [stepThread_throwing (frames_entered h.top _), (am_stepCatch (s := (s.setTop g).pushFrame (.throwing a)) hfind).1]
  obtain ⟨g₀, hg⟩ := Option.isSome_iff_exists.mp h.top
  obtain ⟨r, hr⟩ := State.topJava?_eq_some.mp hg
  have hr' : (s.setVm vm').frames = .java g₀ :: r := hr
  rw [State.setTop_of_frames _ hr'] at hrest
  have e1 : (s.setTop g).pushFrame (.throwing a) = s.setFrames (.throwing a :: .java g :: r) := by
    rw [State.pushFrame, State.frames_setTop _ hr, State.setTop_of_frames _ hr, State.setFrames_setFrames]
  rw [e1, hr, List.tail_cons]
  have e2 : ((s.setFrames (.throwing a :: .java g :: r)).setVm vm').setFrames (.java { g with pc := pc, stack := [.ref a] } :: r) = (s.setVm vm').setFrames (.java { g with pc := pc, stack := [.ref a] } :: r) := by
    show ((s.setVm vm').setFrames (.throwing a :: .java g :: r)).setFrames _ = _
    rw [State.setFrames_setFrames]
  rw [e2]
  exact hrest
section AMC
variable {p : Program} {l : Launch} {e : Env} {R : Room} {s : State} {m : MethodId} {args : Array Value} {below : List Frame} {meth : Method} {c : Code} {H : Heap} {locs : List Loc} {cells slots : Nat} {Q : State → Prop} {ls : Array Slot} {rest : List Value}
/-- an exception of class E at pc: the row x catches it -/
theorem am_catchW {own name : String} {E : String} {ce : Cell} {q : Addr} {pc : Nat} (hown : s.vm.findClass own = some m.cls) (pre : List ExceptionTableEntry) (x : ExceptionTableEntry) (suf : List ExceptionTableEntry) (hsplit : c.exceptionTable.toList = pre ++ x :: suf)
    (hpass : ∀ z ∈ pre, covers z pc = false ∨ (z.catchType ≠ 0 ∧ ∃ nm : String, (Cond.classLink own z.catchType nm).before args s = true ∧ va_Nc E nm s)) (hx : covers x pc = true) (h0 : x.catchType ≠ 0)
    (hlink : (Cond.classLink own x.catchType name).before args s = true) (hcast : (Cond.castable E name).before args s = true) (hcell : H[q]? = some ce) (hv : ce.vm = .none) (hcl : s.vm.findClass E = some ce.cls)
    (kk : W p l e R s m args below meth c H locs cells slots Q (F0 m x.handlerPc ls [.ref q])) : vx_W p l e R s m args below meth c H locs cells slots Q (F0 m pc ls rest) q := by
  intro T hT X
  have hpl : e.platform.magicAccessors = ({} : Platform).magicAccessors := by rw [X.admits.platform]
  obtain ⟨c3, c4, hc3, hc4, hasg⟩ := Cond.castable_spec hcast
  cases Option.some.inj (hc3.symm.trans hcl)
  obtain ⟨c5, hc5, hcl5⟩ := Cond.classLink_spec hown hlink e.platform hpl
  cases Option.some.inj (hc4.symm.trans hc5)
  have hpass' : ∀ z ∈ pre, am_RP e.platform s m.cls pc ce.cls z := by
    intro z hz
    rcases hpass z hz with h | ⟨hz0, nm, hl1, hn1⟩
    · exact Or.inl h
    · obtain ⟨c6, hc6, hcl6⟩ := Cond.classLink_spec hown hl1 e.platform hpl
      obtain ⟨a8, b8, h1, h2, h3⟩ := hn1
      cases Option.some.inj (h1.symm.trans hcl)
      cases Option.some.inj (h2.symm.trans hc6)
      exact Or.inr ⟨hz0, _, hcl6, h3⟩
  have hk0 : ∃ k, s.vm.classes[ce.cls]? = some k := by obtain ⟨k9, h9, -⟩ := Vm.findClass_spec hcl; exact ⟨k9, h9⟩
  obtain ⟨vm', hW', hq⟩ := am_go_thru (e := e) (s₀ := s) (f := F0 m pc ls rest) (a := q) (cell := ce) (fun k hk => by rw [hv] at hk; cases hk) hk0 x suf hx h0 hcl5 hasg pre ((T.setTop (F0 m pc ls rest)).pushFrame (.throwing q)) X.warmed (by show T.heap[q]? = _; rw [hT]; exact hcell) hpass'
  have hf : am_FT e ((T.setTop (F0 m pc ls rest)).pushFrame (.throwing q)) (F0 m pc ls rest) q (.found x.handlerPc) vm' := fun Q E d acts => by
    rw [W.findHandler_eq (meth := meth) (code := c) X.method' X.code, hsplit]
    exact hq Q E d acts
  obtain ⟨t, a1, b1⟩ := kk (T.setVm vm') hT (X.noted hW')
  exact ⟨t, am_caught X.here hf a1, b1⟩
end AMC
end
section
/-! ===== where a run's answer comes from ===== -/
theorem am_sw_inv {K : Nat → am_R} {d : Nat} {x : Int32} {L : List (Int32 × Nat)} {r : am_O × am_M} (h : am_sw K d x L = some r) : ∃ t, K t = some r := by
  rcases am_sw_ok h with ⟨_, q, -, -, h3, -⟩ | ⟨-, h2⟩
  · exact ⟨_, h3⟩
  · exact ⟨_, h2⟩
theorem am_ret_inv {cs : List am_F} {hs : List (Nat × Nat × String × Value)} {pc a : Nat} {rest av : List am_V} {M : am_M} {K2 : List am_V → am_M → am_R} {o : am_O} {Mf : am_M} {Rp : Prop} (h : am_ret hs pc rest K2 (am_call cs a av M) = some (o, Mf)) (hK : ∀ st M', K2 st M' = some (o, Mf) → Rp) (hc : ∀ (F : am_F) E M1, cs[a]? = some F → F av M = some (.inr E, M1) → Rp) : Rp := by
  unfold am_ret at h
  cases hq : am_call cs a av M with
  | none => rw [hq] at h; cases h
  | some res =>
    obtain ⟨ro, M1⟩ := res
    rw [hq] at h
    cases ro with
    | inl r =>
      simp only at h
      cases hv : am_okv r with
      | false => rw [hv] at h; cases h
      | true => rw [hv] at h; exact hK _ _ h
    | inr E =>
      unfold am_call at hq
      cases hF : cs[a]? with
      | none => rw [hF] at hq; cases hq
      | some F => rw [hF] at hq; exact hc F E M1 hF hq
set_option maxHeartbeats 4000000 in
theorem am_step_inv {cs : List am_F} {hs : List (Nat × Nat × String × Value)} {rt : Nat} {X : Nat × (Nat → Int32)} {P : am_P} {K : Nat → List am_V → List am_V → am_M → am_R} {pc : Nat} {ls st : List am_V} {M Mf : am_M} {o : am_O} (h : am_step cs hs rt X P K pc ls st M = some (o, Mf)) {Rp : Prop}
    (hK : ∀ pc ls st M, K pc ls st M = some (o, Mf) → Rp) (hf : ∀ i ls st, am_fin rt i ls st = some o → Rp) (hc : ∀ (a : Nat) (F : am_F) av M E M1, cs[a]? = some F → F av M = some (.inr E, M1) → Rp) : Rp := by
  unfold am_step at h
  cases hat : am_at P pc with
  | none => rw [hat] at h; cases h
  | some row =>
    obtain ⟨i, len, a, b, z⟩ := row
    rw [hat] at h
    simp only at h
    cases i with
    | iconst v =>
      dsimp only at h
      exact hK _ _ _ _ h
    | bipush v =>
      dsimp only at h
      exact hK _ _ _ _ h
    | sipush v =>
      dsimp only at h
      exact hK _ _ _ _ h
    | ldc v =>
      dsimp only at h
      exact hK _ _ _ _ h
    | lconst v =>
      dsimp only at h
      exact hK _ _ _ _ h
    | ldc2_w v =>
      dsimp only at h
      exact hK _ _ _ _ h
    | aconst_null =>
      dsimp only at h
      exact hK _ _ _ _ h
    | iload_n k =>
      dsimp only at h
      split at h
      · exact hK _ _ _ _ h
      · cases h
    | iload k =>
      dsimp only at h
      split at h
      · exact hK _ _ _ _ h
      · cases h
    | lload_n k =>
      dsimp only at h
      split at h
      · exact hK _ _ _ _ h
      · cases h
    | lload k =>
      dsimp only at h
      split at h
      · exact hK _ _ _ _ h
      · cases h
    | aload_n k =>
      dsimp only at h
      split at h
      · exact hK _ _ _ _ h
      · exact hK _ _ _ _ h
      · cases h
    | aload k =>
      dsimp only at h
      split at h
      · exact hK _ _ _ _ h
      · exact hK _ _ _ _ h
      · cases h
    | istore_n k =>
      dsimp only at h
      split at h
      · exact hK _ _ _ _ h
      · cases h
    | istore k =>
      dsimp only at h
      split at h
      · exact hK _ _ _ _ h
      · cases h
    | lstore_n k =>
      dsimp only at h
      split at h
      · exact hK _ _ _ _ h
      · cases h
    | lstore k =>
      dsimp only at h
      split at h
      · exact hK _ _ _ _ h
      · cases h
    | astore_n k =>
      dsimp only at h
      split at h
      · exact hK _ _ _ _ h
      · exact hK _ _ _ _ h
      · cases h
    | astore k =>
      dsimp only at h
      split at h
      · exact hK _ _ _ _ h
      · exact hK _ _ _ _ h
      · cases h
    | iinc k v =>
      dsimp only at h
      split at h
      · exact hK _ _ _ _ h
      · cases h
    | iadd =>
      dsimp only at h
      split at h
      · exact hK _ _ _ _ h
      · cases h
    | isub =>
      dsimp only at h
      split at h
      · exact hK _ _ _ _ h
      · cases h
    | imul =>
      dsimp only at h
      split at h
      · exact hK _ _ _ _ h
      · cases h
    | iand =>
      dsimp only at h
      split at h
      · exact hK _ _ _ _ h
      · cases h
    | ior =>
      dsimp only at h
      split at h
      · exact hK _ _ _ _ h
      · cases h
    | ishr =>
      dsimp only at h
      split at h
      · exact hK _ _ _ _ h
      · cases h
    | ladd =>
      dsimp only at h
      split at h
      · exact hK _ _ _ _ h
      · cases h
    | lsub =>
      dsimp only at h
      split at h
      · exact hK _ _ _ _ h
      · cases h
    | lmul =>
      dsimp only at h
      split at h
      · exact hK _ _ _ _ h
      · cases h
    | lxor =>
      dsimp only at h
      split at h
      · exact hK _ _ _ _ h
      · cases h
    | lcmp =>
      dsimp only at h
      split at h
      · exact hK _ _ _ _ h
      · cases h
    | lshl =>
      dsimp only at h
      split at h
      · exact hK _ _ _ _ h
      · cases h
    | i2l =>
      dsimp only at h
      split at h
      · exact hK _ _ _ _ h
      · cases h
    | l2i =>
      dsimp only at h
      split at h
      · exact hK _ _ _ _ h
      · cases h
    | dup2 =>
      dsimp only at h
      split at h
      · exact hK _ _ _ _ h
      · cases h
    | idiv =>
      dsimp only at h
      split at h
      · split at h
        · cases h
        · exact hK _ _ _ _ h
      · cases h
    | irem =>
      dsimp only at h
      split at h
      · split at h
        · cases h
        · exact hK _ _ _ _ h
      · cases h
    | ldiv =>
      dsimp only at h
      split at h
      · split at h
        · cases h
        · exact hK _ _ _ _ h
      · cases h
    | lrem =>
      dsimp only at h
      split at h
      · split at h
        · cases h
        · exact hK _ _ _ _ h
      · cases h
    | dup =>
      dsimp only at h
      split at h
      · exact hK _ _ _ _ h
      · exact hK _ _ _ _ h
      · cases h
    | pop =>
      dsimp only at h
      split at h
      · exact hK _ _ _ _ h
      · exact hK _ _ _ _ h
      · cases h
    | goto o2 =>
      dsimp only at h
      exact hK _ _ _ _ h
    | ifCond cn o2 =>
      dsimp only at h
      split at h
      · cases cn with
        | eq => simp only at h; split at h <;> exact hK _ _ _ _ h
        | ne => simp only at h; split at h <;> exact hK _ _ _ _ h
        | lt => simp only at h; split at h <;> exact hK _ _ _ _ h
        | ge => simp only at h; split at h <;> exact hK _ _ _ _ h
        | gt => simp only at h; split at h <;> exact hK _ _ _ _ h
        | le => simp only at h; split at h <;> exact hK _ _ _ _ h
      · cases h
    | if_icmp cn o2 =>
      dsimp only at h
      split at h
      · cases cn with
        | eq => simp only at h; split at h <;> exact hK _ _ _ _ h
        | ne => simp only at h; split at h <;> exact hK _ _ _ _ h
        | lt => simp only at h; split at h <;> exact hK _ _ _ _ h
        | ge => simp only at h; split at h <;> exact hK _ _ _ _ h
        | gt => simp only at h; split at h <;> exact hK _ _ _ _ h
        | le => simp only at h; split at h <;> exact hK _ _ _ _ h
      · cases h
    | ifnull o2 =>
      dsimp only at h
      split at h
      · exact hK _ _ _ _ h
      · exact hK _ _ _ _ h
      · cases h
    | ifnonnull o2 =>
      dsimp only at h
      split at h
      · exact hK _ _ _ _ h
      · exact hK _ _ _ _ h
      · cases h
    | tableswitch a1 a2 a3 a4 =>
      dsimp only at h
      split at h
      · obtain ⟨t, ht⟩ := am_sw_inv h
        exact hK _ _ _ _ ht
      · cases h
    | lookupswitch a1 a2 =>
      dsimp only at h
      split at h
      · obtain ⟨t, ht⟩ := am_sw_inv h
        exact hK _ _ _ _ ht
      · cases h
    | getfield idx =>
      dsimp only at h
      split at h
      · rename_i k j r
        cases hk : Nat.beq k b with
        | false => rw [hk] at h; cases h
        | true =>
          rw [hk] at h
          simp only [cond_true] at h
          split at h
          · exact hK _ _ _ _ h
          · cases hz : am_fz b a <;> rw [hz] at h <;> exact hK _ _ _ _ h
      · cases h
    | putfield idx =>
      dsimp only at h
      split at h
      · rename_i x k j r
        cases hk : Nat.beq k b with
        | false => rw [hk] at h; cases h
        | true =>
          rw [hk] at h
          simp only [cond_true] at h
          split at h
          · cases h
          · cases hz : am_fz b a with
            | true => rw [hz] at h; simp only [cond_true] at h; split at h
                      · exact hK _ _ _ _ h
                      · cases h
            | false => rw [hz] at h; exact hK _ _ _ _ h
      · cases h
    | getstatic idx =>
      dsimp only at h
      exact hK _ _ _ _ h
    | arraylength =>
      dsimp only at h
      split at h
      · rename_i k j r
        cases hk : (Nat.beq k 29 && Nat.beq rt 5) with
        | true => rw [hk] at h; exact hK _ _ _ _ h
        | false =>
          rw [hk] at h
          simp only [cond_false] at h
          split at h
          · exact hK _ _ _ _ h
          · cases h
      · cases h
    | iaload =>
      dsimp only at h
      split at h
      · rename_i x k j r
        cases hk : (Nat.beq k 27 || Nat.beq k 28) with
        | true =>
          rw [hk] at h
          simp only [cond_true] at h
          split at h
          · exact hK _ _ _ _ h
          · cases h
        | false =>
          rw [hk] at h
          simp only [cond_false] at h
          cases hk9 : (Nat.beq k 29 && Nat.beq rt 5) with
          | true =>
            rw [hk9] at h
            simp only [cond_true] at h
            split at h
            · exact hK _ _ _ _ h
            · cases h
          | false =>
            rw [hk9] at h
            simp only [cond_false] at h
            split at h
            · split at h
              · exact hK _ _ _ _ h
              · cases h
            · cases h
      · cases h
    | iastore =>
      dsimp only at h
      split at h
      · split at h
        · split at h
          · exact hK _ _ _ _ h
          · cases h
        · cases h
      · cases h
    | baload =>
      dsimp only at h
      split at h
      · split at h
        · split at h
          · exact hK _ _ _ _ h
          · cases h
        · cases h
      · cases h
    | bastore =>
      dsimp only at h
      split at h
      · split at h
        · split at h
          · exact hK _ _ _ _ h
          · cases h
        · cases h
      · cases h
    | laload =>
      dsimp only at h
      split at h
      · split at h
        · split at h
          · exact hK _ _ _ _ h
          · cases h
        · cases h
      · cases h
    | lastore =>
      dsimp only at h
      split at h
      · split at h
        · split at h
          · exact hK _ _ _ _ h
          · cases h
        · cases h
      · cases h
    | aaload =>
      dsimp only at h
      split at h
      · split at h
        · split at h
          · exact hK _ _ _ _ h
          · cases h
        · cases h
      · cases h
    | invokestatic idx =>
      dsimp only at h
      cases hq : (Nat.beq (st.take b).length b && Nat.ble (am_wt (st.drop b)) 8) with
      | false => rw [hq] at h; cases h
      | true =>
        rw [hq] at h
        exact am_ret_inv h (fun st M => hK _ _ st M) (fun F E M1 => hc a F _ _ E M1)
    | invokevirtual idx =>
      dsimp only at h
      split at h
      · rename_i k2 k j as hta
        cases hq : (Nat.beq k k2 && Nat.beq (st.take b).length b && Nat.ble (am_wt (st.drop b)) 8) with
        | false => rw [hq] at h; cases h
        | true =>
          rw [hq] at h
          exact am_ret_inv h (fun st M => hK _ _ st M) (fun F E M1 => hc a F _ _ E M1)
      · cases h
    | return_ =>
      dsimp only at h
      cases hq : am_fin rt .return_ ls st with
      | none => rw [hq] at h; cases h
      | some o2 => rw [hq] at h; cases h; exact hf _ _ _ hq
    | ireturn =>
      dsimp only at h
      cases hq : am_fin rt .ireturn ls st with
      | none => rw [hq] at h; cases h
      | some o2 => rw [hq] at h; cases h; exact hf _ _ _ hq
    | lreturn =>
      dsimp only at h
      cases hq : am_fin rt .lreturn ls st with
      | none => rw [hq] at h; cases h
      | some o2 => rw [hq] at h; cases h; exact hf _ _ _ hq
    | areturn =>
      dsimp only at h
      cases hq : am_fin rt .areturn ls st with
      | none => rw [hq] at h; cases h
      | some o2 => rw [hq] at h; cases h; exact hf _ _ _ hq
    | _ => simp [am_fin] at h
theorem am_fin_ret {rt : Nat} {i : Instr} {ls st : List am_V} {o : am_O} (h : am_fin rt i ls st = some o) : ∃ r, o = .inl r := by
  cases i with
  | return_ => simp only [am_fin] at h; split at h <;> first | (cases hq : Nat.beq rt 0 <;> rw [hq] at h <;> cases h; exact ⟨_, rfl⟩) | cases h
  | ireturn =>
    simp only [am_fin] at h
    split at h
    · cases hq : (Nat.beq rt 1 || Nat.beq rt 5) with
      | true => rw [hq] at h; cases h; exact ⟨_, rfl⟩
      | false =>
        rw [hq] at h
        simp only [cond_false] at h
        cases hq2 : Nat.beq rt 2 with
        | true => rw [hq2] at h; simp only [cond_true] at h; split at h <;> cases h; exact ⟨_, rfl⟩
        | false => rw [hq2] at h; cases h
    · cases h
  | lreturn => simp only [am_fin] at h; split at h <;> first | (cases hq : Nat.beq rt 3 <;> rw [hq] at h <;> cases h; exact ⟨_, rfl⟩) | cases h
  | areturn => simp only [am_fin] at h; split at h <;> first | (cases hq : Nat.beq rt 4 <;> rw [hq] at h <;> cases h; exact ⟨_, rfl⟩) | cases h
  | _ => simp [am_fin] at h
/-- a meaning that never throws -/
def am_nt (F : am_F) : Prop := ∀ av M E M', F av M ≠ some (.inr E, M')
theorem am_run_nt {cs : List am_F} {hs : List (Nat × Nat × String × Value)} {rt : Nat} {X : Nat × (Nat → Int32)} {P : am_P} (hc : ∀ F ∈ cs, am_nt F) : ∀ (n pc : Nat) (ls st : List am_V) (M : am_M) (E : String) (M' : am_M), am_run cs hs rt X P n pc ls st M ≠ some (.inr E, M') := by
  intro n
  induction n with
  | zero => intro pc ls st M E M' h; cases h
  | succ n ih =>
    intro pc ls st M E M' h
    refine am_step_inv h (fun pc' ls' st' M2 h2 => ih pc' ls' st' M2 E M' h2) (fun i ls' st' h2 => ?_) (fun a F av M2 E2 M1 h1 h2 => hc F (List.mem_of_getElem? h1) av M2 E2 M1 h2)
    obtain ⟨r, hr⟩ := am_fin_ret h2
    cases hr
theorem am_meth_nt {cs : List am_F} {hs : List (Nat × Nat × String × Value)} {rt nL N : Nat} {P : am_P} (hc : ∀ F ∈ cs, am_nt F) : am_nt (am_meth cs hs rt nL N P) := by
  intro av M E M' h
  unfold am_meth at h
  cases hq : Nat.ble (am_lay av).length nL with
  | false => rw [hq] at h; cases h
  | true => rw [hq] at h; exact am_run_nt hc _ _ _ _ _ _ _ h
theorem am_nt_nil : ∀ F ∈ ([] : List am_F), am_nt F := fun _ h => nomatch h
theorem am_nt_cons {F0' : am_F} {cs : List am_F} (h : am_nt F0') (t : ∀ F ∈ cs, am_nt F) : ∀ F ∈ F0' :: cs, am_nt F := fun F hF => (List.mem_cons.mp hF).elim (fun e => e ▸ h) (t F)
end
section
/-! ===== a method with handlers that call a method which may throw, and return a constant in each handler ===== -/
/-- what stands at a handler: the exception is stored, a constant returned -/
def am_hrow (cc : ByteArray) (nL h : Nat) (v : Value) : Bool := match decode cc h with
  | .ok (.astore k, 2) => decide (k < nL) && (match decode cc (h + 2) with | .ok (.iconst z, 1) => decide (v = .int (Int32.ofInt z)) | _ => false) && decide (decode cc (h + 3) = .ok (.ireturn, 1))
  | .ok (.astore_n k, 1) => decide ((k : Nat) < nL) && (match decode cc (h + 1) with | .ok (.iconst z, 1) => decide (v = .int (Int32.ofInt z)) | _ => false) && decide (decode cc (h + 2) = .ok (.ireturn, 1))
  | _ => false
/-- the small machine's handlers are the table's -/
def am_chh (cc : ByteArray) (nL : Nat) : List (Nat × Nat × String × Value) → List (Nat × Nat × Nat × Nat) → Bool
  | [], [] => true
  | q :: hs, r :: hh => decide (q.1 = r.1 ∧ q.2.1 = r.2.1 ∧ q.2.2.1 ∈ am_ex ∧ r.2.2.2 ≠ 0) && am_hrow cc nL r.2.2.1 q.2.2.2 && am_chh cc nL hs hh
  | _, _ => false
/-- the words of the handlers' classes -/
def am_hw (own : String) : List (Nat × Nat × String × Value) → List (Nat × Nat × Nat × Nat) → List Cond
  | q :: hs, r :: hh => .classLink own r.2.2.2 q.2.2.1 :: am_hw own hs hh
  | _, _ => []
section AMWR
variable {p : Program} {l : Launch} {e : Env} {R : Room} {s : State} {m : MethodId} {args : Array Value} {below : List Frame} {meth : Method} {c : Code} {H : Heap} {locs : List Loc} {cells slots : Nat} {Q : State → Prop} {ls : Array Slot} {rest : List Value} {cc : ByteArray} {own : String} {nL : Nat}
/-- from the handler on -/
theorem am_handler (hx : p.tables.exec = Jvm.exec) (hb : c.code = cc) {h : Nat} {v : Value} (hh : am_hrow cc nL h v = true) {lv : List (Nat × Value)} (hl : lv_has ls nL lv) {q : Addr}
    (kk : ∀ (z : Int32) (pc : Nat) (ls2 : Array Slot), v = .int z → decode cc pc = .ok (.ireturn, 1) → W p l e R s m args below meth c H locs cells slots Q (F0 m pc ls2 [.int z])) : W p l e R s m args below meth c H locs cells slots Q (F0 m h ls [.ref q]) := by
  unfold am_hrow at hh
  split at hh
  · rename_i k hd
    simp only [Bool.and_eq_true, decide_eq_true_eq] at hh
    obtain ⟨⟨h1, h2⟩, h3⟩ := hh
    split at h2
    · rename_i z hz
      simp only [decide_eq_true_eq] at h2
      exact lv_astore hx hb hd hl h1 rfl (fun ls2 _ => lv_iconst hx hb hz rfl (kk _ _ ls2 h2 h3))
    · cases h2
  · rename_i k hd
    simp only [Bool.and_eq_true, decide_eq_true_eq] at hh
    obtain ⟨⟨h1, h2⟩, h3⟩ := hh
    split at h2
    · rename_i z hz
      simp only [decide_eq_true_eq] at h2
      exact lv_astore_n hx hb hd rfl hl h1 rfl (fun ls2 _ => lv_iconst hx hb hz rfl (kk _ _ ls2 h2 h3))
    · cases h2
  · cases hh
/-- the catching row of a table -/
theorem am_find_h {E : String} {v : Value} {pc : Nat} : ∀ {hs : List (Nat × Nat × String × Value)} {hh : List (Nat × Nat × Nat × Nat)}, am_chh cc nL hs hh = true → am_catch hs pc E = some v →
    ∃ pre x suf, tableOf hh = pre ++ x :: suf ∧ (∀ z ∈ pre, covers z pc = false ∨ (z.catchType ≠ 0 ∧ ∃ nm ∈ am_ex, Cond.classLink own z.catchType nm ∈ am_hw own hs hh ∧ E ≠ nm)) ∧ covers x pc = true ∧ x.catchType ≠ 0 ∧ Cond.classLink own x.catchType E ∈ am_hw own hs hh ∧ E ∈ am_ex ∧ am_hrow cc nL x.handlerPc v = true
  | [], _, _, h => by cases h
  | q :: hs, [], h, _ => by cases h
  | q :: hs, r :: hh, h, hc => by
    simp only [am_chh, Bool.and_eq_true, decide_eq_true_eq] at h
    obtain ⟨⟨⟨h1, h2, h3, h4⟩, h5⟩, h6⟩ := h
    obtain ⟨q1, q2, q3, q4⟩ := q
    obtain ⟨r1, r2, r3, r4⟩ := r
    simp only at h1 h2 h3 h4 h5
    subst h1; subst h2
    unfold am_catch at hc
    by_cases hk : q1 ≤ pc ∧ pc < q2 ∧ q3 = E
    · rw [if_pos hk] at hc
      cases hc
      obtain ⟨k1, k2, rfl⟩ := hk
      refine ⟨[], ⟨q1, q2, r3, r4⟩, tableOf hh, rfl, (fun _ h => (nomatch h)), ?_, h4, List.mem_cons_self, h3, h5⟩
      simp [covers, k1, k2]
    · rw [if_neg hk] at hc
      obtain ⟨pre, x, suf, g1, g2, g3, g4, g5, g6, g7⟩ := am_find_h h6 hc
      refine ⟨⟨q1, q2, r3, r4⟩ :: pre, x, suf, by show _ :: tableOf hh = _; rw [g1]; rfl, fun z hz => ?_, g3, g4, List.mem_cons_of_mem _ g5, g6, g7⟩
      rcases List.mem_cons.mp hz with rfl | hz
      · by_cases hcv : q1 ≤ pc ∧ pc < q2
        · exact Or.inr ⟨h4, q3, h3, List.mem_cons_self, fun e => hk ⟨hcv.1, hcv.2, e.symm⟩⟩
        · refine Or.inl ?_
          simp only [covers, Bool.and_eq_false_iff, decide_eq_false_iff_not]
          by_cases h9 : q1 ≤ pc
          · exact Or.inr (fun h8 => hcv ⟨h9, h8⟩)
          · exact Or.inl h9
      · rcases g2 z hz with h | ⟨a1, nm, a2, a3, a4⟩
        · exact Or.inl h
        · exact Or.inr ⟨a1, nm, a2, List.mem_cons_of_mem _ a3, a4⟩
end AMWR
section AMWS
variable {l : Launch} {dC : Nat → ClassId} {dI : Nat → Nat → Nat} {ad : Nat → Nat → Nat} {cy : Nat → ClassId}
theorem am_wrap_ok {y : MethodName} {cc : ByteArray} {nL N : Nat} {rm : Room} {cs : List am_F} {ci : List am_C} {P : am_P} {hs : List (Nat × Nat × String × Value)} {hh : List (Nat × Nat × Nat × Nat)} (hy : plainName y.cls = true) (hrm : rm.cells = 1 ∧ rm.slots = 6)
    (hrow : ∀ (pc : Nat) (r : am_Row), am_at P pc = some r → decode cc pc = .ok (r.1, r.2.1) ∧ am_chk nL pc r = true ∧ ∀ w ∈ am_need y.cls ci r, w ∈ am_U)
    (hcs : ∀ (a : Nat) (F : am_F), cs[a]? = some F → ∃ q : am_C, ci[a]? = some q ∧ am_Cal l dC dI ad cy rm 0 0 q F)
    (hcT : ∀ (a : Nat) (F : am_F) (q : am_C), cs[a]? = some F → ci[a]? = some q → (∃ av M E M', F av M = some (.inr E, M')) → am_CalT l dC dI ad cy rm q F ∧ ∀ idx, (y.cls, idx, q.1, RX9) ∉ am_nl)
    (hcv : ∀ (pc : Nat) (i : Instr) (len a b : Nat) (z : Value) (q : am_C), am_at P pc = some (i, len, a, b, z) → ci[a]? = some q → (∀ idx, i = .invokestatic idx → b = q.2.2.2.2.1) ∧ (∀ idx k, i = .invokevirtual idx → z = .ref k → b = q.2.2.2.2.1 + 1 ∧ q.2.2.2.1 = some k))
    (hchh : am_chh cc nL hs hh = true) (hhw : ∀ w ∈ am_hw y.cls hs hh, w ∈ am_U) (hcast : ∀ E ∈ am_ex, Cond.castable E E ∈ am_xw) :
    am_Ok l dC dI ad cy y (.codeWith y cc nL (some .int) hh) rm (am_meth cs hs 1 nL N P) := by
  intro av M M' r hav hF
  unfold am_meth at hF
  cases hle : Nat.ble (am_lay av).length nL with
  | false => rw [hle] at hF; cases hF
  | true =>
    rw [hle] at hF
    simp only [cond_true] at hF
    have hle := Nat.le_of_ble_eq_true hle
    rw [hrm.1, hrm.2]
    refine va_MetW (cc := cc) (maxL := nL) (ret := some .int) (hh := hh) hy rfl ?_
    intro p e s m args below meth c s₁ B hml hv
    obtain ⟨rfl, hP, hK, hD, hRo, hNk⟩ := hv
    have hx := B.exec
    have hb := B.bytes
    have hr := B.returns
    have hlocks := B.notSynchronized
    have hts0 := atoms_spec (ws := Cond.codeWith y cc nL (some .int) hh :: am_U) B.pre
    have htab : c.exceptionTable.toList = tableOf hh := vx_table (x := y) B (hts0 _ List.mem_cons_self)
    have hts : ∀ w ∈ am_U, w.before (av.map (am_co ad)).toArray s = true := fun w hw => hts0 w (List.mem_cons_of_mem _ hw)
    have hown : s.vm.findClass y.cls = some m.cls := findClass_of_methodNamed B.named
    have C : am_Cx p s m (av.map (am_co ad)).toArray c dC dI ad cy cc y.cls nL := ⟨hx, hb, hml, hown, hts, hK, fun M2 => am_D_of hD (fun _ _ _ h => h) M2, hRo, hNk⟩
    have hl := lv_entry (av.map (am_co ad)) (n := nL) (by rw [am_lay_len hav]; exact hle)
    rw [lg_entry_eq]
    refine am_run_ok (Q := MQ below (am_Q dC dI ad cy r M') (av.map (am_co ad)).toArray s 1 6 (am_A ad)) (o := .inl r) (Mf := M') (Cm := 0) (Sm := 0) (gc := 0) (gs := 0) C hrow hcs hcv ?_ (Nat.zero_le _) (Nat.zero_le _) ?_ ?_ N 0 0 0 (am_ent nL av) [] M (by omega) (by omega) (am_ent_ok hav) (fun _ h => nomatch h) hF s.heap [] _ ?_ hP va_S.rf
    · intro h5
      cases h5
    · intro cells slots pc i a b z ls st h1 h2 hat hf hls hst H locs lsA hl hP hS
      obtain ⟨hd, -, -⟩ := hrow pc _ hat
      simp only at hd
      have hq : ∀ t : State, t.heap = H → s.WarmedH t.vm → am_Q dC dI ad cy r M' (av.map (am_co ad)).toArray s (.returned (r.map (am_co ad))) t := fun t ht _ => ⟨rfl, by rw [ht]; exact hP, hS.F ht⟩
      cases i with
      | ireturn =>
        simp only [am_fin] at hf
        split at hf
        · rename_i x
          have hf' : some (Sum.inl (some (Sum.inl (Value.int x))) : am_O) = some (.inl r) := hf
          cases hf'
          exact W.widen (k := 1) (n := 6) (by omega) (by omega) (W.iret hx hb hr hq hS.2.2 hd hlocks)
        · cases hf
      | return_ => simp only [am_fin] at hf; split at hf <;> cases hf
      | lreturn => simp only [am_fin] at hf; split at hf <;> cases hf
      | areturn => simp only [am_fin] at hf; split at hf <;> cases hf
      | _ => simp [am_fin] at hf
    · intro cells slots pc i a b z ls av2 rest M2 M1 E2 F h1 h2 hat hF2 hR hCl ho hls hav2 hre
      obtain rfl : cells = 0 := by omega
      obtain rfl : slots = 0 := by omega
      rcases ho with ⟨-, h, -⟩ | ⟨v, hcq, h, hMM⟩
      · cases h
      · subst hMM
        cases h
        obtain ⟨hd, -, hw⟩ := hrow pc _ hat
        obtain ⟨q, hq3, -⟩ := hcs a F hF2
        obtain ⟨hCT, hnn⟩ := hcT a F q hF2 hq3 ⟨_, _, _, _, hR⟩
        obtain ⟨hcl, hlen, hwt⟩ := hCl
        obtain ⟨pre, x, suf, g1, g2, g3, g4, g5, g6, g7⟩ := am_find_h (own := y.cls) hchh hcq
        have hrc : 0 + 1 ≤ (headSpec (Cond.codeWith y cc nL (some .int) hh :: am_U) rm).room.cells ∧ 0 + 6 ≤ (headSpec (Cond.codeWith y cc nL (some .int) hh :: am_U) rm).room.slots := ⟨Nat.le_of_eq hrm.1.symm, Nat.le_of_eq hrm.2.symm⟩
        have fin : ∀ (H1 : Heap) (locs1 : List Loc) (lsA : Array Slot) (q9 : Addr) (ce : Cell), lv_has lsA nL (am_lv ad 0 ls) → va_P (dC, dI) vwCl (am_W ad cy M') H1 → va_S (am_A ad) s.heap H1 locs1 → H1[q9]? = some ce → ce.vm = .none → s.vm.findClass E2 = some ce.cls → vx_W p l e (headSpec (Cond.codeWith y cc nL (some .int) hh :: am_U) rm).room s m (av.map (am_co ad)).toArray below meth c H1 locs1 (0 + 1) (0 + 6) (MQ below (am_Q dC dI ad cy (some (.inl v)) M') (av.map (am_co ad)).toArray s 1 6 (am_A ad)) (F0 m pc lsA (rest.map (am_co ad))) q9 := by
          intro H1 locs1 lsA q9 ce hl1 hP1 hS1 hce hcv1 hcl2
          refine am_catchW hown pre x suf (htab.trans g1) (fun z hz => ?_) g3 g4 (hts _ (hhw _ g5)) (va_Nw.use rfl (hNk.2.1 _ (hcast E2 g6))) hce hcv1 hcl2 ?_
          · rcases g2 z hz with h | ⟨a1, nm, a2, a3, a4⟩
            · exact Or.inl h
            · exact Or.inr ⟨a1, nm, hts _ (hhw _ a3), hNk.2.2 E2 g6 nm a2 a4⟩
          · refine am_handler hx hb g7 hl1 (fun z9 pc9 ls9 hz9 hd9 => ?_)
            subst hz9
            exact W.iret hx hb hr (fun t ht _ => ⟨rfl, by rw [ht]; exact hP1, hS1.F ht⟩) hS1.2.2 hd9 hlocks
        rcases hcl with ⟨idx, rfl⟩ | ⟨idx, k, j, as, rfl, rfl, rfl⟩
        · refine am_s_callT C (idx := idx) hCT hrc (Or.inl ⟨rfl, ⟨fun w hw2 => hw w (by simp only [am_need]; rw [hq3]; exact List.mem_append_left _ hw2), ?_⟩, ?_⟩) hd hR hav2 hre hwt fin
          · rcases am_lnk hq3 hw with h | h
            · exact h
            · exact absurd h (hnn idx)
          · rw [hlen]; exact (hcv pc _ _ _ _ _ q hat hq3).1 idx rfl
        · obtain ⟨hn1, hn2⟩ := (hcv pc _ _ _ _ _ q hat hq3).2 idx k rfl rfl
          exact am_s_callT C (idx := idx) hCT hrc (Or.inr ⟨rfl, fun w hw2 => hw w (by simp only [am_need]; rw [hq3]; exact hw2), k, j, as, rfl, by rw [List.length_cons] at hlen; omega, hn2⟩) hd hR hav2 hre hwt fin
    · refine ⟨hl.1, hl.2.1, fun q hq => hl.2.2 q (am_lay_args hav q ?_)⟩
      unfold am_ent at hq
      rw [am_lv_rep] at hq
      exact hq
end AMWS
end
section
/-! ===== how a method's rows are laid before am_meth_ok ===== -/
theorem am_find_mem : ∀ {l : List (Nat × am_Row)} {pc : Nat} {r : am_Row}, am_find l pc = some r → (pc, r) ∈ l
  | [], _, _, h => by cases h
  | q :: l, pc, r, h => by
    unfold am_find at h
    cases hb : Nat.beq q.1 pc with
    | true => rw [hb] at h; cases h; have := Nat.eq_of_beq_eq_true hb; subst this; exact List.mem_cons_self
    | false => rw [hb] at h; exact List.mem_cons_of_mem _ (am_find_mem h)
theorem am_at_mem {P : am_P} {pc : Nat} {r : am_Row} (h : am_at P pc = some r) : ∃ l ∈ P, (pc, r) ∈ l := by
  unfold am_at at h
  cases hq : P[pc / 16]? with
  | none => rw [hq] at h; cases h
  | some l => rw [hq] at h; exact ⟨l, List.mem_of_getElem? hq, am_find_mem h⟩
theorem am_rows_of {P : am_P} {cc : ByteArray} {nL : Nat} {own : String} {ci : List am_C} (h : P.all (fun l => l.all (fun q => decide (decode cc q.1 = .ok (q.2.1, q.2.2.1)) && am_chk nL q.1 q.2)) = true) (hw : ∀ l ∈ P, ∀ q ∈ l, ∀ w ∈ am_need own ci q.2, w ∈ am_U) :
    ∀ (pc : Nat) (r : am_Row), am_at P pc = some r → decode cc pc = .ok (r.1, r.2.1) ∧ am_chk nL pc r = true ∧ ∀ w ∈ am_need own ci r, w ∈ am_U := by
  intro pc r hr
  obtain ⟨l, h1, h2⟩ := am_at_mem hr
  have h3 := List.all_eq_true.mp (List.all_eq_true.mp h l h1) _ h2
  simp only [Bool.and_eq_true, decide_eq_true_eq] at h3
  exact ⟨h3.1, h3.2, hw l h1 _ h2⟩
theorem am_inU {w : Cond} (i : Nat) (h : lw_tbl[i]? = some w) (hg : goodWord w = true) : w ∈ am_U := List.mem_filter.mpr ⟨List.mem_of_getElem? h, hg⟩
theorem am_words_of {P : am_P} {own : String} {ci : List am_C} (ps : List Nat) (h : P.flatMap (fun l => l.flatMap (fun q => am_need own ci q.2)) = ps.filterMap (fun i => lw_tbl[i]?)) (hg : (P.flatMap (fun l => l.flatMap (fun q => am_need own ci q.2))).all goodWord = true) : ∀ l ∈ P, ∀ q ∈ l, ∀ w ∈ am_need own ci q.2, w ∈ am_U := by
  intro l hl q hq w hw
  have hm : w ∈ P.flatMap (fun l => l.flatMap (fun q => am_need own ci q.2)) := List.mem_flatMap.mpr ⟨l, hl, List.mem_flatMap.mpr ⟨q, hq, hw⟩⟩
  have hg2 := List.all_eq_true.mp hg w hm
  rw [h] at hm
  obtain ⟨i, -, hi⟩ := List.mem_filterMap.mp hm
  exact am_inU i hi hg2
def am_chv (ci : List am_C) (r : am_Row) : Bool := match r with
  | (i, _, a, b, z) => match i with
    | .invokestatic _ => (match ci[a]? with | some q => Nat.beq b q.2.2.2.2.1 | none => true)
    | .invokevirtual _ => (match z, ci[a]? with | .ref k, some q => Nat.beq b (q.2.2.2.2.1 + 1) && decide (q.2.2.2.1 = some k) | _, _ => true)
    | _ => true
theorem am_cv_of {P : am_P} {ci : List am_C} (h : P.all (fun l => l.all (fun q => am_chv ci q.2)) = true) : ∀ (pc : Nat) (i : Instr) (len a b : Nat) (z : Value) (q : am_C), am_at P pc = some (i, len, a, b, z) → ci[a]? = some q → (∀ idx, i = .invokestatic idx → b = q.2.2.2.2.1) ∧ (∀ idx k, i = .invokevirtual idx → z = .ref k → b = q.2.2.2.2.1 + 1 ∧ q.2.2.2.1 = some k) := by
  intro pc i len a b z q hr hq
  obtain ⟨l, h1, h2⟩ := am_at_mem hr
  have h3 := List.all_eq_true.mp (List.all_eq_true.mp h l h1) _ h2
  refine ⟨fun idx hi => ?_, fun idx k hi hz => ?_⟩
  · subst hi
    simp only [am_chv, hq] at h3
    exact Nat.eq_of_beq_eq_true h3
  · subst hi
    subst hz
    simp only [am_chv, hq, Bool.and_eq_true, decide_eq_true_eq] at h3
    exact ⟨Nat.eq_of_beq_eq_true h3.1, h3.2⟩
theorem am_cs_nil {l : Launch} {dC : Nat → ClassId} {dI ad : Nat → Nat → Nat} {cy : Nat → ClassId} {R : Room} {gc gs : Nat} : ∀ (a : Nat) (F : am_F), ([] : List am_F)[a]? = some F → ∃ q : am_C, ([] : List am_C)[a]? = some q ∧ am_Cal l dC dI ad cy R gc gs q F := fun a F h => by simp at h
theorem am_cs_cons {l : Launch} {dC : Nat → ClassId} {dI ad : Nat → Nat → Nat} {cy : Nat → ClassId} {R : Room} {gc gs : Nat} {F0' : am_F} {q0 : am_C} {cs : List am_F} {ci : List am_C} (h : am_Cal l dC dI ad cy R gc gs q0 F0') (t : ∀ (a : Nat) (F : am_F), cs[a]? = some F → ∃ q : am_C, ci[a]? = some q ∧ am_Cal l dC dI ad cy R gc gs q F) :
    ∀ (a : Nat) (F : am_F), (F0' :: cs)[a]? = some F → ∃ q : am_C, (q0 :: ci)[a]? = some q ∧ am_Cal l dC dI ad cy R gc gs q F
  | 0, F, h2 => by cases h2; exact ⟨q0, rfl, h⟩
  | a + 1, F, h2 => t a F h2
end
section
def pX9_isWithin : am_P := [[(0, .iload_n 0, 1, 0, 0, .null), (1, .iload_n 1, 1, 1, 0, .null), (2, .if_icmp .lt 12, 3, 14, 0, .null), (5, .iload_n 0, 1, 0, 0, .null), (6, .iload_n 2, 1, 2, 0, .null), (7, .if_icmp .gt 7, 3, 14, 0, .null), (10, .iconst 1, 1, 0, 0, .int 1), (11, .goto 4, 3, 15, 0, .null), (14, .iconst 0, 1, 0, 0, .int 0), (15, .ireturn, 1, 0, 0, .null)]]
def fX9_isWithin : am_F := am_meth [] [] 2 3 100000 pX9_isWithin
def pX0_accepts : am_P := [[(0, .iload_n 0, 1, 0, 0, .null), (1, .ldc 20, 2, 0, 0, .int (-1000000)), (3, .ldc 21, 2, 0, 0, .int 1000000), (5, .invokestatic 22, 3, 0, 3, .null), (8, .ireturn, 1, 0, 0, .null)]]
def fX0_accepts : am_F := am_meth [fX9_isWithin] [] 2 1 100000 pX0_accepts
def pX0_takes : am_P := [[(0, .aload_n 0, 1, 0, 0, .null), (1, .getfield 16, 3, 2, 0, .null), (4, .iconst 5, 1, 0, 0, .int 5), (5, .if_icmp .ge 30, 3, 35, 0, .null), (8, .aload_n 0, 1, 0, 0, .null), (9, .getfield 16, 3, 2, 0, .null), (12, .iconst 1, 1, 0, 0, .int 1), (13, .if_icmp .lt 18, 3, 31, 0, .null)],
  [(16, .iload_n 1, 1, 1, 0, .null), (17, .aload_n 0, 1, 0, 0, .null), (18, .getfield 9, 3, 0, 0, .null), (21, .aload_n 0, 1, 0, 0, .null), (22, .getfield 16, 3, 2, 0, .null), (25, .iconst 1, 1, 0, 0, .int 1), (26, .isub, 1, 0, 0, .null), (27, .iaload, 1, 0, 0, .null), (28, .if_icmp .eq 7, 3, 35, 0, .null), (31, .iconst 1, 1, 0, 0, .int 1)],
  [(32, .goto 4, 3, 36, 0, .null), (35, .iconst 0, 1, 0, 0, .int 0), (36, .ireturn, 1, 0, 0, .null)]]
def fX0_takes : am_F := am_meth [] [] 2 2 100000 pX0_takes
def pX0_add : am_P := [[(0, .aload_n 0, 1, 0, 0, .null), (1, .getfield 16, 3, 2, 0, .null), (4, .iconst 1, 1, 0, 0, .int 1), (5, .if_icmp .lt 23, 3, 28, 0, .null), (8, .iload_n 1, 1, 1, 0, .null), (9, .aload_n 0, 1, 0, 0, .null), (10, .getfield 9, 3, 0, 0, .null), (13, .aload_n 0, 1, 0, 0, .null), (14, .getfield 16, 3, 2, 0, .null)],
  [(17, .iconst 1, 1, 0, 0, .int 1), (18, .isub, 1, 0, 0, .null), (19, .iaload, 1, 0, 0, .null), (20, .if_icmp .ge 8, 3, 28, 0, .null), (23, .aload_n 0, 1, 0, 0, .null), (24, .iconst 0, 1, 0, 0, .int 0), (25, .putfield 16, 3, 2, 0, .null), (28, .aload_n 0, 1, 0, 0, .null), (29, .getfield 16, 3, 2, 0, .null)],
  [(32, .iconst 5, 1, 0, 0, .int 5), (33, .if_icmp .ge 33, 3, 66, 0, .null), (36, .aload_n 0, 1, 0, 0, .null), (37, .getfield 9, 3, 0, 0, .null), (40, .aload_n 0, 1, 0, 0, .null), (41, .getfield 16, 3, 2, 0, .null), (44, .iload_n 1, 1, 1, 0, .null), (45, .iastore, 1, 0, 0, .null), (46, .aload_n 0, 1, 0, 0, .null), (47, .getfield 13, 3, 1, 0, .null)],
  [(50, .aload_n 0, 1, 0, 0, .null), (51, .getfield 16, 3, 2, 0, .null), (54, .iload_n 2, 1, 2, 0, .null), (55, .iastore, 1, 0, 0, .null), (56, .aload_n 0, 1, 0, 0, .null), (57, .dup, 1, 0, 0, .null), (58, .getfield 16, 3, 2, 0, .null), (61, .iconst 1, 1, 0, 0, .int 1), (62, .iadd, 1, 0, 0, .null), (63, .putfield 16, 3, 2, 0, .null)],
  [(66, .return_, 1, 0, 0, .null)]]
def fX0_add : am_F := am_meth [] [] 0 3 100000 pX0_add
def pX0_isMonotone : am_P := [[(0, .iconst 1, 1, 0, 0, .int 1), (1, .istore_n 2, 1, 2, 0, .null), (2, .iload_n 2, 1, 2, 0, .null), (3, .aload_n 0, 1, 0, 0, .null), (4, .getfield 16, 3, 2, 0, .null), (7, .if_icmp .ge 31, 3, 38, 0, .null), (10, .iload_n 1, 1, 1, 0, .null), (11, .aload_n 0, 1, 0, 0, .null), (12, .getfield 13, 3, 1, 0, .null), (15, .iload_n 2, 1, 2, 0, .null)],
  [(16, .iaload, 1, 0, 0, .null), (17, .aload_n 0, 1, 0, 0, .null), (18, .getfield 13, 3, 1, 0, .null), (21, .iload_n 2, 1, 2, 0, .null), (22, .iconst 1, 1, 0, 0, .int 1), (23, .isub, 1, 0, 0, .null), (24, .iaload, 1, 0, 0, .null), (25, .isub, 1, 0, 0, .null), (26, .imul, 1, 0, 0, .null), (27, .ifCond .gt 5, 3, 32, 0, .null), (30, .iconst 0, 1, 0, 0, .int 0), (31, .ireturn, 1, 0, 0, .null)],
  [(32, .iinc 2 1, 3, 2, 0, .int 1), (35, .goto (-33), 3, 2, 0, .null), (38, .iconst 1, 1, 0, 0, .int 1), (39, .ireturn, 1, 0, 0, .null)]]
def fX0_isMonotone : am_F := am_meth [] [] 2 3 100000 pX0_isMonotone
def pX0_isComplete : am_P := [[(0, .aload_n 0, 1, 0, 0, .null), (1, .getfield 16, 3, 2, 0, .null), (4, .iconst 2, 1, 0, 0, .int 2), (5, .if_icmp .lt 23, 3, 28, 0, .null), (8, .aload_n 0, 1, 0, 0, .null), (9, .iconst 1, 1, 0, 0, .int 1), (10, .invokevirtual 28, 3, 0, 2, .ref 0), (13, .ifCond .ne 11, 3, 24, 0, .null)],
  [(16, .aload_n 0, 1, 0, 0, .null), (17, .iconst (-1), 1, 0, 0, .int (-1)), (18, .invokevirtual 28, 3, 0, 2, .ref 0), (21, .ifCond .eq 7, 3, 28, 0, .null), (24, .iconst 1, 1, 0, 0, .int 1), (25, .goto 4, 3, 29, 0, .null), (28, .iconst 0, 1, 0, 0, .int 0), (29, .ireturn, 1, 0, 0, .null)]]
def fX0_isComplete : am_F := am_meth [fX0_isMonotone] [] 2 1 100000 pX0_isComplete
def pJ9_floorDiv_f86c9 : am_P := [[(0, .lload_n 0, 1, 0, 0, .null), (1, .lload_n 2, 1, 2, 0, .null), (2, .ldiv, 1, 0, 0, .null), (3, .lstore 4, 2, 4, 0, .null), (5, .lload_n 0, 1, 0, 0, .null), (6, .lload_n 2, 1, 2, 0, .null), (7, .lxor, 1, 0, 0, .null), (8, .lconst 0, 1, 0, 0, .long 0), (9, .lcmp, 1, 0, 0, .null), (10, .ifCond .ge 17, 3, 27, 0, .null), (13, .lload 4, 2, 4, 0, .null), (15, .lload_n 2, 1, 2, 0, .null)],
  [(16, .lmul, 1, 0, 0, .null), (17, .lload_n 0, 1, 0, 0, .null), (18, .lcmp, 1, 0, 0, .null), (19, .ifCond .eq 8, 3, 27, 0, .null), (22, .lload 4, 2, 4, 0, .null), (24, .lconst 1, 1, 0, 0, .long 1), (25, .lsub, 1, 0, 0, .null), (26, .lreturn, 1, 0, 0, .null), (27, .lload 4, 2, 4, 0, .null), (29, .lreturn, 1, 0, 0, .null)]]
def fJ9_floorDiv_f86c9 : am_F := am_meth [] [] 3 6 100000 pJ9_floorDiv_f86c9
def pX9_rounded : am_P := [[(0, .lload_n 2, 1, 2, 0, .null), (1, .lconst 0, 1, 0, 0, .long 0), (2, .lcmp, 1, 0, 0, .null), (3, .ifCond .le 21, 3, 24, 0, .null), (6, .ldc2_w 403, 3, 0, 0, .long 2), (9, .lload_n 0, 1, 0, 0, .null), (10, .lmul, 1, 0, 0, .null), (11, .lload_n 2, 1, 2, 0, .null), (12, .ladd, 1, 0, 0, .null), (13, .ldc2_w 403, 3, 0, 0, .long 2)],
  [(16, .lload_n 2, 1, 2, 0, .null), (17, .lmul, 1, 0, 0, .null), (18, .invokestatic 418, 3, 0, 2, .null), (21, .goto 4, 3, 25, 0, .null), (24, .lconst 0, 1, 0, 0, .long 0), (25, .lreturn, 1, 0, 0, .null)]]
def fX9_rounded : am_F := am_meth [fJ9_floorDiv_f86c9] [] 3 4 100000 pX9_rounded
def pX0_valueAt : am_P := [[(0, .aload_n 0, 1, 0, 0, .null), (1, .getfield 16, 3, 2, 0, .null), (4, .iconst 2, 1, 0, 0, .int 2), (5, .if_icmp .ge 5, 3, 10, 0, .null), (8, .lconst 0, 1, 0, 0, .long 0), (9, .lreturn, 1, 0, 0, .null), (10, .iconst 1, 1, 0, 0, .int 1), (11, .istore_n 3, 1, 3, 0, .null), (12, .iload_n 3, 1, 3, 0, .null), (13, .aload_n 0, 1, 0, 0, .null), (14, .getfield 16, 3, 2, 0, .null)],
  [(17, .iconst 1, 1, 0, 0, .int 1), (18, .isub, 1, 0, 0, .null), (19, .if_icmp .ge 21, 3, 40, 0, .null), (22, .lload_n 1, 1, 1, 0, .null), (23, .aload_n 0, 1, 0, 0, .null), (24, .getfield 9, 3, 0, 0, .null), (27, .iload_n 3, 1, 3, 0, .null), (28, .iaload, 1, 0, 0, .null), (29, .i2l, 1, 0, 0, .null), (30, .lcmp, 1, 0, 0, .null), (31, .ifCond .le 9, 3, 40, 0, .null)],
  [(34, .iinc 3 1, 3, 3, 0, .int 1), (37, .goto (-25), 3, 12, 0, .null), (40, .iload_n 3, 1, 3, 0, .null), (41, .iconst 1, 1, 0, 0, .int 1), (42, .isub, 1, 0, 0, .null), (43, .istore 4, 2, 4, 0, .null), (45, .lload_n 1, 1, 1, 0, .null), (46, .aload_n 0, 1, 0, 0, .null), (47, .getfield 9, 3, 0, 0, .null)],
  [(50, .iload 4, 2, 4, 0, .null), (52, .iaload, 1, 0, 0, .null), (53, .i2l, 1, 0, 0, .null), (54, .lsub, 1, 0, 0, .null), (55, .aload_n 0, 1, 0, 0, .null), (56, .getfield 13, 3, 1, 0, .null), (59, .iload_n 3, 1, 3, 0, .null), (60, .iaload, 1, 0, 0, .null), (61, .aload_n 0, 1, 0, 0, .null), (62, .getfield 13, 3, 1, 0, .null)],
  [(65, .iload 4, 2, 4, 0, .null), (67, .iaload, 1, 0, 0, .null), (68, .isub, 1, 0, 0, .null), (69, .i2l, 1, 0, 0, .null), (70, .lmul, 1, 0, 0, .null), (71, .lstore 5, 2, 5, 0, .null), (73, .aload_n 0, 1, 0, 0, .null), (74, .getfield 13, 3, 1, 0, .null), (77, .iload 4, 2, 4, 0, .null), (79, .iaload, 1, 0, 0, .null)],
  [(80, .i2l, 1, 0, 0, .null), (81, .lload 5, 2, 5, 0, .null), (83, .aload_n 0, 1, 0, 0, .null), (84, .getfield 9, 3, 0, 0, .null), (87, .iload_n 3, 1, 3, 0, .null), (88, .iaload, 1, 0, 0, .null), (89, .aload_n 0, 1, 0, 0, .null), (90, .getfield 9, 3, 0, 0, .null), (93, .iload 4, 2, 4, 0, .null), (95, .iaload, 1, 0, 0, .null)],
  [(96, .isub, 1, 0, 0, .null), (97, .i2l, 1, 0, 0, .null), (98, .invokestatic 32, 3, 0, 2, .null), (101, .ladd, 1, 0, 0, .null), (102, .lreturn, 1, 0, 0, .null)]]
def fX0_valueAt : am_F := am_meth [fX9_rounded] [] 3 7 100000 pX0_valueAt
def pX1_isClean : am_P := [[(0, .aload_n 0, 1, 0, 0, .null), (1, .getfield 28, 3, 5, 1, .null), (4, .iconst (-1), 1, 0, 0, .int (-1)), (5, .if_icmp .ne 14, 3, 19, 0, .null), (8, .aload_n 0, 1, 0, 0, .null), (9, .getfield 38, 3, 8, 1, .null), (12, .ifCond .ne 7, 3, 19, 0, .null), (15, .iconst 1, 1, 0, 0, .int 1)],
  [(16, .goto 4, 3, 20, 0, .null), (19, .iconst 0, 1, 0, 0, .int 0), (20, .ireturn, 1, 0, 0, .null)]]
def fX1_isClean : am_F := am_meth [] [] 2 1 100000 pX1_isClean
def pX1_turn : am_P := [[(0, .aload_n 0, 1, 0, 0, .null), (1, .getfield 28, 3, 5, 1, .null), (4, .iconst (-1), 1, 0, 0, .int (-1)), (5, .if_icmp .eq 16, 3, 21, 0, .null), (8, .aload_n 0, 1, 0, 0, .null), (9, .dup, 1, 0, 0, .null), (10, .getfield 35, 3, 7, 1, .null), (13, .iconst 1, 1, 0, 0, .int 1), (14, .iadd, 1, 0, 0, .null), (15, .putfield 35, 3, 7, 1, .null)],
  [(18, .goto 20, 3, 38, 0, .null), (21, .aload_n 0, 1, 0, 0, .null), (22, .getfield 38, 3, 8, 1, .null), (25, .ifCond .le 13, 3, 38, 0, .null), (28, .aload_n 0, 1, 0, 0, .null), (29, .dup, 1, 0, 0, .null), (30, .getfield 38, 3, 8, 1, .null)],
  [(33, .iconst 1, 1, 0, 0, .int 1), (34, .isub, 1, 0, 0, .null), (35, .putfield 38, 3, 8, 1, .null), (38, .return_, 1, 0, 0, .null)]]
def fX1_turn : am_F := am_meth [] [] 0 1 100000 pX1_turn
def pX1_start : am_P := [[(0, .aload_n 0, 1, 0, 0, .null), (1, .iload_n 1, 1, 1, 0, .null), (2, .putfield 28, 3, 5, 1, .null), (5, .aload_n 0, 1, 0, 0, .null), (6, .iload_n 2, 1, 2, 0, .null), (7, .putfield 31, 3, 6, 1, .null), (10, .aload_n 0, 1, 0, 0, .null), (11, .iconst 0, 1, 0, 0, .int 0), (12, .putfield 35, 3, 7, 1, .null), (15, .aload_n 0, 1, 0, 0, .null)],
  [(16, .iconst 0, 1, 0, 0, .int 0), (17, .putfield 15, 3, 1, 1, .null), (20, .aload_n 0, 1, 0, 0, .null), (21, .iconst 0, 1, 0, 0, .int 0), (22, .putfield 25, 3, 4, 1, .null), (25, .return_, 1, 0, 0, .null)]]
def fX1_start : am_F := am_meth [] [] 0 3 100000 pX1_start
def pX1_addReading : am_P := [[(0, .aload_n 0, 1, 0, 0, .null), (1, .getfield 15, 3, 1, 1, .null), (4, .bipush 6, 2, 0, 0, .int 6), (6, .if_icmp .ge 23, 3, 29, 0, .null), (9, .aload_n 0, 1, 0, 0, .null), (10, .getfield 9, 3, 0, 1, .null), (13, .aload_n 0, 1, 0, 0, .null), (14, .getfield 15, 3, 1, 1, .null)],
  [(17, .iload_n 1, 1, 1, 0, .null), (18, .iastore, 1, 0, 0, .null), (19, .aload_n 0, 1, 0, 0, .null), (20, .dup, 1, 0, 0, .null), (21, .getfield 15, 3, 1, 1, .null), (24, .iconst 1, 1, 0, 0, .int 1), (25, .iadd, 1, 0, 0, .null), (26, .putfield 15, 3, 1, 1, .null), (29, .return_, 1, 0, 0, .null)]]
def fX1_addReading : am_F := am_meth [] [] 0 2 100000 pX1_addReading
def pX1_sendToWash : am_P := [[(0, .aload_n 0, 1, 0, 0, .null), (1, .iconst (-1), 1, 0, 0, .int (-1)), (2, .putfield 28, 3, 5, 1, .null), (5, .aload_n 0, 1, 0, 0, .null), (6, .iconst 0, 1, 0, 0, .int 0), (7, .putfield 41, 3, 9, 1, .null), (10, .aload_n 0, 1, 0, 0, .null), (11, .iconst 3, 1, 0, 0, .int 3), (12, .putfield 38, 3, 8, 1, .null), (15, .return_, 1, 0, 0, .null)]]
def fX1_sendToWash : am_F := am_meth [] [] 0 1 100000 pX1_sendToWash
def pX2_append : am_P := [[(0, .aload_n 0, 1, 0, 0, .null), (1, .getfield 13, 3, 1, 2, .null), (4, .bipush 10, 2, 0, 0, .int 10), (6, .if_icmp .ne 41, 3, 47, 0, .null), (9, .iconst 1, 1, 0, 0, .int 1), (10, .istore_n 2, 1, 2, 0, .null), (11, .iload_n 2, 1, 2, 0, .null), (12, .bipush 10, 2, 0, 0, .int 10), (14, .if_icmp .ge 23, 3, 37, 0, .null)],
  [(17, .aload_n 0, 1, 0, 0, .null), (18, .getfield 9, 3, 0, 2, .null), (21, .iload_n 2, 1, 2, 0, .null), (22, .iconst 1, 1, 0, 0, .int 1), (23, .isub, 1, 0, 0, .null), (24, .aload_n 0, 1, 0, 0, .null), (25, .getfield 9, 3, 0, 2, .null), (28, .iload_n 2, 1, 2, 0, .null), (29, .iaload, 1, 0, 0, .null), (30, .iastore, 1, 0, 0, .null), (31, .iinc 2 1, 3, 2, 0, .int 1)],
  [(34, .goto (-23), 3, 11, 0, .null), (37, .aload_n 0, 1, 0, 0, .null), (38, .dup, 1, 0, 0, .null), (39, .getfield 13, 3, 1, 2, .null), (42, .iconst 1, 1, 0, 0, .int 1), (43, .isub, 1, 0, 0, .null), (44, .putfield 13, 3, 1, 2, .null), (47, .aload_n 0, 1, 0, 0, .null)],
  [(48, .getfield 9, 3, 0, 2, .null), (51, .aload_n 0, 1, 0, 0, .null), (52, .getfield 13, 3, 1, 2, .null), (55, .iload_n 1, 1, 1, 0, .null), (56, .iastore, 1, 0, 0, .null), (57, .aload_n 0, 1, 0, 0, .null), (58, .dup, 1, 0, 0, .null), (59, .getfield 13, 3, 1, 2, .null), (62, .iconst 1, 1, 0, 0, .int 1), (63, .iadd, 1, 0, 0, .null)],
  [(64, .putfield 13, 3, 1, 2, .null), (67, .return_, 1, 0, 0, .null)]]
def fX2_append : am_F := am_meth [] [] 0 3 100000 pX2_append
def pX2_fromLatest : am_P := [[(0, .iload_n 1, 1, 1, 0, .null), (1, .iconst 0, 1, 0, 0, .int 0), (2, .aload_n 0, 1, 0, 0, .null), (3, .getfield 13, 3, 1, 2, .null), (6, .iconst 1, 1, 0, 0, .int 1), (7, .isub, 1, 0, 0, .null), (8, .invokestatic 17, 3, 0, 3, .null), (11, .ifCond .eq 19, 3, 30, 0, .null), (14, .aload_n 0, 1, 0, 0, .null), (15, .getfield 9, 3, 0, 2, .null)],
  [(18, .aload_n 0, 1, 0, 0, .null), (19, .getfield 13, 3, 1, 2, .null), (22, .iconst 1, 1, 0, 0, .int 1), (23, .isub, 1, 0, 0, .null), (24, .iload_n 1, 1, 1, 0, .null), (25, .isub, 1, 0, 0, .null), (26, .iaload, 1, 0, 0, .null), (27, .goto 4, 3, 31, 0, .null), (30, .iconst 0, 1, 0, 0, .int 0), (31, .ireturn, 1, 0, 0, .null)]]
def fX2_fromLatest : am_F := am_meth [fX9_isWithin] [] 1 2 100000 pX2_fromLatest
def pX2_above : am_P := [[(0, .iconst 0, 1, 0, 0, .int 0), (1, .istore 4, 2, 4, 0, .null), (3, .iconst 0, 1, 0, 0, .int 0), (4, .istore 5, 2, 5, 0, .null), (6, .iload 5, 2, 5, 0, .null), (8, .iload_n 3, 1, 3, 0, .null), (9, .if_icmp .ge 40, 3, 49, 0, .null), (12, .iload 5, 2, 5, 0, .null), (14, .aload_n 0, 1, 0, 0, .null), (15, .getfield 13, 3, 1, 2, .null)],
  [(18, .if_icmp .ge 31, 3, 49, 0, .null), (21, .iload 4, 2, 4, 0, .null), (23, .aload_n 0, 1, 0, 0, .null), (24, .iload 5, 2, 5, 0, .null), (26, .invokevirtual 23, 3, 0, 2, .ref 2), (29, .i2l, 1, 0, 0, .null), (30, .lload_n 1, 1, 1, 0, .null), (31, .lcmp, 1, 0, 0, .null)],
  [(32, .ifCond .le 7, 3, 39, 0, .null), (35, .iconst 1, 1, 0, 0, .int 1), (36, .goto 4, 3, 40, 0, .null), (39, .iconst 0, 1, 0, 0, .int 0), (40, .iadd, 1, 0, 0, .null), (41, .istore 4, 2, 4, 0, .null), (43, .iinc 5 1, 3, 5, 0, .int 1), (46, .goto (-40), 3, 6, 0, .null)],
  [(49, .iload 4, 2, 4, 0, .null), (51, .ireturn, 1, 0, 0, .null)]]
def fX2_above : am_F := am_meth [fX2_fromLatest] [] 1 6 100000 pX2_above
def pX2_below : am_P := [[(0, .iconst 0, 1, 0, 0, .int 0), (1, .istore 4, 2, 4, 0, .null), (3, .iconst 0, 1, 0, 0, .int 0), (4, .istore 5, 2, 5, 0, .null), (6, .iload 5, 2, 5, 0, .null), (8, .iload_n 3, 1, 3, 0, .null), (9, .if_icmp .ge 40, 3, 49, 0, .null), (12, .iload 5, 2, 5, 0, .null), (14, .aload_n 0, 1, 0, 0, .null), (15, .getfield 13, 3, 1, 2, .null)],
  [(18, .if_icmp .ge 31, 3, 49, 0, .null), (21, .iload 4, 2, 4, 0, .null), (23, .aload_n 0, 1, 0, 0, .null), (24, .iload 5, 2, 5, 0, .null), (26, .invokevirtual 23, 3, 0, 2, .ref 2), (29, .i2l, 1, 0, 0, .null), (30, .lload_n 1, 1, 1, 0, .null), (31, .lcmp, 1, 0, 0, .null)],
  [(32, .ifCond .ge 7, 3, 39, 0, .null), (35, .iconst 1, 1, 0, 0, .int 1), (36, .goto 4, 3, 40, 0, .null), (39, .iconst 0, 1, 0, 0, .int 0), (40, .iadd, 1, 0, 0, .null), (41, .istore 4, 2, 4, 0, .null), (43, .iinc 5 1, 3, 5, 0, .int 1), (46, .goto (-40), 3, 6, 0, .null)],
  [(49, .iload 4, 2, 4, 0, .null), (51, .ireturn, 1, 0, 0, .null)]]
def fX2_below : am_F := am_meth [fX2_fromLatest] [] 1 6 100000 pX2_below
def pX3_append : am_P := [[(0, .aload_n 0, 1, 0, 0, .null), (1, .getfield 15, 3, 1, 3, .null), (4, .bipush 40, 2, 0, 0, .int 40), (6, .if_icmp .ge 23, 3, 29, 0, .null), (9, .aload_n 0, 1, 0, 0, .null), (10, .getfield 9, 3, 0, 3, .null), (13, .aload_n 0, 1, 0, 0, .null), (14, .getfield 15, 3, 1, 3, .null)],
  [(17, .iload_n 1, 1, 1, 0, .null), (18, .iastore, 1, 0, 0, .null), (19, .aload_n 0, 1, 0, 0, .null), (20, .dup, 1, 0, 0, .null), (21, .getfield 15, 3, 1, 3, .null), (24, .iconst 1, 1, 0, 0, .int 1), (25, .iadd, 1, 0, 0, .null), (26, .putfield 15, 3, 1, 3, .null), (29, .return_, 1, 0, 0, .null)]]
def fX3_append : am_F := am_meth [] [] 0 2 100000 pX3_append
def pX3_dropFirst : am_P := [[(0, .iload_n 1, 1, 1, 0, .null), (1, .istore_n 2, 1, 2, 0, .null), (2, .iload_n 2, 1, 2, 0, .null), (3, .aload_n 0, 1, 0, 0, .null), (4, .getfield 15, 3, 1, 3, .null), (7, .if_icmp .ge 23, 3, 30, 0, .null), (10, .aload_n 0, 1, 0, 0, .null), (11, .getfield 9, 3, 0, 3, .null), (14, .iload_n 2, 1, 2, 0, .null), (15, .iload_n 1, 1, 1, 0, .null)],
  [(16, .isub, 1, 0, 0, .null), (17, .aload_n 0, 1, 0, 0, .null), (18, .getfield 9, 3, 0, 3, .null), (21, .iload_n 2, 1, 2, 0, .null), (22, .iaload, 1, 0, 0, .null), (23, .iastore, 1, 0, 0, .null), (24, .iinc 2 1, 3, 2, 0, .int 1), (27, .goto (-25), 3, 2, 0, .null), (30, .aload_n 0, 1, 0, 0, .null), (31, .dup, 1, 0, 0, .null)],
  [(32, .getfield 15, 3, 1, 3, .null), (35, .iload_n 1, 1, 1, 0, .null), (36, .isub, 1, 0, 0, .null), (37, .putfield 15, 3, 1, 3, .null), (40, .return_, 1, 0, 0, .null)]]
def fX3_dropFirst : am_F := am_meth [] [] 0 3 100000 pX3_dropFirst
def pX4_place : am_P := [[(0, .aload_n 0, 1, 0, 0, .null), (1, .iload_n 1, 1, 1, 0, .null), (2, .putfield 9, 3, 0, 4, .null), (5, .aload_n 0, 1, 0, 0, .null), (6, .iload_n 2, 1, 2, 0, .null), (7, .putfield 15, 3, 1, 4, .null), (10, .aload_n 0, 1, 0, 0, .null), (11, .iload_n 3, 1, 3, 0, .null), (12, .putfield 18, 3, 2, 4, .null), (15, .return_, 1, 0, 0, .null)]]
def fX4_place : am_F := am_meth [] [] 0 4 100000 pX4_place
def pX4_isOpen : am_P := [[(0, .aload_n 0, 1, 0, 0, .null), (1, .getfield 22, 3, 3, 4, .null), (4, .ifCond .eq 11, 3, 15, 0, .null), (7, .aload_n 0, 1, 0, 0, .null), (8, .getfield 22, 3, 3, 4, .null), (11, .iconst 1, 1, 0, 0, .int 1), (12, .if_icmp .ne 7, 3, 19, 0, .null), (15, .iconst 1, 1, 0, 0, .int 1)],
  [(16, .goto 4, 3, 20, 0, .null), (19, .iconst 0, 1, 0, 0, .int 0), (20, .ireturn, 1, 0, 0, .null)]]
def fX4_isOpen : am_F := am_meth [] [] 2 1 100000 pX4_isOpen
def pX4_startRun : am_P := [[(0, .aload_n 0, 1, 0, 0, .null), (1, .iconst 1, 1, 0, 0, .int 1), (2, .putfield 22, 3, 3, 4, .null), (5, .aload_n 0, 1, 0, 0, .null), (6, .dup, 1, 0, 0, .null), (7, .getfield 28, 3, 5, 4, .null), (10, .iconst 1, 1, 0, 0, .int 1), (11, .iadd, 1, 0, 0, .null), (12, .putfield 28, 3, 5, 4, .null), (15, .aload_n 0, 1, 0, 0, .null)],
  [(16, .iload_n 1, 1, 1, 0, .null), (17, .putfield 34, 3, 7, 4, .null), (20, .return_, 1, 0, 0, .null)]]
def fX4_startRun : am_F := am_meth [] [] 0 2 100000 pX4_startRun
def pX4_waitAgain : am_P := [[(0, .aload_n 0, 1, 0, 0, .null), (1, .iconst 0, 1, 0, 0, .int 0), (2, .putfield 22, 3, 3, 4, .null), (5, .aload_n 0, 1, 0, 0, .null), (6, .iconst (-1), 1, 0, 0, .int (-1)), (7, .putfield 34, 3, 7, 4, .null), (10, .aload_n 0, 1, 0, 0, .null), (11, .iload_n 1, 1, 1, 0, .null), (12, .putfield 31, 3, 6, 4, .null), (15, .return_, 1, 0, 0, .null)]]
def fX4_waitAgain : am_F := am_meth [] [] 0 2 100000 pX4_waitAgain
def pX4_fail : am_P := [[(0, .aload_n 0, 1, 0, 0, .null), (1, .iconst 3, 1, 0, 0, .int 3), (2, .putfield 22, 3, 3, 4, .null), (5, .aload_n 0, 1, 0, 0, .null), (6, .iload_n 1, 1, 1, 0, .null), (7, .putfield 25, 3, 4, 4, .null), (10, .aload_n 0, 1, 0, 0, .null), (11, .iconst (-1), 1, 0, 0, .int (-1)), (12, .putfield 34, 3, 7, 4, .null), (15, .return_, 1, 0, 0, .null)]]
def fX4_fail : am_F := am_meth [] [] 0 2 100000 pX4_fail
def pX4_breakOff : am_P := [[(0, .aload_n 0, 1, 0, 0, .null), (1, .getfield 28, 3, 5, 4, .null), (4, .iconst 1, 1, 0, 0, .int 1), (5, .if_icmp .ne 11, 3, 16, 0, .null), (8, .aload_n 0, 1, 0, 0, .null), (9, .iconst 0, 1, 0, 0, .int 0), (10, .invokevirtual 43, 3, 0, 2, .ref 4), (13, .goto 8, 3, 21, 0, .null)],
  [(16, .aload_n 0, 1, 0, 0, .null), (17, .iload_n 1, 1, 1, 0, .null), (18, .invokevirtual 47, 3, 1, 2, .ref 4), (21, .return_, 1, 0, 0, .null)]]
def fX4_breakOff : am_F := am_meth [fX4_waitAgain, fX4_fail] [] 0 2 100000 pX4_breakOff
def pX4_release : am_P := [[(0, .aload_n 0, 1, 0, 0, .null), (1, .iconst 2, 1, 0, 0, .int 2), (2, .putfield 22, 3, 3, 4, .null), (5, .aload_n 0, 1, 0, 0, .null), (6, .iconst (-1), 1, 0, 0, .int (-1)), (7, .putfield 34, 3, 7, 4, .null), (10, .aload_n 0, 1, 0, 0, .null), (11, .iload_n 1, 1, 1, 0, .null), (12, .putfield 37, 3, 8, 4, .null), (15, .aload_n 0, 1, 0, 0, .null)],
  [(16, .iload_n 2, 1, 2, 0, .null), (17, .putfield 40, 3, 9, 4, .null), (20, .return_, 1, 0, 0, .null)]]
def fX4_release : am_F := am_meth [] [] 0 3 100000 pX4_release
def pX4_runFlags : am_P := [[(0, .aload_n 0, 1, 0, 0, .null), (1, .getfield 28, 3, 5, 4, .null), (4, .iconst 1, 1, 0, 0, .int 1), (5, .if_icmp .le 8, 3, 13, 0, .null), (8, .bipush 8, 2, 0, 0, .int 8), (10, .goto 4, 3, 14, 0, .null), (13, .iconst 0, 1, 0, 0, .int 0), (14, .aload_n 0, 1, 0, 0, .null), (15, .getfield 31, 3, 6, 4, .null)],
  [(18, .ifCond .eq 8, 3, 26, 0, .null), (21, .bipush 16, 2, 0, 0, .int 16), (23, .goto 4, 3, 27, 0, .null), (26, .iconst 0, 1, 0, 0, .int 0), (27, .ior, 1, 0, 0, .null), (28, .ireturn, 1, 0, 0, .null)]]
def fX4_runFlags : am_F := am_meth [] [] 1 1 100000 pX4_runFlags
def pX5_isEmpty : am_P := [[(0, .aload_n 0, 1, 0, 0, .null), (1, .getfield 9, 3, 0, 5, .null), (4, .iconst (-1), 1, 0, 0, .int (-1)), (5, .if_icmp .ne 7, 3, 12, 0, .null), (8, .iconst 1, 1, 0, 0, .int 1), (9, .goto 4, 3, 13, 0, .null), (12, .iconst 0, 1, 0, 0, .int 0), (13, .ireturn, 1, 0, 0, .null)]]
def fX5_isEmpty : am_F := am_meth [] [] 2 1 100000 pX5_isEmpty
def pX5_fill : am_P := [[(0, .aload_n 0, 1, 0, 0, .null), (1, .iload_n 1, 1, 1, 0, .null), (2, .putfield 9, 3, 0, 5, .null), (5, .aload_n 0, 1, 0, 0, .null), (6, .iload_n 2, 1, 2, 0, .null), (7, .putfield 15, 3, 1, 5, .null), (10, .aload_n 0, 1, 0, 0, .null), (11, .iload_n 3, 1, 3, 0, .null), (12, .putfield 21, 3, 3, 5, .null), (15, .return_, 1, 0, 0, .null)]]
def fX5_fill : am_F := am_meth [] [] 0 4 100000 pX5_fill
def pX5_canGive : am_P := [[(0, .aload_n 0, 1, 0, 0, .null), (1, .getfield 9, 3, 0, 5, .null), (4, .iload_n 1, 1, 1, 0, .null), (5, .if_icmp .ne 28, 3, 33, 0, .null), (8, .iload_n 3, 1, 3, 0, .null), (9, .aload_n 0, 1, 0, 0, .null), (10, .getfield 21, 3, 3, 5, .null), (13, .if_icmp .ge 20, 3, 33, 0, .null)],
  [(16, .aload_n 0, 1, 0, 0, .null), (17, .getfield 15, 3, 1, 5, .null), (20, .aload_n 0, 1, 0, 0, .null), (21, .getfield 18, 3, 2, 5, .null), (24, .isub, 1, 0, 0, .null), (25, .iload_n 2, 1, 2, 0, .null), (26, .if_icmp .lt 7, 3, 33, 0, .null), (29, .iconst 1, 1, 0, 0, .int 1), (30, .goto 4, 3, 34, 0, .null)],
  [(33, .iconst 0, 1, 0, 0, .int 0), (34, .ireturn, 1, 0, 0, .null)]]
def fX5_canGive : am_F := am_meth [] [] 2 4 100000 pX5_canGive
def pX6_accepts : am_P := [[(0, .iload_n 0, 1, 0, 0, .null), (1, .iconst 0, 1, 0, 0, .int 0), (2, .bipush 15, 2, 0, 0, .int 15), (4, .invokestatic 33, 3, 0, 3, .null), (7, .ifCond .eq 24, 3, 31, 0, .null), (10, .iload_n 1, 1, 1, 0, .null), (11, .getstatic 37, 3, 27, 0, .null), (14, .iload_n 0, 1, 0, 0, .null), (15, .iaload, 1, 0, 0, .null)],
  [(16, .getstatic 40, 3, 28, 0, .null), (19, .iload_n 0, 1, 0, 0, .null), (20, .iaload, 1, 0, 0, .null), (21, .invokestatic 33, 3, 0, 3, .null), (24, .ifCond .eq 7, 3, 31, 0, .null), (27, .iconst 1, 1, 0, 0, .int 1), (28, .goto 4, 3, 32, 0, .null), (31, .iconst 0, 1, 0, 0, .int 0)],
  [(32, .ireturn, 1, 0, 0, .null)]]
def fX6_accepts : am_F := am_meth [fX9_isWithin] [] 2 2 100000 pX6_accepts
def pX6_kindOf : am_P := [[(0, .aload_n 0, 1, 0, 0, .null), (1, .getfield 11, 3, 0, 6, .null), (4, .iconst 1, 1, 0, 0, .int 1), (5, .iload_n 1, 1, 1, 0, .null), (6, .iconst 3, 1, 0, 0, .int 3), (7, .imul, 1, 0, 0, .null), (8, .iadd, 1, 0, 0, .null), (9, .iaload, 1, 0, 0, .null), (10, .ireturn, 1, 0, 0, .null)]]
def fX6_kindOf : am_F := am_meth [] [] 1 2 100000 pX6_kindOf
def pX6_doseOf : am_P := [[(0, .aload_n 0, 1, 0, 0, .null), (1, .getfield 11, 3, 0, 6, .null), (4, .iconst 2, 1, 0, 0, .int 2), (5, .iload_n 1, 1, 1, 0, .null), (6, .iconst 3, 1, 0, 0, .int 3), (7, .imul, 1, 0, 0, .null), (8, .iadd, 1, 0, 0, .null), (9, .iaload, 1, 0, 0, .null), (10, .ireturn, 1, 0, 0, .null)]]
def fX6_doseOf : am_F := am_meth [] [] 1 2 100000 pX6_doseOf
def pX6_ageOf : am_P := [[(0, .aload_n 0, 1, 0, 0, .null), (1, .getfield 11, 3, 0, 6, .null), (4, .iconst 3, 1, 0, 0, .int 3), (5, .iload_n 1, 1, 1, 0, .null), (6, .iconst 3, 1, 0, 0, .int 3), (7, .imul, 1, 0, 0, .null), (8, .iadd, 1, 0, 0, .null), (9, .iaload, 1, 0, 0, .null), (10, .ireturn, 1, 0, 0, .null)]]
def fX6_ageOf : am_F := am_meth [] [] 1 2 100000 pX6_ageOf
def pX6_lacks : am_P := [[(0, .aload_n 0, 1, 0, 0, .null), (1, .iload_n 1, 1, 1, 0, .null), (2, .invokevirtual 43, 3, 0, 2, .ref 6), (5, .iconst (-1), 1, 0, 0, .int (-1)), (6, .if_icmp .eq 12, 3, 18, 0, .null), (9, .iload_n 2, 1, 2, 0, .null), (10, .iconst (-1), 1, 0, 0, .int (-1)), (11, .if_icmp .ne 7, 3, 18, 0, .null), (14, .iconst 1, 1, 0, 0, .int 1), (15, .goto 4, 3, 19, 0, .null)],
  [(18, .iconst 0, 1, 0, 0, .int 0), (19, .ireturn, 1, 0, 0, .null)]]
def fX6_lacks : am_F := am_meth [fX6_kindOf] [] 2 3 100000 pX6_lacks
def pX6_sampleVolume : am_P := [[(0, .aload_n 0, 1, 0, 0, .null), (1, .getfield 11, 3, 0, 6, .null), (4, .bipush 13, 2, 0, 0, .int 13), (6, .iaload, 1, 0, 0, .null), (7, .istore_n 2, 1, 2, 0, .null), (8, .iload_n 1, 1, 1, 0, .null), (9, .ifCond .eq 18, 3, 27, 0, .null), (12, .iload_n 2, 1, 2, 0, .null), (13, .ifCond .le 14, 3, 27, 0, .null)],
  [(16, .aload_n 0, 1, 0, 0, .null), (17, .getfield 11, 3, 0, 6, .null), (20, .iconst 0, 1, 0, 0, .int 0), (21, .iaload, 1, 0, 0, .null), (22, .iload_n 2, 1, 2, 0, .null), (23, .idiv, 1, 0, 0, .null), (24, .goto 9, 3, 33, 0, .null), (27, .aload_n 0, 1, 0, 0, .null), (28, .getfield 11, 3, 0, 6, .null), (31, .iconst 0, 1, 0, 0, .int 0)],
  [(32, .iaload, 1, 0, 0, .null), (33, .ireturn, 1, 0, 0, .null)]]
def fX6_sampleVolume : am_F := am_meth [] [] 1 3 100000 pX6_sampleVolume
def pX6_isReagentRight : am_P := [[(0, .aload_n 0, 1, 0, 0, .null), (1, .iload_n 1, 1, 1, 0, .null), (2, .invokevirtual 67, 3, 0, 2, .ref 6), (5, .iconst 1, 1, 0, 0, .int 1), (6, .if_icmp .lt 31, 3, 37, 0, .null), (9, .aload_n 0, 1, 0, 0, .null), (10, .iload_n 1, 1, 1, 0, .null), (11, .invokevirtual 64, 3, 1, 2, .ref 6), (14, .iconst 1, 1, 0, 0, .int 1), (15, .if_icmp .lt 22, 3, 37, 0, .null)],
  [(18, .aload_n 0, 1, 0, 0, .null), (19, .iload_n 1, 1, 1, 0, .null), (20, .invokevirtual 64, 3, 1, 2, .ref 6), (23, .aload_n 0, 1, 0, 0, .null), (24, .getfield 11, 3, 0, 6, .null), (27, .bipush 7, 2, 0, 0, .int 7), (29, .iaload, 1, 0, 0, .null), (30, .if_icmp .ge 7, 3, 37, 0, .null)],
  [(33, .iconst 1, 1, 0, 0, .int 1), (34, .goto 4, 3, 38, 0, .null), (37, .iconst 0, 1, 0, 0, .int 0), (38, .ireturn, 1, 0, 0, .null)]]
def fX6_isReagentRight : am_F := am_meth [fX6_doseOf, fX6_ageOf] [] 2 2 100000 pX6_isReagentRight
def pX6_areReagentsRight : am_P := [[(0, .aload_n 0, 1, 0, 0, .null), (1, .iconst 0, 1, 0, 0, .int 0), (2, .invokevirtual 43, 3, 0, 2, .ref 6), (5, .iconst (-1), 1, 0, 0, .int (-1)), (6, .if_icmp .ne 18, 3, 24, 0, .null), (9, .aload_n 0, 1, 0, 0, .null), (10, .iconst 1, 1, 0, 0, .int 1), (11, .invokevirtual 43, 3, 0, 2, .ref 6), (14, .iconst (-1), 1, 0, 0, .int (-1)), (15, .if_icmp .ne 7, 3, 22, 0, .null)],
  [(18, .iconst 1, 1, 0, 0, .int 1), (19, .goto 4, 3, 23, 0, .null), (22, .iconst 0, 1, 0, 0, .int 0), (23, .ireturn, 1, 0, 0, .null), (24, .aload_n 0, 1, 0, 0, .null), (25, .iconst 0, 1, 0, 0, .int 0), (26, .invokevirtual 60, 3, 1, 2, .ref 6), (29, .ifCond .eq 37, 3, 66, 0, .null)],
  [(32, .aload_n 0, 1, 0, 0, .null), (33, .iconst 1, 1, 0, 0, .int 1), (34, .invokevirtual 43, 3, 0, 2, .ref 6), (37, .iconst (-1), 1, 0, 0, .int (-1)), (38, .if_icmp .eq 24, 3, 62, 0, .null), (41, .aload_n 0, 1, 0, 0, .null), (42, .iconst 1, 1, 0, 0, .int 1), (43, .invokevirtual 60, 3, 1, 2, .ref 6), (46, .ifCond .eq 20, 3, 66, 0, .null)],
  [(49, .aload_n 0, 1, 0, 0, .null), (50, .iconst 1, 1, 0, 0, .int 1), (51, .invokevirtual 64, 3, 2, 2, .ref 6), (54, .aload_n 0, 1, 0, 0, .null), (55, .iconst 0, 1, 0, 0, .int 0), (56, .invokevirtual 64, 3, 2, 2, .ref 6), (59, .if_icmp .le 7, 3, 66, 0, .null), (62, .iconst 1, 1, 0, 0, .int 1), (63, .goto 4, 3, 67, 0, .null)],
  [(66, .iconst 0, 1, 0, 0, .int 0), (67, .ireturn, 1, 0, 0, .null)]]
def fX6_areReagentsRight : am_F := am_meth [fX6_kindOf, fX6_isReagentRight, fX6_ageOf] [] 2 1 100000 pX6_areReagentsRight
def pX6_areReadingsRight : am_P := [[(0, .aload_n 0, 1, 0, 0, .null), (1, .getfield 11, 3, 0, 6, .null), (4, .bipush 8, 2, 0, 0, .int 8), (6, .iaload, 1, 0, 0, .null), (7, .aload_n 0, 1, 0, 0, .null), (8, .getfield 11, 3, 0, 6, .null), (11, .bipush 7, 2, 0, 0, .int 7), (13, .iaload, 1, 0, 0, .null), (14, .isub, 1, 0, 0, .null), (15, .iconst 1, 1, 0, 0, .int 1)],
  [(16, .iadd, 1, 0, 0, .null), (17, .istore_n 1, 1, 1, 0, .null), (18, .aload_n 0, 1, 0, 0, .null), (19, .getfield 11, 3, 0, 6, .null), (22, .bipush 9, 2, 0, 0, .int 9), (24, .iaload, 1, 0, 0, .null), (25, .ifCond .ne 7, 3, 32, 0, .null), (28, .iconst 1, 1, 0, 0, .int 1), (29, .goto 4, 3, 33, 0, .null)],
  [(32, .iconst 2, 1, 0, 0, .int 2), (33, .istore_n 2, 1, 2, 0, .null), (34, .aload_n 0, 1, 0, 0, .null), (35, .getfield 11, 3, 0, 6, .null), (38, .bipush 7, 2, 0, 0, .int 7), (40, .iaload, 1, 0, 0, .null), (41, .iconst 1, 1, 0, 0, .int 1), (42, .if_icmp .lt 17, 3, 59, 0, .null), (45, .iload_n 1, 1, 1, 0, .null), (46, .iload_n 2, 1, 2, 0, .null), (47, .bipush 6, 2, 0, 0, .int 6)],
  [(49, .invokestatic 33, 3, 0, 3, .null), (52, .ifCond .eq 7, 3, 59, 0, .null), (55, .iconst 1, 1, 0, 0, .int 1), (56, .goto 4, 3, 60, 0, .null), (59, .iconst 0, 1, 0, 0, .int 0), (60, .ireturn, 1, 0, 0, .null)]]
def fX6_areReadingsRight : am_F := am_meth [fX9_isWithin] [] 2 3 100000 pX6_areReadingsRight
def pX6_dilutes : am_P := [[(0, .aload_n 0, 1, 0, 0, .null), (1, .getfield 11, 3, 0, 6, .null), (4, .bipush 12, 2, 0, 0, .int 12), (6, .iaload, 1, 0, 0, .null), (7, .iconst 2, 1, 0, 0, .int 2), (8, .if_icmp .ne 7, 3, 15, 0, .null), (11, .iconst 1, 1, 0, 0, .int 1), (12, .goto 4, 3, 16, 0, .null), (15, .iconst 0, 1, 0, 0, .int 0)],
  [(16, .ireturn, 1, 0, 0, .null)]]
def fX6_dilutes : am_F := am_meth [] [] 2 1 100000 pX6_dilutes
def pX6_isDilutionRight : am_P := [[(0, .aload_n 0, 1, 0, 0, .null), (1, .getfield 11, 3, 0, 6, .null), (4, .bipush 13, 2, 0, 0, .int 13), (6, .iaload, 1, 0, 0, .null), (7, .istore_n 1, 1, 1, 0, .null), (8, .aload_n 0, 1, 0, 0, .null), (9, .invokevirtual 70, 3, 0, 1, .ref 6), (12, .ifCond .eq 18, 3, 30, 0, .null), (15, .iload_n 1, 1, 1, 0, .null)],
  [(16, .ifCond .le 18, 3, 34, 0, .null), (19, .aload_n 0, 1, 0, 0, .null), (20, .getfield 11, 3, 0, 6, .null), (23, .iconst 0, 1, 0, 0, .int 0), (24, .iaload, 1, 0, 0, .null), (25, .iload_n 1, 1, 1, 0, .null), (26, .irem, 1, 0, 0, .null), (27, .ifCond .ne 7, 3, 34, 0, .null), (30, .iconst 1, 1, 0, 0, .int 1), (31, .goto 4, 3, 35, 0, .null)],
  [(34, .iconst 0, 1, 0, 0, .int 0), (35, .ireturn, 1, 0, 0, .null)]]
def fX6_isDilutionRight : am_F := am_meth [fX6_dilutes] [] 2 2 100000 pX6_isDilutionRight
def pX6_isComplete : am_P := [[(0, .aload_n 0, 1, 0, 0, .null), (1, .getfield 11, 3, 0, 6, .null), (4, .iconst 0, 1, 0, 0, .int 0), (5, .iaload, 1, 0, 0, .null), (6, .iconst 1, 1, 0, 0, .int 1), (7, .if_icmp .lt 55, 3, 62, 0, .null), (10, .aload_n 0, 1, 0, 0, .null), (11, .invokevirtual 47, 3, 0, 1, .ref 6), (14, .ifCond .eq 48, 3, 62, 0, .null)],
  [(17, .aload_n 0, 1, 0, 0, .null), (18, .invokevirtual 51, 3, 1, 1, .ref 6), (21, .ifCond .eq 41, 3, 62, 0, .null), (24, .aload_n 0, 1, 0, 0, .null), (25, .getfield 11, 3, 0, 6, .null), (28, .bipush 10, 2, 0, 0, .int 10), (30, .iaload, 1, 0, 0, .null), (31, .aload_n 0, 1, 0, 0, .null)],
  [(32, .getfield 11, 3, 0, 6, .null), (35, .bipush 11, 2, 0, 0, .int 11), (37, .iaload, 1, 0, 0, .null), (38, .if_icmp .gt 24, 3, 62, 0, .null), (41, .aload_n 0, 1, 0, 0, .null), (42, .invokevirtual 54, 3, 2, 1, .ref 6), (45, .ifCond .eq 17, 3, 62, 0, .null)],
  [(48, .aload_n 0, 1, 0, 0, .null), (49, .getfield 18, 3, 1, 6, .null), (52, .invokevirtual 57, 3, 3, 1, .ref 0), (55, .ifCond .eq 7, 3, 62, 0, .null), (58, .iconst 1, 1, 0, 0, .int 1), (59, .goto 4, 3, 63, 0, .null), (62, .iconst 0, 1, 0, 0, .int 0), (63, .ireturn, 1, 0, 0, .null)]]
def fX6_isComplete : am_F := am_meth [fX6_areReagentsRight, fX6_areReadingsRight, fX6_isDilutionRight, fX0_isComplete] [] 2 1 100000 pX6_isComplete
def pX6_isReadAt : am_P := [[(0, .iload_n 1, 1, 1, 0, .null), (1, .aload_n 0, 1, 0, 0, .null), (2, .getfield 11, 3, 0, 6, .null), (5, .bipush 7, 2, 0, 0, .int 7), (7, .iaload, 1, 0, 0, .null), (8, .aload_n 0, 1, 0, 0, .null), (9, .getfield 11, 3, 0, 6, .null), (12, .bipush 8, 2, 0, 0, .int 8), (14, .iaload, 1, 0, 0, .null), (15, .invokestatic 33, 3, 0, 3, .null)],
  [(18, .ireturn, 1, 0, 0, .null)]]
def fX6_isReadAt : am_F := am_meth [fX9_isWithin] [] 2 2 100000 pX6_isReadAt
def pX6_isOverAt : am_P := [[(0, .iload_n 1, 1, 1, 0, .null), (1, .aload_n 0, 1, 0, 0, .null), (2, .getfield 11, 3, 0, 6, .null), (5, .bipush 8, 2, 0, 0, .int 8), (7, .iaload, 1, 0, 0, .null), (8, .if_icmp .le 7, 3, 15, 0, .null), (11, .iconst 1, 1, 0, 0, .int 1), (12, .goto 4, 3, 16, 0, .null), (15, .iconst 0, 1, 0, 0, .int 0)],
  [(16, .ireturn, 1, 0, 0, .null)]]
def fX6_isOverAt : am_F := am_meth [] [] 2 2 100000 pX6_isOverAt
def pX6_asksAgain : am_P := [[(0, .aload_n 0, 1, 0, 0, .null), (1, .getfield 11, 3, 0, 6, .null), (4, .bipush 12, 2, 0, 0, .int 12), (6, .iaload, 1, 0, 0, .null), (7, .iconst 2, 1, 0, 0, .int 2), (8, .if_icmp .ne 9, 3, 17, 0, .null), (11, .iload_n 1, 1, 1, 0, .null), (12, .iconst 2, 1, 0, 0, .int 2), (13, .iand, 1, 0, 0, .null), (14, .ifCond .ne 20, 3, 34, 0, .null)],
  [(17, .aload_n 0, 1, 0, 0, .null), (18, .getfield 11, 3, 0, 6, .null), (21, .bipush 12, 2, 0, 0, .int 12), (23, .iaload, 1, 0, 0, .null), (24, .iconst 1, 1, 0, 0, .int 1), (25, .if_icmp .ne 13, 3, 38, 0, .null), (28, .iload_n 1, 1, 1, 0, .null), (29, .iconst 3, 1, 0, 0, .int 3), (30, .iand, 1, 0, 0, .null), (31, .ifCond .eq 7, 3, 38, 0, .null)],
  [(34, .iconst 1, 1, 0, 0, .int 1), (35, .goto 4, 3, 39, 0, .null), (38, .iconst 0, 1, 0, 0, .int 0), (39, .ireturn, 1, 0, 0, .null)]]
def fX6_asksAgain : am_F := am_meth [] [] 2 2 100000 pX6_asksAgain
def pX6_limitFlags : am_P := [[(0, .iload_n 1, 1, 1, 0, .null), (1, .aload_n 0, 1, 0, 0, .null), (2, .getfield 11, 3, 0, 6, .null), (5, .bipush 10, 2, 0, 0, .int 10), (7, .iaload, 1, 0, 0, .null), (8, .if_icmp .ge 7, 3, 15, 0, .null), (11, .iconst 1, 1, 0, 0, .int 1), (12, .goto 4, 3, 16, 0, .null), (15, .iconst 0, 1, 0, 0, .int 0)],
  [(16, .iload_n 1, 1, 1, 0, .null), (17, .aload_n 0, 1, 0, 0, .null), (18, .getfield 11, 3, 0, 6, .null), (21, .bipush 11, 2, 0, 0, .int 11), (23, .iaload, 1, 0, 0, .null), (24, .if_icmp .le 7, 3, 31, 0, .null), (27, .iconst 2, 1, 0, 0, .int 2), (28, .goto 4, 3, 32, 0, .null), (31, .iconst 0, 1, 0, 0, .int 0)],
  [(32, .ior, 1, 0, 0, .null), (33, .ireturn, 1, 0, 0, .null)]]
def fX6_limitFlags : am_F := am_meth [] [] 1 2 100000 pX6_limitFlags
def pX6_valueAt : am_P := [[(0, .aload_n 0, 1, 0, 0, .null), (1, .getfield 18, 3, 1, 6, .null), (4, .lload_n 1, 1, 1, 0, .null), (5, .invokevirtual 73, 3, 0, 2, .ref 0), (8, .lstore 4, 2, 4, 0, .null), (10, .iload_n 3, 1, 3, 0, .null), (11, .ifCond .eq 17, 3, 28, 0, .null), (14, .lload 4, 2, 4, 0, .null)],
  [(16, .aload_n 0, 1, 0, 0, .null), (17, .getfield 11, 3, 0, 6, .null), (20, .bipush 13, 2, 0, 0, .int 13), (22, .iaload, 1, 0, 0, .null), (23, .i2l, 1, 0, 0, .null), (24, .lmul, 1, 0, 0, .null), (25, .goto 5, 3, 30, 0, .null), (28, .lload 4, 2, 4, 0, .null), (30, .lreturn, 1, 0, 0, .null)]]
def fX6_valueAt : am_F := am_meth [fX0_valueAt] [] 3 6 100000 pX6_valueAt
def pX6_rateOf : am_P := [[(0, .lconst 0, 1, 0, 0, .long 0), (1, .lstore_n 2, 1, 2, 0, .null), (2, .lconst 0, 1, 0, 0, .long 0), (3, .lstore 4, 2, 4, 0, .null), (5, .lconst 0, 1, 0, 0, .long 0), (6, .lstore 6, 2, 6, 0, .null), (8, .lconst 0, 1, 0, 0, .long 0), (9, .lstore 8, 2, 8, 0, .null), (11, .iconst 0, 1, 0, 0, .int 0), (12, .istore 10, 2, 10, 0, .null), (14, .iload 10, 2, 10, 0, .null)],
  [(16, .iload_n 1, 1, 1, 0, .null), (17, .if_icmp .ge 58, 3, 75, 0, .null), (20, .iload 10, 2, 10, 0, .null), (22, .aload_n 0, 1, 0, 0, .null), (23, .arraylength, 1, 0, 0, .null), (24, .if_icmp .ge 51, 3, 75, 0, .null), (27, .lload_n 2, 1, 2, 0, .null), (28, .iload 10, 2, 10, 0, .null), (30, .i2l, 1, 0, 0, .null), (31, .ladd, 1, 0, 0, .null)],
  [(32, .lstore_n 2, 1, 2, 0, .null), (33, .lload 4, 2, 4, 0, .null), (35, .iload 10, 2, 10, 0, .null), (37, .i2l, 1, 0, 0, .null), (38, .iload 10, 2, 10, 0, .null), (40, .i2l, 1, 0, 0, .null), (41, .lmul, 1, 0, 0, .null), (42, .ladd, 1, 0, 0, .null), (43, .lstore 4, 2, 4, 0, .null), (45, .lload 6, 2, 6, 0, .null), (47, .aload_n 0, 1, 0, 0, .null)],
  [(48, .iload 10, 2, 10, 0, .null), (50, .iaload, 1, 0, 0, .null), (51, .i2l, 1, 0, 0, .null), (52, .ladd, 1, 0, 0, .null), (53, .lstore 6, 2, 6, 0, .null), (55, .lload 8, 2, 8, 0, .null), (57, .iload 10, 2, 10, 0, .null), (59, .i2l, 1, 0, 0, .null), (60, .aload_n 0, 1, 0, 0, .null), (61, .iload 10, 2, 10, 0, .null), (63, .iaload, 1, 0, 0, .null)],
  [(64, .i2l, 1, 0, 0, .null), (65, .lmul, 1, 0, 0, .null), (66, .ladd, 1, 0, 0, .null), (67, .lstore 8, 2, 8, 0, .null), (69, .iinc 10 1, 3, 10, 0, .int 1), (72, .goto (-58), 3, 14, 0, .null), (75, .ldc2_w 81, 3, 0, 0, .long 1000), (78, .iload_n 1, 1, 1, 0, .null), (79, .i2l, 1, 0, 0, .null)],
  [(80, .lload 8, 2, 8, 0, .null), (82, .lmul, 1, 0, 0, .null), (83, .lload_n 2, 1, 2, 0, .null), (84, .lload 6, 2, 6, 0, .null), (86, .lmul, 1, 0, 0, .null), (87, .lsub, 1, 0, 0, .null), (88, .lmul, 1, 0, 0, .null), (89, .iload_n 1, 1, 1, 0, .null), (90, .i2l, 1, 0, 0, .null), (91, .lload 4, 2, 4, 0, .null), (93, .lmul, 1, 0, 0, .null), (94, .lload_n 2, 1, 2, 0, .null), (95, .lload_n 2, 1, 2, 0, .null)],
  [(96, .lmul, 1, 0, 0, .null), (97, .lsub, 1, 0, 0, .null), (98, .invokestatic 83, 3, 0, 2, .null), (101, .lreturn, 1, 0, 0, .null)]]
def fX6_rateOf : am_F := am_meth [fX9_rounded] [] 3 11 100000 pX6_rateOf
def pX6_formulaOf : am_P := [[(0, .iload_n 2, 1, 2, 0, .null), (1, .iconst 1, 1, 0, 0, .int 1), (2, .aload_n 1, 1, 1, 0, .null), (3, .arraylength, 1, 0, 0, .null), (4, .invokestatic 33, 3, 0, 3, .null), (7, .ifCond .ne 5, 3, 12, 0, .null), (10, .lconst 0, 1, 0, 0, .long 0), (11, .lreturn, 1, 0, 0, .null), (12, .aload_n 0, 1, 0, 0, .null), (13, .getfield 11, 3, 0, 6, .null)],
  [(16, .bipush 9, 2, 0, 0, .int 9), (18, .iaload, 1, 0, 0, .null), (19, .iconst 1, 1, 0, 0, .int 1), (20, .if_icmp .ne 9, 3, 29, 0, .null), (23, .aload_n 1, 1, 1, 0, .null), (24, .iload_n 2, 1, 2, 0, .null), (25, .invokestatic 77, 3, 1, 2, .null), (28, .lreturn, 1, 0, 0, .null), (29, .aload_n 1, 1, 1, 0, .null), (30, .iload_n 2, 1, 2, 0, .null), (31, .iconst 1, 1, 0, 0, .int 1)],
  [(32, .isub, 1, 0, 0, .null), (33, .iaload, 1, 0, 0, .null), (34, .istore_n 3, 1, 3, 0, .null), (35, .aload_n 0, 1, 0, 0, .null), (36, .getfield 11, 3, 0, 6, .null), (39, .bipush 9, 2, 0, 0, .int 9), (41, .iaload, 1, 0, 0, .null), (42, .ifCond .ne 8, 3, 50, 0, .null), (45, .iload_n 3, 1, 3, 0, .null), (46, .i2l, 1, 0, 0, .null), (47, .goto 9, 3, 56, 0, .null)],
  [(50, .iload_n 3, 1, 3, 0, .null), (51, .aload_n 1, 1, 1, 0, .null), (52, .iconst 0, 1, 0, 0, .int 0), (53, .iaload, 1, 0, 0, .null), (54, .isub, 1, 0, 0, .null), (55, .i2l, 1, 0, 0, .null), (56, .lreturn, 1, 0, 0, .null)]]
def fX6_formulaOf : am_F := am_meth [fX9_isWithin, fX6_rateOf] [] 3 4 100000 pX6_formulaOf
def pX6_brokenRules : am_P := [[(0, .aload_n 0, 1, 0, 0, .null), (1, .getfield 11, 3, 0, 6, .null), (4, .bipush 14, 2, 0, 0, .int 14), (6, .iaload, 1, 0, 0, .null), (7, .i2l, 1, 0, 0, .null), (8, .lstore_n 1, 1, 1, 0, .null), (9, .aload_n 0, 1, 0, 0, .null), (10, .getfield 11, 3, 0, 6, .null), (13, .bipush 15, 2, 0, 0, .int 15), (15, .iaload, 1, 0, 0, .null)],
  [(16, .i2l, 1, 0, 0, .null), (17, .lstore_n 3, 1, 3, 0, .null), (18, .aload_n 0, 1, 0, 0, .null), (19, .getfield 25, 3, 2, 6, .null), (22, .lload_n 1, 1, 1, 0, .null), (23, .ldc2_w 87, 3, 0, 0, .long 3), (26, .lload_n 3, 1, 3, 0, .null), (27, .lmul, 1, 0, 0, .null), (28, .ladd, 1, 0, 0, .null), (29, .iconst 1, 1, 0, 0, .int 1), (30, .invokevirtual 89, 3, 0, 3, .ref 2)],
  [(33, .iconst 1, 1, 0, 0, .int 1), (34, .if_icmp .eq 22, 3, 56, 0, .null), (37, .aload_n 0, 1, 0, 0, .null), (38, .getfield 25, 3, 2, 6, .null), (41, .lload_n 1, 1, 1, 0, .null), (42, .ldc2_w 87, 3, 0, 0, .long 3), (45, .lload_n 3, 1, 3, 0, .null), (46, .lmul, 1, 0, 0, .null), (47, .lsub, 1, 0, 0, .null)],
  [(48, .iconst 1, 1, 0, 0, .int 1), (49, .invokevirtual 93, 3, 1, 3, .ref 2), (52, .iconst 1, 1, 0, 0, .int 1), (53, .if_icmp .ne 7, 3, 60, 0, .null), (56, .iconst 1, 1, 0, 0, .int 1), (57, .goto 4, 3, 61, 0, .null), (60, .iconst 0, 1, 0, 0, .int 0), (61, .istore 5, 2, 5, 0, .null), (63, .aload_n 0, 1, 0, 0, .null)],
  [(64, .getfield 25, 3, 2, 6, .null), (67, .lload_n 1, 1, 1, 0, .null), (68, .ldc2_w 96, 3, 0, 0, .long 2), (71, .lload_n 3, 1, 3, 0, .null), (72, .lmul, 1, 0, 0, .null), (73, .ladd, 1, 0, 0, .null), (74, .iconst 3, 1, 0, 0, .int 3), (75, .invokevirtual 89, 3, 0, 3, .ref 2), (78, .iconst 2, 1, 0, 0, .int 2), (79, .if_icmp .ge 22, 3, 101, 0, .null)],
  [(82, .aload_n 0, 1, 0, 0, .null), (83, .getfield 25, 3, 2, 6, .null), (86, .lload_n 1, 1, 1, 0, .null), (87, .ldc2_w 96, 3, 0, 0, .long 2), (90, .lload_n 3, 1, 3, 0, .null), (91, .lmul, 1, 0, 0, .null), (92, .lsub, 1, 0, 0, .null), (93, .iconst 3, 1, 0, 0, .int 3), (94, .invokevirtual 93, 3, 1, 3, .ref 2)],
  [(97, .iconst 2, 1, 0, 0, .int 2), (98, .if_icmp .lt 7, 3, 105, 0, .null), (101, .iconst 1, 1, 0, 0, .int 1), (102, .goto 4, 3, 106, 0, .null), (105, .iconst 0, 1, 0, 0, .int 0), (106, .istore 6, 2, 6, 0, .null), (108, .aload_n 0, 1, 0, 0, .null), (109, .getfield 25, 3, 2, 6, .null)],
  [(112, .lload_n 1, 1, 1, 0, .null), (113, .bipush 10, 2, 0, 0, .int 10), (115, .invokevirtual 89, 3, 0, 3, .ref 2), (118, .bipush 10, 2, 0, 0, .int 10), (120, .if_icmp .eq 18, 3, 138, 0, .null), (123, .aload_n 0, 1, 0, 0, .null), (124, .getfield 25, 3, 2, 6, .null), (127, .lload_n 1, 1, 1, 0, .null)],
  [(128, .bipush 10, 2, 0, 0, .int 10), (130, .invokevirtual 93, 3, 1, 3, .ref 2), (133, .bipush 10, 2, 0, 0, .int 10), (135, .if_icmp .ne 7, 3, 142, 0, .null), (138, .iconst 1, 1, 0, 0, .int 1), (139, .goto 4, 3, 143, 0, .null), (142, .iconst 0, 1, 0, 0, .int 0), (143, .istore 7, 2, 7, 0, .null)],
  [(145, .iload 5, 2, 5, 0, .null), (147, .ifCond .eq 7, 3, 154, 0, .null), (150, .iconst 1, 1, 0, 0, .int 1), (151, .goto 4, 3, 155, 0, .null), (154, .iconst 0, 1, 0, 0, .int 0), (155, .iload 6, 2, 6, 0, .null), (157, .ifCond .eq 7, 3, 164, 0, .null)],
  [(160, .iconst 2, 1, 0, 0, .int 2), (161, .goto 4, 3, 165, 0, .null), (164, .iconst 0, 1, 0, 0, .int 0), (165, .ior, 1, 0, 0, .null), (166, .iload 7, 2, 7, 0, .null), (168, .ifCond .eq 7, 3, 175, 0, .null), (171, .iconst 4, 1, 0, 0, .int 4), (172, .goto 4, 3, 176, 0, .null), (175, .iconst 0, 1, 0, 0, .int 0)],
  [(176, .ior, 1, 0, 0, .null), (177, .ireturn, 1, 0, 0, .null)]]
def fX6_brokenRules : am_F := am_meth [fX2_above, fX2_below] [] 1 8 100000 pX6_brokenRules
def pX7_turnSuccession : am_P := [[(0, .iload_n 1, 1, 1, 0, .null), (1, .bipush 6, 2, 0, 0, .int 6), (3, .imul, 1, 0, 0, .null), (4, .iload_n 2, 1, 2, 0, .null), (5, .iadd, 1, 0, 0, .null), (6, .istore_n 3, 1, 3, 0, .null), (7, .aload_n 0, 1, 0, 0, .null), (8, .getfield 18, 3, 2, 7, .null), (11, .iload_n 3, 1, 3, 0, .null), (12, .aload_n 0, 1, 0, 0, .null), (13, .getfield 18, 3, 2, 7, .null)],
  [(16, .iload_n 3, 1, 3, 0, .null), (17, .baload, 1, 0, 0, .null), (18, .ifCond .ne 7, 3, 25, 0, .null), (21, .iconst 1, 1, 0, 0, .int 1), (22, .goto 4, 3, 26, 0, .null), (25, .iconst 0, 1, 0, 0, .int 0), (26, .bastore, 1, 0, 0, .null), (27, .aload_n 0, 1, 0, 0, .null), (28, .getfield 18, 3, 2, 7, .null), (31, .iload_n 3, 1, 3, 0, .null)],
  [(32, .baload, 1, 0, 0, .null), (33, .ireturn, 1, 0, 0, .null)]]
def fX7_turnSuccession : am_F := am_meth [] [] 2 4 100000 pX7_turnSuccession
def pX7_clear : am_P := [[(0, .aload_n 0, 1, 0, 0, .null), (1, .getfield 9, 3, 0, 7, .null), (4, .iload_n 1, 1, 1, 0, .null), (5, .iconst (-1), 1, 0, 0, .int (-1)), (6, .iastore, 1, 0, 0, .null), (7, .aload_n 0, 1, 0, 0, .null), (8, .getfield 15, 3, 1, 7, .null), (11, .iload_n 1, 1, 1, 0, .null), (12, .iconst (-1), 1, 0, 0, .int (-1)), (13, .iastore, 1, 0, 0, .null), (14, .return_, 1, 0, 0, .null)]]
def fX7_clear : am_F := am_meth [] [] 0 2 100000 pX7_clear
def pX7_turn : am_P := [[(0, .iconst 0, 1, 0, 0, .int 0), (1, .istore_n 1, 1, 1, 0, .null), (2, .iload_n 1, 1, 1, 0, .null), (3, .bipush 12, 2, 0, 0, .int 12), (5, .if_icmp .ge 37, 3, 42, 0, .null), (8, .aload_n 0, 1, 0, 0, .null), (9, .getfield 9, 3, 0, 7, .null), (12, .iload_n 1, 1, 1, 0, .null), (13, .aload_n 0, 1, 0, 0, .null), (14, .getfield 9, 3, 0, 7, .null)],
  [(17, .iload_n 1, 1, 1, 0, .null), (18, .iconst 1, 1, 0, 0, .int 1), (19, .iadd, 1, 0, 0, .null), (20, .iaload, 1, 0, 0, .null), (21, .iastore, 1, 0, 0, .null), (22, .aload_n 0, 1, 0, 0, .null), (23, .getfield 15, 3, 1, 7, .null), (26, .iload_n 1, 1, 1, 0, .null), (27, .aload_n 0, 1, 0, 0, .null), (28, .getfield 15, 3, 1, 7, .null), (31, .iload_n 1, 1, 1, 0, .null)],
  [(32, .iconst 1, 1, 0, 0, .int 1), (33, .iadd, 1, 0, 0, .null), (34, .iaload, 1, 0, 0, .null), (35, .iastore, 1, 0, 0, .null), (36, .iinc 1 1, 3, 1, 0, .int 1), (39, .goto (-37), 3, 2, 0, .null), (42, .aload_n 0, 1, 0, 0, .null), (43, .bipush 12, 2, 0, 0, .int 12), (45, .invokevirtual 22, 3, 0, 2, .ref 7)],
  [(48, .return_, 1, 0, 0, .null)]]
def fX7_turn : am_F := am_meth [fX7_clear] [] 0 2 100000 pX7_turn
def pX7_userNow : am_P := [[(0, .aload_n 0, 1, 0, 0, .null), (1, .getfield 15, 3, 1, 7, .null), (4, .iconst 0, 1, 0, 0, .int 0), (5, .iaload, 1, 0, 0, .null), (6, .ireturn, 1, 0, 0, .null)]]
def fX7_userNow : am_F := am_meth [] [] 1 1 100000 pX7_userNow
def pX7_isFree : am_P := [[(0, .iload_n 1, 1, 1, 0, .null), (1, .iconst 1, 1, 0, 0, .int 1), (2, .bipush 12, 2, 0, 0, .int 12), (4, .invokestatic 46, 3, 0, 3, .null), (7, .ifCond .eq 17, 3, 24, 0, .null), (10, .aload_n 0, 1, 0, 0, .null), (11, .getfield 9, 3, 0, 7, .null), (14, .iload_n 1, 1, 1, 0, .null), (15, .iaload, 1, 0, 0, .null)],
  [(16, .iconst (-1), 1, 0, 0, .int (-1)), (17, .if_icmp .ne 7, 3, 24, 0, .null), (20, .iconst 1, 1, 0, 0, .int 1), (21, .goto 4, 3, 25, 0, .null), (24, .iconst 0, 1, 0, 0, .int 0), (25, .ireturn, 1, 0, 0, .null)]]
def fX7_isFree : am_F := am_meth [fX9_isWithin] [] 2 2 100000 pX7_isFree
def pX7_hasForbiddenSuccession : am_P := [[(0, .iconst 1, 1, 0, 0, .int 1), (1, .istore_n 1, 1, 1, 0, .null), (2, .iload_n 1, 1, 1, 0, .null), (3, .bipush 12, 2, 0, 0, .int 12), (5, .if_icmp .gt 59, 3, 64, 0, .null), (8, .aload_n 0, 1, 0, 0, .null), (9, .getfield 9, 3, 0, 7, .null), (12, .iload_n 1, 1, 1, 0, .null), (13, .iconst 1, 1, 0, 0, .int 1), (14, .isub, 1, 0, 0, .null), (15, .iaload, 1, 0, 0, .null)],
  [(16, .iconst (-1), 1, 0, 0, .int (-1)), (17, .if_icmp .eq 41, 3, 58, 0, .null), (20, .aload_n 0, 1, 0, 0, .null), (21, .getfield 9, 3, 0, 7, .null), (24, .iload_n 1, 1, 1, 0, .null), (25, .iaload, 1, 0, 0, .null), (26, .iconst (-1), 1, 0, 0, .int (-1)), (27, .if_icmp .eq 31, 3, 58, 0, .null), (30, .aload_n 0, 1, 0, 0, .null), (31, .getfield 18, 3, 2, 7, .null)],
  [(34, .aload_n 0, 1, 0, 0, .null), (35, .getfield 9, 3, 0, 7, .null), (38, .iload_n 1, 1, 1, 0, .null), (39, .iconst 1, 1, 0, 0, .int 1), (40, .isub, 1, 0, 0, .null), (41, .iaload, 1, 0, 0, .null), (42, .bipush 6, 2, 0, 0, .int 6), (44, .imul, 1, 0, 0, .null), (45, .aload_n 0, 1, 0, 0, .null), (46, .getfield 9, 3, 0, 7, .null)],
  [(49, .iload_n 1, 1, 1, 0, .null), (50, .iaload, 1, 0, 0, .null), (51, .iadd, 1, 0, 0, .null), (52, .baload, 1, 0, 0, .null), (53, .ifCond .eq 5, 3, 58, 0, .null), (56, .iconst 1, 1, 0, 0, .int 1), (57, .ireturn, 1, 0, 0, .null), (58, .iinc 1 1, 3, 1, 0, .int 1), (61, .goto (-59), 3, 2, 0, .null)],
  [(64, .iconst 0, 1, 0, 0, .int 0), (65, .ireturn, 1, 0, 0, .null)]]
def fX7_hasForbiddenSuccession : am_F := am_meth [] [] 2 2 100000 pX7_hasForbiddenSuccession
def pX7_cancel : am_P := [[(0, .iconst 1, 1, 0, 0, .int 1), (1, .istore_n 2, 1, 2, 0, .null), (2, .iload_n 2, 1, 2, 0, .null), (3, .bipush 12, 2, 0, 0, .int 12), (5, .if_icmp .gt 24, 3, 29, 0, .null), (8, .aload_n 0, 1, 0, 0, .null), (9, .getfield 15, 3, 1, 7, .null), (12, .iload_n 2, 1, 2, 0, .null), (13, .iaload, 1, 0, 0, .null), (14, .iload_n 1, 1, 1, 0, .null), (15, .if_icmp .ne 8, 3, 23, 0, .null)],
  [(18, .aload_n 0, 1, 0, 0, .null), (19, .iload_n 2, 1, 2, 0, .null), (20, .invokevirtual 22, 3, 0, 2, .ref 7), (23, .iinc 2 1, 3, 2, 0, .int 1), (26, .goto (-24), 3, 2, 0, .null), (29, .return_, 1, 0, 0, .null)]]
def fX7_cancel : am_F := am_meth [fX7_clear] [] 0 3 100000 pX7_cancel
def pX7_book : am_P := [[(0, .iconst 0, 1, 0, 0, .int 0), (1, .istore_n 3, 1, 3, 0, .null), (2, .iload_n 3, 1, 3, 0, .null), (3, .iconst 2, 1, 0, 0, .int 2), (4, .if_icmp .ge 32, 3, 36, 0, .null), (7, .aload_n 1, 1, 1, 0, .null), (8, .iload_n 3, 1, 3, 0, .null), (9, .invokevirtual 26, 3, 0, 2, .ref 6), (12, .iconst (-1), 1, 0, 0, .int (-1)), (13, .if_icmp .eq 17, 3, 30, 0, .null)],
  [(16, .aload_n 0, 1, 0, 0, .null), (17, .aload_n 1, 1, 1, 0, .null), (18, .iload_n 3, 1, 3, 0, .null), (19, .invokevirtual 32, 3, 1, 2, .ref 6), (22, .invokevirtual 35, 3, 2, 2, .ref 7), (25, .ifCond .ne 5, 3, 30, 0, .null), (28, .iconst 0, 1, 0, 0, .int 0), (29, .ireturn, 1, 0, 0, .null), (30, .iinc 3 1, 3, 3, 0, .int 1)],
  [(33, .goto (-31), 3, 2, 0, .null), (36, .iconst 0, 1, 0, 0, .int 0), (37, .istore_n 3, 1, 3, 0, .null), (38, .iload_n 3, 1, 3, 0, .null), (39, .iconst 2, 1, 0, 0, .int 2), (40, .if_icmp .ge 44, 3, 84, 0, .null), (43, .aload_n 1, 1, 1, 0, .null), (44, .iload_n 3, 1, 3, 0, .null), (45, .invokevirtual 26, 3, 0, 2, .ref 6)],
  [(48, .iconst (-1), 1, 0, 0, .int (-1)), (49, .if_icmp .eq 29, 3, 78, 0, .null), (52, .aload_n 0, 1, 0, 0, .null), (53, .getfield 9, 3, 0, 7, .null), (56, .aload_n 1, 1, 1, 0, .null), (57, .iload_n 3, 1, 3, 0, .null), (58, .invokevirtual 32, 3, 1, 2, .ref 6), (61, .aload_n 1, 1, 1, 0, .null), (62, .iload_n 3, 1, 3, 0, .null), (63, .invokevirtual 26, 3, 0, 2, .ref 6)],
  [(66, .iastore, 1, 0, 0, .null), (67, .aload_n 0, 1, 0, 0, .null), (68, .getfield 15, 3, 1, 7, .null), (71, .aload_n 1, 1, 1, 0, .null), (72, .iload_n 3, 1, 3, 0, .null), (73, .invokevirtual 32, 3, 1, 2, .ref 6), (76, .iload_n 2, 1, 2, 0, .null), (77, .iastore, 1, 0, 0, .null), (78, .iinc 3 1, 3, 3, 0, .int 1)],
  [(81, .goto (-43), 3, 38, 0, .null), (84, .aload_n 0, 1, 0, 0, .null), (85, .invokevirtual 39, 3, 3, 1, .ref 7), (88, .ifCond .eq 10, 3, 98, 0, .null), (91, .aload_n 0, 1, 0, 0, .null), (92, .iload_n 2, 1, 2, 0, .null), (93, .invokevirtual 43, 3, 4, 2, .ref 7)],
  [(96, .iconst 0, 1, 0, 0, .int 0), (97, .ireturn, 1, 0, 0, .null), (98, .iconst 1, 1, 0, 0, .int 1), (99, .ireturn, 1, 0, 0, .null)]]
def fX7_book : am_F := am_meth [fX6_kindOf, fX6_ageOf, fX7_isFree, fX7_hasForbiddenSuccession, fX7_cancel] [] 2 4 100000 pX7_book
def pX8_isEmpty : am_P := [[(0, .aload_n 0, 1, 0, 0, .null), (1, .getfield 9, 3, 0, 8, .null), (4, .iconst (-1), 1, 0, 0, .int (-1)), (5, .if_icmp .ne 7, 3, 12, 0, .null), (8, .iconst 1, 1, 0, 0, .int 1), (9, .goto 4, 3, 13, 0, .null), (12, .iconst 0, 1, 0, 0, .int 0), (13, .ireturn, 1, 0, 0, .null)]]
def fX8_isEmpty : am_F := am_meth [] [] 2 1 100000 pX8_isEmpty
def pX8_fill : am_P := [[(0, .aload_n 0, 1, 0, 0, .null), (1, .iload_n 1, 1, 1, 0, .null), (2, .putfield 9, 3, 0, 8, .null), (5, .aload_n 0, 1, 0, 0, .null), (6, .iload_n 2, 1, 2, 0, .null), (7, .putfield 15, 3, 1, 8, .null), (10, .aload_n 0, 1, 0, 0, .null), (11, .iload_n 3, 1, 3, 0, .null), (12, .putfield 19, 3, 2, 8, .null), (15, .return_, 1, 0, 0, .null)]]
def fX8_fill : am_F := am_meth [] [] 0 4 100000 pX8_fill
def fX9_demandArgument : am_F := fun av M => match av with
  | [.inl (.int x)] => if x = 0 then some (.inr "java/lang/IllegalArgumentException", M) else some (.inl none, M)
  | _ => none
def pX9_isOrdered : am_P := [[(0, .iconst 0, 1, 0, 0, .int 0), (1, .istore_n 2, 1, 2, 0, .null), (2, .iload_n 2, 1, 2, 0, .null), (3, .aload_n 0, 1, 0, 0, .null), (4, .getfield 53, 3, 7, 9, .null), (7, .if_icmp .ge 36, 3, 43, 0, .null), (10, .aload_n 0, 1, 0, 0, .null), (11, .getfield 35, 3, 4, 9, .null), (14, .iload_n 2, 1, 2, 0, .null), (15, .aaload, 1, 0, 0, .null)],
  [(16, .invokevirtual 384, 3, 0, 1, .ref 4), (19, .ifCond .eq 18, 3, 37, 0, .null), (22, .aload_n 0, 1, 0, 0, .null), (23, .getfield 35, 3, 4, 9, .null), (26, .iload_n 2, 1, 2, 0, .null), (27, .aaload, 1, 0, 0, .null), (28, .getfield 268, 3, 1, 4, .null), (31, .iload_n 1, 1, 1, 0, .null)],
  [(32, .if_icmp .ne 5, 3, 37, 0, .null), (35, .iconst 1, 1, 0, 0, .int 1), (36, .ireturn, 1, 0, 0, .null), (37, .iinc 2 1, 3, 2, 0, .int 1), (40, .goto (-38), 3, 2, 0, .null), (43, .iconst 0, 1, 0, 0, .int 0), (44, .ireturn, 1, 0, 0, .null)]]
def fX9_isOrdered : am_F := am_meth [fX4_isOpen] [] 2 3 100000 pX9_isOrdered
def fX9_demandState : am_F := fun av M => match av with
  | [.inl (.int x)] => if x = 0 then some (.inr "java/lang/IllegalStateException", M) else some (.inl none, M)
  | _ => none
def pX9_define : am_P := [[(0, .iload_n 1, 1, 1, 0, .null), (1, .iconst 0, 1, 0, 0, .int 0), (2, .iconst 3, 1, 0, 0, .int 3), (3, .invokestatic 79, 3, 0, 3, .null), (6, .ifCond .eq 15, 3, 21, 0, .null), (9, .iload_n 2, 1, 2, 0, .null), (10, .iload_n 3, 1, 3, 0, .null), (11, .invokestatic 83, 3, 1, 2, .null), (14, .ifCond .eq 7, 3, 21, 0, .null)],
  [(17, .iconst 1, 1, 0, 0, .int 1), (18, .goto 4, 3, 22, 0, .null), (21, .iconst 0, 1, 0, 0, .int 0), (22, .invokestatic 87, 3, 2, 1, .null), (25, .aload_n 0, 1, 0, 0, .null), (26, .iload_n 1, 1, 1, 0, .null), (27, .invokevirtual 91, 3, 3, 2, .ref 9), (30, .ifCond .ne 7, 3, 37, 0, .null)],
  [(33, .iconst 1, 1, 0, 0, .int 1), (34, .goto 4, 3, 38, 0, .null), (37, .iconst 0, 1, 0, 0, .int 0), (38, .invokestatic 95, 3, 4, 1, .null), (41, .aload_n 0, 1, 0, 0, .null), (42, .getfield 11, 3, 0, 9, .null), (45, .iload_n 1, 1, 1, 0, .null), (46, .aaload, 1, 0, 0, .null), (47, .astore 4, 2, 4, 0, .null)],
  [(49, .aload 4, 2, 4, 0, .null), (51, .getfield 98, 3, 0, 6, .null), (54, .iload_n 2, 1, 2, 0, .null), (55, .iload_n 3, 1, 3, 0, .null), (56, .iastore, 1, 0, 0, .null), (57, .aload 4, 2, 4, 0, .null), (59, .iconst 0, 1, 0, 0, .int 0), (60, .putfield 102, 3, 3, 6, .null), (63, .return_, 1, 0, 0, .null)]]
def fX9_define : am_F := am_meth [fX9_isWithin, fX6_accepts, fX9_demandArgument, fX9_isOrdered, fX9_demandState] [] 0 5 100000 pX9_define
def pX9_curve : am_P := [[(0, .iload_n 1, 1, 1, 0, .null), (1, .iconst 0, 1, 0, 0, .int 0), (2, .iconst 3, 1, 0, 0, .int 3), (3, .invokestatic 79, 3, 0, 3, .null), (6, .ifCond .eq 21, 3, 27, 0, .null), (9, .iload_n 2, 1, 2, 0, .null), (10, .invokestatic 105, 3, 1, 1, .null), (13, .ifCond .eq 14, 3, 27, 0, .null)],
  [(16, .iload_n 3, 1, 3, 0, .null), (17, .invokestatic 105, 3, 1, 1, .null), (20, .ifCond .eq 7, 3, 27, 0, .null), (23, .iconst 1, 1, 0, 0, .int 1), (24, .goto 4, 3, 28, 0, .null), (27, .iconst 0, 1, 0, 0, .int 0), (28, .invokestatic 87, 3, 2, 1, .null), (31, .aload_n 0, 1, 0, 0, .null)],
  [(32, .getfield 11, 3, 0, 9, .null), (35, .iload_n 1, 1, 1, 0, .null), (36, .aaload, 1, 0, 0, .null), (37, .astore 4, 2, 4, 0, .null), (39, .aload_n 0, 1, 0, 0, .null), (40, .iload_n 1, 1, 1, 0, .null), (41, .invokevirtual 91, 3, 3, 2, .ref 9), (44, .ifCond .ne 19, 3, 63, 0, .null), (47, .aload 4, 2, 4, 0, .null)],
  [(49, .getfield 109, 3, 1, 6, .null), (52, .iload_n 2, 1, 2, 0, .null), (53, .invokevirtual 113, 3, 4, 2, .ref 0), (56, .ifCond .eq 7, 3, 63, 0, .null), (59, .iconst 1, 1, 0, 0, .int 1), (60, .goto 4, 3, 64, 0, .null), (63, .iconst 0, 1, 0, 0, .int 0)],
  [(64, .invokestatic 95, 3, 5, 1, .null), (67, .aload 4, 2, 4, 0, .null), (69, .getfield 109, 3, 1, 6, .null), (72, .iload_n 2, 1, 2, 0, .null), (73, .iload_n 3, 1, 3, 0, .null), (74, .invokevirtual 116, 3, 6, 3, .ref 0), (77, .aload 4, 2, 4, 0, .null), (79, .iconst 0, 1, 0, 0, .int 0)],
  [(80, .putfield 102, 3, 3, 6, .null), (83, .aload 4, 2, 4, 0, .null), (85, .getfield 109, 3, 1, 6, .null), (88, .getfield 120, 3, 2, 0, .null), (91, .ireturn, 1, 0, 0, .null)]]
def fX9_curve : am_F := am_meth [fX9_isWithin, fX0_accepts, fX9_demandArgument, fX9_isOrdered, fX0_takes, fX9_demandState, fX0_add] [] 1 5 100000 pX9_curve
def pX9_seal : am_P := [[(0, .iload_n 1, 1, 1, 0, .null), (1, .iconst 0, 1, 0, 0, .int 0), (2, .iconst 3, 1, 0, 0, .int 3), (3, .invokestatic 79, 3, 0, 3, .null), (6, .invokestatic 87, 3, 1, 1, .null), (9, .aload_n 0, 1, 0, 0, .null), (10, .getfield 11, 3, 0, 9, .null), (13, .iload_n 1, 1, 1, 0, .null), (14, .aaload, 1, 0, 0, .null), (15, .astore_n 2, 1, 2, 0, .null)],
  [(16, .aload_n 2, 1, 2, 0, .null), (17, .aload_n 2, 1, 2, 0, .null), (18, .invokevirtual 123, 3, 2, 1, .ref 6), (21, .putfield 102, 3, 3, 6, .null), (24, .aload_n 2, 1, 2, 0, .null), (25, .getfield 102, 3, 3, 6, .null), (28, .ireturn, 1, 0, 0, .null)]]
def fX9_seal : am_F := am_meth [fX9_isWithin, fX9_demandArgument, fX6_isComplete] [] 2 3 100000 pX9_seal
def pX9_slotOf : am_P := [[(0, .iconst 0, 1, 0, 0, .int 0), (1, .istore_n 2, 1, 2, 0, .null), (2, .iload_n 2, 1, 2, 0, .null), (3, .bipush 6, 2, 0, 0, .int 6), (5, .if_icmp .ge 24, 3, 29, 0, .null), (8, .aload_n 0, 1, 0, 0, .null), (9, .getfield 17, 3, 1, 9, .null), (12, .iload_n 2, 1, 2, 0, .null), (13, .aaload, 1, 0, 0, .null), (14, .getfield 143, 3, 0, 8, .null)],
  [(17, .iload_n 1, 1, 1, 0, .null), (18, .if_icmp .ne 5, 3, 23, 0, .null), (21, .iload_n 2, 1, 2, 0, .null), (22, .ireturn, 1, 0, 0, .null), (23, .iinc 2 1, 3, 2, 0, .int 1), (26, .goto (-24), 3, 2, 0, .null), (29, .iconst (-1), 1, 0, 0, .int (-1)), (30, .ireturn, 1, 0, 0, .null)]]
def fX9_slotOf : am_F := am_meth [] [] 1 3 100000 pX9_slotOf
def pX9_rack : am_P := [[(0, .iload_n 1, 1, 1, 0, .null), (1, .iconst 0, 1, 0, 0, .int 0), (2, .iconst 5, 1, 0, 0, .int 5), (3, .invokestatic 79, 3, 0, 3, .null), (6, .ifCond .eq 17, 3, 23, 0, .null), (9, .iload_n 2, 1, 2, 0, .null), (10, .iconst 1, 1, 0, 0, .int 1), (11, .ldc 127, 2, 0, 0, .int 999999), (13, .invokestatic 79, 3, 0, 3, .null)],
  [(16, .ifCond .eq 7, 3, 23, 0, .null), (19, .iconst 1, 1, 0, 0, .int 1), (20, .goto 4, 3, 24, 0, .null), (23, .iconst 0, 1, 0, 0, .int 0), (24, .invokestatic 87, 3, 1, 1, .null), (27, .iload_n 3, 1, 3, 0, .null), (28, .iconst 0, 1, 0, 0, .int 0), (29, .iconst 1, 1, 0, 0, .int 1), (30, .invokestatic 79, 3, 0, 3, .null)],
  [(33, .ifCond .eq 18, 3, 51, 0, .null), (36, .iload 4, 2, 4, 0, .null), (38, .iconst 0, 1, 0, 0, .int 0), (39, .ldc 128, 2, 0, 0, .int 100000), (41, .invokestatic 79, 3, 0, 3, .null), (44, .ifCond .eq 7, 3, 51, 0, .null), (47, .iconst 1, 1, 0, 0, .int 1)],
  [(48, .goto 4, 3, 52, 0, .null), (51, .iconst 0, 1, 0, 0, .int 0), (52, .invokestatic 87, 3, 1, 1, .null), (55, .aload_n 0, 1, 0, 0, .null), (56, .getfield 17, 3, 1, 9, .null), (59, .iload_n 1, 1, 1, 0, .null), (60, .aaload, 1, 0, 0, .null), (61, .invokevirtual 129, 3, 2, 1, .ref 8)],
  [(64, .ifCond .eq 16, 3, 80, 0, .null), (67, .aload_n 0, 1, 0, 0, .null), (68, .iload_n 2, 1, 2, 0, .null), (69, .invokevirtual 132, 3, 3, 2, .ref 9), (72, .iconst (-1), 1, 0, 0, .int (-1)), (73, .if_icmp .ne 7, 3, 80, 0, .null), (76, .iconst 1, 1, 0, 0, .int 1), (77, .goto 4, 3, 81, 0, .null)],
  [(80, .iconst 0, 1, 0, 0, .int 0), (81, .invokestatic 95, 3, 4, 1, .null), (84, .aload_n 0, 1, 0, 0, .null), (85, .getfield 17, 3, 1, 9, .null), (88, .iload_n 1, 1, 1, 0, .null), (89, .aaload, 1, 0, 0, .null), (90, .iload_n 2, 1, 2, 0, .null), (91, .iload_n 3, 1, 3, 0, .null), (92, .iconst 1, 1, 0, 0, .int 1), (93, .if_icmp .ne 7, 3, 100, 0, .null)],
  [(96, .iconst 1, 1, 0, 0, .int 1), (97, .goto 4, 3, 101, 0, .null), (100, .iconst 0, 1, 0, 0, .int 0), (101, .iload 4, 2, 4, 0, .null), (103, .invokevirtual 136, 3, 5, 4, .ref 8), (106, .return_, 1, 0, 0, .null)]]
def fX9_rack : am_F := am_meth [fX9_isWithin, fX9_demandArgument, fX8_isEmpty, fX9_slotOf, fX9_demandState, fX8_fill] [] 0 5 100000 pX9_rack
def fX9_demandElement : am_F := fun av M => match av with
  | [.inl (.int x)] => if x = 0 then some (.inr "java/util/NoSuchElementException", M) else some (.inl none, M)
  | _ => none
def pX9_isAwaited : am_P := [[(0, .iconst 0, 1, 0, 0, .int 0), (1, .istore_n 2, 1, 2, 0, .null), (2, .iload_n 2, 1, 2, 0, .null), (3, .aload_n 0, 1, 0, 0, .null), (4, .getfield 53, 3, 7, 9, .null), (7, .if_icmp .ge 36, 3, 43, 0, .null), (10, .aload_n 0, 1, 0, 0, .null), (11, .getfield 35, 3, 4, 9, .null), (14, .iload_n 2, 1, 2, 0, .null), (15, .aaload, 1, 0, 0, .null)],
  [(16, .invokevirtual 384, 3, 0, 1, .ref 4), (19, .ifCond .eq 18, 3, 37, 0, .null), (22, .aload_n 0, 1, 0, 0, .null), (23, .getfield 35, 3, 4, 9, .null), (26, .iload_n 2, 1, 2, 0, .null), (27, .aaload, 1, 0, 0, .null), (28, .getfield 339, 3, 0, 4, .null), (31, .iload_n 1, 1, 1, 0, .null)],
  [(32, .if_icmp .ne 5, 3, 37, 0, .null), (35, .iconst 1, 1, 0, 0, .int 1), (36, .ireturn, 1, 0, 0, .null), (37, .iinc 2 1, 3, 2, 0, .int 1), (40, .goto (-38), 3, 2, 0, .null), (43, .iconst 0, 1, 0, 0, .int 0), (44, .ireturn, 1, 0, 0, .null)]]
def fX9_isAwaited : am_F := am_meth [fX4_isOpen] [] 2 3 100000 pX9_isAwaited
def pX9_removeRack : am_P := [[(0, .iload_n 1, 1, 1, 0, .null), (1, .iconst 0, 1, 0, 0, .int 0), (2, .iconst 5, 1, 0, 0, .int 5), (3, .invokestatic 79, 3, 0, 3, .null), (6, .invokestatic 87, 3, 1, 1, .null), (9, .aload_n 0, 1, 0, 0, .null), (10, .getfield 17, 3, 1, 9, .null), (13, .iload_n 1, 1, 1, 0, .null), (14, .aaload, 1, 0, 0, .null), (15, .invokevirtual 129, 3, 2, 1, .ref 8)],
  [(18, .ifCond .ne 7, 3, 25, 0, .null), (21, .iconst 1, 1, 0, 0, .int 1), (22, .goto 4, 3, 26, 0, .null), (25, .iconst 0, 1, 0, 0, .int 0), (26, .invokestatic 140, 3, 3, 1, .null), (29, .aload_n 0, 1, 0, 0, .null), (30, .aload_n 0, 1, 0, 0, .null), (31, .getfield 17, 3, 1, 9, .null)],
  [(34, .iload_n 1, 1, 1, 0, .null), (35, .aaload, 1, 0, 0, .null), (36, .getfield 143, 3, 0, 8, .null), (39, .invokevirtual 146, 3, 4, 2, .ref 9), (42, .ifCond .ne 7, 3, 49, 0, .null), (45, .iconst 1, 1, 0, 0, .int 1), (46, .goto 4, 3, 50, 0, .null)],
  [(49, .iconst 0, 1, 0, 0, .int 0), (50, .invokestatic 95, 3, 5, 1, .null), (53, .aload_n 0, 1, 0, 0, .null), (54, .getfield 17, 3, 1, 9, .null), (57, .iload_n 1, 1, 1, 0, .null), (58, .aaload, 1, 0, 0, .null), (59, .iconst (-1), 1, 0, 0, .int (-1)), (60, .putfield 143, 3, 0, 8, .null), (63, .aload_n 0, 1, 0, 0, .null)],
  [(64, .getfield 17, 3, 1, 9, .null), (67, .iload_n 1, 1, 1, 0, .null), (68, .aaload, 1, 0, 0, .null), (69, .getfield 149, 3, 2, 8, .null), (72, .ireturn, 1, 0, 0, .null)]]
def fX9_removeRack : am_F := am_meth [fX9_isWithin, fX9_demandArgument, fX8_isEmpty, fX9_demandElement, fX9_isAwaited, fX9_demandState] [] 1 2 100000 pX9_removeRack
def pX9_reagent : am_P := [[(0, .iload_n 1, 1, 1, 0, .null), (1, .iconst 0, 1, 0, 0, .int 0), (2, .bipush 7, 2, 0, 0, .int 7), (4, .invokestatic 79, 3, 0, 3, .null), (7, .ifCond .eq 16, 3, 23, 0, .null), (10, .iload_n 2, 1, 2, 0, .null), (11, .iconst 0, 1, 0, 0, .int 0), (12, .iconst 5, 1, 0, 0, .int 5), (13, .invokestatic 79, 3, 0, 3, .null)],
  [(16, .ifCond .eq 7, 3, 23, 0, .null), (19, .iconst 1, 1, 0, 0, .int 1), (20, .goto 4, 3, 24, 0, .null), (23, .iconst 0, 1, 0, 0, .int 0), (24, .invokestatic 87, 3, 1, 1, .null), (27, .iload_n 3, 1, 3, 0, .null), (28, .iconst 0, 1, 0, 0, .int 0), (29, .ldc 128, 2, 0, 0, .int 100000), (31, .invokestatic 79, 3, 0, 3, .null)],
  [(34, .ifCond .eq 12, 3, 46, 0, .null), (37, .iload 4, 2, 4, 0, .null), (39, .ifCond .lt 7, 3, 46, 0, .null), (42, .iconst 1, 1, 0, 0, .int 1), (43, .goto 4, 3, 47, 0, .null), (46, .iconst 0, 1, 0, 0, .int 0), (47, .invokestatic 87, 3, 1, 1, .null)],
  [(50, .aload_n 0, 1, 0, 0, .null), (51, .getfield 23, 3, 2, 9, .null), (54, .iload_n 1, 1, 1, 0, .null), (55, .aaload, 1, 0, 0, .null), (56, .getfield 152, 3, 2, 5, .null), (59, .ifCond .ne 7, 3, 66, 0, .null), (62, .iconst 1, 1, 0, 0, .int 1), (63, .goto 4, 3, 67, 0, .null)],
  [(66, .iconst 0, 1, 0, 0, .int 0), (67, .invokestatic 95, 3, 2, 1, .null), (70, .aload_n 0, 1, 0, 0, .null), (71, .getfield 23, 3, 2, 9, .null), (74, .iload_n 1, 1, 1, 0, .null), (75, .aaload, 1, 0, 0, .null), (76, .iload_n 2, 1, 2, 0, .null), (77, .iload_n 3, 1, 3, 0, .null), (78, .iload 4, 2, 4, 0, .null)],
  [(80, .invokevirtual 155, 3, 3, 4, .ref 5), (83, .return_, 1, 0, 0, .null)]]
def fX9_reagent : am_F := am_meth [fX9_isWithin, fX9_demandArgument, fX9_demandState, fX5_fill] [] 0 5 100000 pX9_reagent
def pX9_forbid : am_P := [[(0, .iload_n 1, 1, 1, 0, .null), (1, .iconst 0, 1, 0, 0, .int 0), (2, .iconst 5, 1, 0, 0, .int 5), (3, .invokestatic 79, 3, 0, 3, .null), (6, .ifCond .eq 16, 3, 22, 0, .null), (9, .iload_n 2, 1, 2, 0, .null), (10, .iconst 0, 1, 0, 0, .int 0), (11, .iconst 5, 1, 0, 0, .int 5), (12, .invokestatic 79, 3, 0, 3, .null), (15, .ifCond .eq 7, 3, 22, 0, .null)],
  [(18, .iconst 1, 1, 0, 0, .int 1), (19, .goto 4, 3, 23, 0, .null), (22, .iconst 0, 1, 0, 0, .int 0), (23, .invokestatic 87, 3, 1, 1, .null), (26, .aload_n 0, 1, 0, 0, .null), (27, .getfield 42, 3, 5, 9, .null), (30, .iload_n 1, 1, 1, 0, .null), (31, .iload_n 2, 1, 2, 0, .null)],
  [(32, .invokevirtual 158, 3, 2, 3, .ref 7), (35, .ireturn, 1, 0, 0, .null)]]
def fX9_forbid : am_F := am_meth [fX9_isWithin, fX9_demandArgument, fX7_turnSuccession] [] 2 3 100000 pX9_forbid
def pX9_order : am_P := [[(0, .iload_n 1, 1, 1, 0, .null), (1, .iconst 1, 1, 0, 0, .int 1), (2, .ldc 127, 2, 0, 0, .int 999999), (4, .invokestatic 79, 3, 0, 3, .null), (7, .ifCond .eq 16, 3, 23, 0, .null), (10, .iload_n 2, 1, 2, 0, .null), (11, .iconst 0, 1, 0, 0, .int 0), (12, .iconst 3, 1, 0, 0, .int 3), (13, .invokestatic 79, 3, 0, 3, .null)],
  [(16, .ifCond .eq 7, 3, 23, 0, .null), (19, .iconst 1, 1, 0, 0, .int 1), (20, .goto 4, 3, 24, 0, .null), (23, .iconst 0, 1, 0, 0, .int 0), (24, .invokestatic 87, 3, 1, 1, .null), (27, .aload_n 0, 1, 0, 0, .null), (28, .getfield 11, 3, 0, 9, .null), (31, .iload_n 2, 1, 2, 0, .null)],
  [(32, .aaload, 1, 0, 0, .null), (33, .getfield 102, 3, 3, 6, .null), (36, .ifCond .eq 16, 3, 52, 0, .null), (39, .aload_n 0, 1, 0, 0, .null), (40, .getfield 53, 3, 7, 9, .null), (43, .bipush 40, 2, 0, 0, .int 40), (45, .if_icmp .ge 7, 3, 52, 0, .null)],
  [(48, .iconst 1, 1, 0, 0, .int 1), (49, .goto 4, 3, 53, 0, .null), (52, .iconst 0, 1, 0, 0, .int 0), (53, .invokestatic 95, 3, 2, 1, .null), (56, .aload_n 0, 1, 0, 0, .null), (57, .getfield 53, 3, 7, 9, .null), (60, .istore 4, 2, 4, 0, .null), (62, .aload_n 0, 1, 0, 0, .null), (63, .getfield 35, 3, 4, 9, .null)],
  [(66, .iload 4, 2, 4, 0, .null), (68, .aaload, 1, 0, 0, .null), (69, .iload_n 1, 1, 1, 0, .null), (70, .iload_n 2, 1, 2, 0, .null), (71, .iload_n 3, 1, 3, 0, .null), (72, .invokevirtual 161, 3, 3, 4, .ref 4), (75, .aload_n 0, 1, 0, 0, .null), (76, .iload 4, 2, 4, 0, .null), (78, .iconst 1, 1, 0, 0, .int 1), (79, .iadd, 1, 0, 0, .null)],
  [(80, .putfield 53, 3, 7, 9, .null), (83, .iload 4, 2, 4, 0, .null), (85, .ireturn, 1, 0, 0, .null)]]
def fX9_order : am_F := am_meth [fX9_isWithin, fX9_demandArgument, fX9_demandState, fX4_place] [] 1 5 100000 pX9_order
def pX9_clock : am_P := [[(0, .iload_n 1, 1, 1, 0, .null), (1, .aload_n 0, 1, 0, 0, .null), (2, .getfield 57, 3, 8, 9, .null), (5, .if_icmp .lt 7, 3, 12, 0, .null), (8, .iconst 1, 1, 0, 0, .int 1), (9, .goto 4, 3, 13, 0, .null), (12, .iconst 0, 1, 0, 0, .int 0), (13, .invokestatic 87, 3, 0, 1, .null)],
  [(16, .aload_n 0, 1, 0, 0, .null), (17, .iload_n 1, 1, 1, 0, .null), (18, .putfield 57, 3, 8, 9, .null), (21, .return_, 1, 0, 0, .null)]]
def fX9_clock : am_F := am_meth [fX9_demandArgument] [] 0 2 100000 pX9_clock
def pX9_light : am_P := [[(0, .iload_n 1, 1, 1, 0, .null), (1, .iconst 1, 1, 0, 0, .int 1), (2, .ldc 60, 2, 0, 0, .int 65535), (4, .invokestatic 79, 3, 0, 3, .null), (7, .invokestatic 87, 3, 1, 1, .null), (10, .aload_n 0, 1, 0, 0, .null), (11, .iload_n 1, 1, 1, 0, .null), (12, .putfield 61, 3, 9, 9, .null), (15, .return_, 1, 0, 0, .null)]]
def fX9_light : am_F := am_meth [fX9_isWithin, fX9_demandArgument] [] 0 2 100000 pX9_light
def pX9_spoil : am_P := [[(0, .iload_n 1, 1, 1, 0, .null), (1, .iconst 0, 1, 0, 0, .int 0), (2, .iconst 1, 1, 0, 0, .int 1), (3, .invokestatic 79, 3, 0, 3, .null), (6, .invokestatic 87, 3, 1, 1, .null), (9, .iload_n 1, 1, 1, 0, .null), (10, .ifCond .ne 11, 3, 21, 0, .null), (13, .aload_n 0, 1, 0, 0, .null), (14, .iconst 1, 1, 0, 0, .int 1), (15, .putfield 64, 3, 10, 9, .null)],
  [(18, .goto 8, 3, 26, 0, .null), (21, .aload_n 0, 1, 0, 0, .null), (22, .iconst 1, 1, 0, 0, .int 1), (23, .putfield 68, 3, 11, 9, .null), (26, .return_, 1, 0, 0, .null)]]
def fX9_spoil : am_F := am_meth [fX9_isWithin, fX9_demandArgument] [] 0 2 100000 pX9_spoil
def pX9_turnDisc : am_P := [[(0, .iconst 0, 1, 0, 0, .int 0), (1, .istore_n 1, 1, 1, 0, .null), (2, .iload_n 1, 1, 1, 0, .null), (3, .bipush 10, 2, 0, 0, .int 10), (5, .if_icmp .ge 18, 3, 23, 0, .null), (8, .aload_n 0, 1, 0, 0, .null), (9, .getfield 29, 3, 3, 9, .null), (12, .iload_n 1, 1, 1, 0, .null), (13, .aaload, 1, 0, 0, .null), (14, .invokevirtual 242, 3, 0, 1, .ref 1)],
  [(17, .iinc 1 1, 3, 1, 0, .int 1), (20, .goto (-18), 3, 2, 0, .null), (23, .aload_n 0, 1, 0, 0, .null), (24, .getfield 42, 3, 5, 9, .null), (27, .invokevirtual 245, 3, 1, 1, .ref 7), (30, .return_, 1, 0, 0, .null)]]
def fX9_turnDisc : am_F := am_meth [fX1_turn, fX7_turn] [] 0 2 100000 pX9_turnDisc
def pX9_breakOff : am_P := [[(0, .aload_n 0, 1, 0, 0, .null), (1, .getfield 29, 3, 3, 9, .null), (4, .iload_n 1, 1, 1, 0, .null), (5, .aaload, 1, 0, 0, .null), (6, .astore_n 3, 1, 3, 0, .null), (7, .aload_n 3, 1, 3, 0, .null), (8, .getfield 256, 3, 4, 1, .null), (11, .istore 4, 2, 4, 0, .null), (13, .iload 4, 2, 4, 0, .null), (15, .iconst 2, 1, 0, 0, .int 2)],
  [(16, .if_icmp .ge 52, 3, 68, 0, .null), (19, .aload_n 3, 1, 3, 0, .null), (20, .getfield 259, 3, 2, 1, .null), (23, .iload 4, 2, 4, 0, .null), (25, .iaload, 1, 0, 0, .null), (26, .iconst 0, 1, 0, 0, .int 0), (27, .bipush 7, 2, 0, 0, .int 7), (29, .invokestatic 79, 3, 0, 3, .null)],
  [(32, .ifCond .eq 30, 3, 62, 0, .null), (35, .aload_n 0, 1, 0, 0, .null), (36, .getfield 23, 3, 2, 9, .null), (39, .aload_n 3, 1, 3, 0, .null), (40, .getfield 259, 3, 2, 1, .null), (43, .iload 4, 2, 4, 0, .null), (45, .iaload, 1, 0, 0, .null), (46, .aaload, 1, 0, 0, .null), (47, .dup, 1, 0, 0, .null)],
  [(48, .getfield 152, 3, 2, 5, .null), (51, .aload_n 3, 1, 3, 0, .null), (52, .getfield 262, 3, 3, 1, .null), (55, .iload 4, 2, 4, 0, .null), (57, .iaload, 1, 0, 0, .null), (58, .isub, 1, 0, 0, .null), (59, .putfield 152, 3, 2, 5, .null), (62, .iinc 4 1, 3, 4, 0, .int 1)],
  [(65, .goto (-52), 3, 13, 0, .null), (68, .aload_n 0, 1, 0, 0, .null), (69, .getfield 42, 3, 5, 9, .null), (72, .iload_n 1, 1, 1, 0, .null), (73, .invokevirtual 379, 3, 1, 2, .ref 7), (76, .aload_n 3, 1, 3, 0, .null), (77, .getfield 206, 3, 5, 1, .null)],
  [(80, .iconst 0, 1, 0, 0, .int 0), (81, .aload_n 0, 1, 0, 0, .null), (82, .getfield 53, 3, 7, 9, .null), (85, .iconst 1, 1, 0, 0, .int 1), (86, .isub, 1, 0, 0, .null), (87, .invokestatic 79, 3, 0, 3, .null), (90, .ifCond .eq 16, 3, 106, 0, .null), (93, .aload_n 0, 1, 0, 0, .null), (94, .getfield 35, 3, 4, 9, .null)],
  [(97, .aload_n 3, 1, 3, 0, .null), (98, .getfield 206, 3, 5, 1, .null), (101, .aaload, 1, 0, 0, .null), (102, .iload_n 2, 1, 2, 0, .null), (103, .invokevirtual 382, 3, 2, 2, .ref 4), (106, .aload_n 3, 1, 3, 0, .null), (107, .invokevirtual 314, 3, 3, 1, .ref 1), (110, .return_, 1, 0, 0, .null)]]
def fX9_breakOff : am_F := am_meth [fX9_isWithin, fX7_cancel, fX4_breakOff, fX1_sendToWash] [] 0 5 100000 pX9_breakOff
def pX9_giveNextDose : am_P := [[(0, .aload_n 1, 1, 1, 0, .null), (1, .getfield 256, 3, 4, 1, .null), (4, .istore_n 2, 1, 2, 0, .null), (5, .iload_n 2, 1, 2, 0, .null), (6, .iconst 2, 1, 0, 0, .int 2), (7, .if_icmp .ge 18, 3, 25, 0, .null), (10, .aload_n 1, 1, 1, 0, .null), (11, .getfield 259, 3, 2, 1, .null), (14, .iload_n 2, 1, 2, 0, .null), (15, .iaload, 1, 0, 0, .null)],
  [(16, .iconst 0, 1, 0, 0, .int 0), (17, .bipush 7, 2, 0, 0, .int 7), (19, .invokestatic 79, 3, 0, 3, .null), (22, .ifCond .ne 4, 3, 26, 0, .null), (25, .return_, 1, 0, 0, .null), (26, .aload_n 1, 1, 1, 0, .null), (27, .getfield 262, 3, 3, 1, .null), (30, .iload_n 2, 1, 2, 0, .null), (31, .iaload, 1, 0, 0, .null)],
  [(32, .istore_n 3, 1, 3, 0, .null), (33, .aload_n 0, 1, 0, 0, .null), (34, .getfield 23, 3, 2, 9, .null), (37, .aload_n 1, 1, 1, 0, .null), (38, .getfield 259, 3, 2, 1, .null), (41, .iload_n 2, 1, 2, 0, .null), (42, .iaload, 1, 0, 0, .null), (43, .aaload, 1, 0, 0, .null), (44, .astore 4, 2, 4, 0, .null), (46, .aload 4, 2, 4, 0, .null)],
  [(48, .dup, 1, 0, 0, .null), (49, .getfield 152, 3, 2, 5, .null), (52, .iload_n 3, 1, 3, 0, .null), (53, .isub, 1, 0, 0, .null), (54, .putfield 152, 3, 2, 5, .null), (57, .aload 4, 2, 4, 0, .null), (59, .dup, 1, 0, 0, .null), (60, .getfield 216, 3, 1, 5, .null), (63, .iload_n 3, 1, 3, 0, .null)],
  [(64, .isub, 1, 0, 0, .null), (65, .putfield 216, 3, 1, 5, .null), (68, .aload_n 1, 1, 1, 0, .null), (69, .dup, 1, 0, 0, .null), (70, .getfield 212, 3, 9, 1, .null), (73, .iload_n 3, 1, 3, 0, .null), (74, .iadd, 1, 0, 0, .null), (75, .putfield 212, 3, 9, 1, .null), (78, .aload_n 1, 1, 1, 0, .null), (79, .iload_n 2, 1, 2, 0, .null)],
  [(80, .iconst 1, 1, 0, 0, .int 1), (81, .iadd, 1, 0, 0, .null), (82, .putfield 256, 3, 4, 1, .null), (85, .return_, 1, 0, 0, .null)]]
def fX9_giveNextDose : am_F := am_meth [fX9_isWithin] [] 0 5 100000 pX9_giveNextDose
def pX9_giveReagent : am_P := [[(0, .aload_n 0, 1, 0, 0, .null), (1, .getfield 42, 3, 5, 9, .null), (4, .invokevirtual 246, 3, 0, 1, .ref 7), (7, .istore_n 1, 1, 1, 0, .null), (8, .iload_n 1, 1, 1, 0, .null), (9, .iconst 0, 1, 0, 0, .int 0), (10, .bipush 9, 2, 0, 0, .int 9), (12, .invokestatic 79, 3, 1, 3, .null), (15, .ifCond .ne 4, 3, 19, 0, .null)],
  [(18, .return_, 1, 0, 0, .null), (19, .aload_n 0, 1, 0, 0, .null), (20, .getfield 68, 3, 11, 9, .null), (23, .ifCond .eq 17, 3, 40, 0, .null), (26, .aload_n 0, 1, 0, 0, .null), (27, .iconst 0, 1, 0, 0, .int 0), (28, .putfield 68, 3, 11, 9, .null), (31, .aload_n 0, 1, 0, 0, .null)],
  [(32, .iload_n 1, 1, 1, 0, .null), (33, .iconst 4, 1, 0, 0, .int 4), (34, .invokevirtual 249, 3, 2, 3, .ref 9), (37, .goto 13, 3, 50, 0, .null), (40, .aload_n 0, 1, 0, 0, .null), (41, .aload_n 0, 1, 0, 0, .null), (42, .getfield 29, 3, 3, 9, .null), (45, .iload_n 1, 1, 1, 0, .null), (46, .aaload, 1, 0, 0, .null), (47, .invokevirtual 252, 3, 3, 2, .ref 9)],
  [(50, .return_, 1, 0, 0, .null)]]
def fX9_giveReagent : am_F := am_meth [fX7_userNow, fX9_isWithin, fX9_breakOff, fX9_giveNextDose] [] 0 2 100000 pX9_giveReagent
def pX9_absorbanceOf : am_P := [[(0, .iconst 0, 1, 0, 0, .int 0), (1, .istore_n 1, 1, 1, 0, .null), (2, .iconst 1, 1, 0, 0, .int 1), (3, .istore_n 2, 1, 2, 0, .null), (4, .iload_n 2, 1, 2, 0, .null), (5, .bipush 16, 2, 0, 0, .int 16), (7, .if_icmp .ge 17, 3, 24, 0, .null), (10, .iload_n 0, 1, 0, 0, .null), (11, .iload_n 2, 1, 2, 0, .null), (12, .ishr, 1, 0, 0, .null), (13, .ifCond .eq 5, 3, 18, 0, .null)],
  [(16, .iload_n 2, 1, 2, 0, .null), (17, .istore_n 1, 1, 1, 0, .null), (18, .iinc 2 1, 3, 2, 0, .int 1), (21, .goto (-17), 3, 4, 0, .null), (24, .iload_n 0, 1, 0, 0, .null), (25, .i2l, 1, 0, 0, .null), (26, .bipush 15, 2, 0, 0, .int 15), (28, .iload_n 1, 1, 1, 0, .null), (29, .isub, 1, 0, 0, .null), (30, .lshl, 1, 0, 0, .null), (31, .lstore_n 2, 1, 2, 0, .null)],
  [(32, .iconst 0, 1, 0, 0, .int 0), (33, .istore 4, 2, 4, 0, .null), (35, .iconst 0, 1, 0, 0, .int 0), (36, .istore 5, 2, 5, 0, .null), (38, .iload 5, 2, 5, 0, .null), (40, .bipush 10, 2, 0, 0, .int 10), (42, .if_icmp .ge 40, 3, 82, 0, .null), (45, .lload_n 2, 1, 2, 0, .null), (46, .lload_n 2, 1, 2, 0, .null), (47, .lmul, 1, 0, 0, .null)],
  [(48, .ldc2_w 399, 3, 0, 0, .long 32768), (51, .ldiv, 1, 0, 0, .null), (52, .lstore_n 2, 1, 2, 0, .null), (53, .iload 4, 2, 4, 0, .null), (55, .iconst 2, 1, 0, 0, .int 2), (56, .imul, 1, 0, 0, .null), (57, .istore 4, 2, 4, 0, .null), (59, .lload_n 2, 1, 2, 0, .null), (60, .ldc2_w 401, 3, 0, 0, .long 65536), (63, .lcmp, 1, 0, 0, .null)],
  [(64, .ifCond .lt 12, 3, 76, 0, .null), (67, .iinc 4 1, 3, 4, 0, .int 1), (70, .lload_n 2, 1, 2, 0, .null), (71, .ldc2_w 403, 3, 0, 0, .long 2), (74, .ldiv, 1, 0, 0, .null), (75, .lstore_n 2, 1, 2, 0, .null), (76, .iinc 5 1, 3, 5, 0, .int 1), (79, .goto (-41), 3, 38, 0, .null)],
  [(82, .sipush 16384, 3, 0, 0, .int 16384), (85, .sipush 1024, 3, 0, 0, .int 1024), (88, .iload_n 1, 1, 1, 0, .null), (89, .imul, 1, 0, 0, .null), (90, .iload 4, 2, 4, 0, .null), (92, .iadd, 1, 0, 0, .null), (93, .isub, 1, 0, 0, .null), (94, .ireturn, 1, 0, 0, .null)]]
def fX9_absorbanceOf : am_F := am_meth [] [] 1 6 100000 pX9_absorbanceOf
def pX9_cuvetteOf : am_P := [[(0, .aload_n 1, 1, 1, 0, .null), (1, .getfield 194, 3, 7, 4, .null), (4, .iconst 0, 1, 0, 0, .int 0), (5, .bipush 9, 2, 0, 0, .int 9), (7, .invokestatic 79, 3, 0, 3, .null), (10, .ifCond .eq 15, 3, 25, 0, .null), (13, .aload_n 0, 1, 0, 0, .null), (14, .getfield 29, 3, 3, 9, .null)],
  [(17, .aload_n 1, 1, 1, 0, .null), (18, .getfield 194, 3, 7, 4, .null), (21, .aaload, 1, 0, 0, .null), (22, .goto 4, 3, 26, 0, .null), (25, .aconst_null, 1, 0, 0, .null), (26, .areturn, 1, 0, 0, .null)]]
def fX9_cuvetteOf : am_F := am_meth [fX9_isWithin] [] 4 2 100000 pX9_cuvetteOf
def pX9_takeReadings : am_P := [[(0, .aload_n 0, 1, 0, 0, .null), (1, .getfield 61, 3, 9, 9, .null), (4, .invokestatic 265, 3, 0, 1, .null), (7, .istore_n 1, 1, 1, 0, .null), (8, .iconst 0, 1, 0, 0, .int 0), (9, .istore_n 2, 1, 2, 0, .null), (10, .iload_n 2, 1, 2, 0, .null), (11, .aload_n 0, 1, 0, 0, .null), (12, .getfield 53, 3, 7, 9, .null), (15, .if_icmp .ge 53, 3, 68, 0, .null)],
  [(18, .aload_n 0, 1, 0, 0, .null), (19, .aload_n 0, 1, 0, 0, .null), (20, .getfield 35, 3, 4, 9, .null), (23, .iload_n 2, 1, 2, 0, .null), (24, .aaload, 1, 0, 0, .null), (25, .invokevirtual 181, 3, 1, 2, .ref 9), (28, .astore_n 3, 1, 3, 0, .null), (29, .aload_n 3, 1, 3, 0, .null), (30, .ifnull 32, 3, 62, 0, .null)],
  [(33, .aload_n 0, 1, 0, 0, .null), (34, .getfield 11, 3, 0, 9, .null), (37, .aload_n 0, 1, 0, 0, .null), (38, .getfield 35, 3, 4, 9, .null), (41, .iload_n 2, 1, 2, 0, .null), (42, .aaload, 1, 0, 0, .null), (43, .getfield 268, 3, 1, 4, .null), (46, .aaload, 1, 0, 0, .null), (47, .aload_n 3, 1, 3, 0, .null)],
  [(48, .getfield 197, 3, 7, 1, .null), (51, .invokevirtual 271, 3, 2, 2, .ref 6), (54, .ifCond .eq 8, 3, 62, 0, .null), (57, .aload_n 3, 1, 3, 0, .null), (58, .iload_n 1, 1, 1, 0, .null), (59, .invokevirtual 274, 3, 3, 2, .ref 1), (62, .iinc 2 1, 3, 2, 0, .int 1)],
  [(65, .goto (-55), 3, 10, 0, .null), (68, .return_, 1, 0, 0, .null)]]
def fX9_takeReadings : am_F := am_meth [fX9_absorbanceOf, fX9_cuvetteOf, fX6_isReadAt, fX1_addReading] [] 0 4 100000 pX9_takeReadings
def pJ9_min_f86c9 : am_P := [[(0, .lload_n 0, 1, 0, 0, .null), (1, .lload_n 2, 1, 2, 0, .null), (2, .lcmp, 1, 0, 0, .null), (3, .ifCond .gt 7, 3, 10, 0, .null), (6, .lload_n 0, 1, 0, 0, .null), (7, .goto 4, 3, 11, 0, .null), (10, .lload_n 2, 1, 2, 0, .null), (11, .lreturn, 1, 0, 0, .null)]]
def fJ9_min_f86c9 : am_F := am_meth [] [] 3 4 100000 pJ9_min_f86c9
def pJ9_max_f86c9 : am_P := [[(0, .lload_n 0, 1, 0, 0, .null), (1, .lload_n 2, 1, 2, 0, .null), (2, .lcmp, 1, 0, 0, .null), (3, .ifCond .lt 7, 3, 10, 0, .null), (6, .lload_n 0, 1, 0, 0, .null), (7, .goto 4, 3, 11, 0, .null), (10, .lload_n 2, 1, 2, 0, .null), (11, .lreturn, 1, 0, 0, .null)]]
def fJ9_max_f86c9 : am_F := am_meth [] [] 3 4 100000 pJ9_max_f86c9
def pX9_limited : am_P := [[(0, .ldc2_w 405, 3, 0, 0, .long (-1000000000)), (3, .ldc2_w 407, 3, 0, 0, .long 1000000000), (6, .lload_n 0, 1, 0, 0, .null), (7, .invokestatic 409, 3, 0, 2, .null), (10, .invokestatic 415, 3, 1, 2, .null), (13, .l2i, 1, 0, 0, .null), (14, .ireturn, 1, 0, 0, .null)]]
def fX9_limited : am_F := am_meth [fJ9_min_f86c9, fJ9_max_f86c9] [] 1 2 100000 pX9_limited
def pX9_judge : am_P := [[(0, .aload_n 0, 1, 0, 0, .null), (1, .getfield 35, 3, 4, 9, .null), (4, .iload_n 1, 1, 1, 0, .null), (5, .aaload, 1, 0, 0, .null), (6, .astore_n 3, 1, 3, 0, .null), (7, .aload_n 0, 1, 0, 0, .null), (8, .getfield 11, 3, 0, 9, .null), (11, .aload_n 3, 1, 3, 0, .null), (12, .getfield 268, 3, 1, 4, .null), (15, .aaload, 1, 0, 0, .null)],
  [(16, .astore 4, 2, 4, 0, .null), (18, .aload_n 2, 1, 2, 0, .null), (19, .getfield 284, 3, 6, 1, .null), (22, .istore 5, 2, 5, 0, .null), (24, .aload 4, 2, 4, 0, .null), (26, .aload_n 2, 1, 2, 0, .null), (27, .getfield 287, 3, 0, 1, .null), (30, .aload_n 2, 1, 2, 0, .null), (31, .getfield 290, 3, 1, 1, .null)],
  [(34, .invokevirtual 293, 3, 0, 3, .ref 6), (37, .lstore 6, 2, 6, 0, .null), (39, .aload 4, 2, 4, 0, .null), (41, .lload 6, 2, 6, 0, .null), (43, .aload_n 3, 1, 3, 0, .null), (44, .getfield 297, 3, 6, 4, .null), (47, .invokevirtual 300, 3, 1, 3, .ref 6)],
  [(50, .lstore 8, 2, 8, 0, .null), (52, .lload 8, 2, 8, 0, .null), (54, .invokestatic 304, 3, 2, 1, .null), (57, .istore 10, 2, 10, 0, .null), (59, .aload 4, 2, 4, 0, .null), (61, .iload 10, 2, 10, 0, .null), (63, .invokevirtual 308, 3, 3, 2, .ref 6)],
  [(66, .aload_n 3, 1, 3, 0, .null), (67, .invokevirtual 311, 3, 4, 1, .ref 4), (70, .ior, 1, 0, 0, .null), (71, .iload 10, 2, 10, 0, .null), (73, .i2l, 1, 0, 0, .null), (74, .lload 8, 2, 8, 0, .null), (76, .lcmp, 1, 0, 0, .null), (77, .ifCond .ne 7, 3, 84, 0, .null)],
  [(80, .iconst 0, 1, 0, 0, .int 0), (81, .goto 4, 3, 85, 0, .null), (84, .iconst 4, 1, 0, 0, .int 4), (85, .ior, 1, 0, 0, .null), (86, .istore 11, 2, 11, 0, .null), (88, .aload_n 2, 1, 2, 0, .null), (89, .invokevirtual 314, 3, 5, 1, .ref 1), (92, .iload 5, 2, 5, 0, .null), (94, .ifCond .ne 31, 3, 125, 0, .null)],
  [(97, .aload_n 3, 1, 3, 0, .null), (98, .getfield 191, 3, 5, 4, .null), (101, .iconst 1, 1, 0, 0, .int 1), (102, .if_icmp .ne 23, 3, 125, 0, .null), (105, .aload 4, 2, 4, 0, .null), (107, .iload 11, 2, 11, 0, .null), (109, .invokevirtual 317, 3, 6, 2, .ref 6)],
  [(112, .ifCond .eq 13, 3, 125, 0, .null), (115, .aload_n 3, 1, 3, 0, .null), (116, .aload 4, 2, 4, 0, .null), (118, .invokevirtual 320, 3, 7, 1, .ref 6), (121, .invokevirtual 323, 3, 8, 2, .ref 4), (124, .return_, 1, 0, 0, .null), (125, .aload_n 3, 1, 3, 0, .null), (126, .iload 10, 2, 10, 0, .null)],
  [(128, .iload 11, 2, 11, 0, .null), (130, .invokevirtual 326, 3, 9, 3, .ref 4), (133, .aload_n 0, 1, 0, 0, .null), (134, .getfield 49, 3, 6, 9, .null), (137, .iload_n 1, 1, 1, 0, .null), (138, .invokevirtual 329, 3, 10, 2, .ref 3), (141, .iload 5, 2, 5, 0, .null), (143, .ifCond .eq 13, 3, 156, 0, .null)],
  [(146, .aload 4, 2, 4, 0, .null), (148, .getfield 217, 3, 2, 6, .null), (151, .iload 10, 2, 10, 0, .null), (153, .invokevirtual 332, 3, 11, 2, .ref 2), (156, .return_, 1, 0, 0, .null)]]
def fX9_judge : am_F := am_meth [fX6_formulaOf, fX6_valueAt, fX9_limited, fX6_limitFlags, fX4_runFlags, fX1_sendToWash, fX6_asksAgain, fX6_dilutes, fX4_waitAgain, fX4_release, fX3_append, fX2_append] [] 0 12 100000 pX9_judge
def pX9_judgeEndedRuns : am_P := [[(0, .iconst 0, 1, 0, 0, .int 0), (1, .istore_n 1, 1, 1, 0, .null), (2, .iload_n 1, 1, 1, 0, .null), (3, .aload_n 0, 1, 0, 0, .null), (4, .getfield 53, 3, 7, 9, .null), (7, .if_icmp .ge 54, 3, 61, 0, .null), (10, .aload_n 0, 1, 0, 0, .null), (11, .aload_n 0, 1, 0, 0, .null), (12, .getfield 35, 3, 4, 9, .null), (15, .iload_n 1, 1, 1, 0, .null)],
  [(16, .aaload, 1, 0, 0, .null), (17, .invokevirtual 181, 3, 0, 2, .ref 9), (20, .astore_n 2, 1, 2, 0, .null), (21, .aload_n 2, 1, 2, 0, .null), (22, .ifnull 33, 3, 55, 0, .null), (25, .aload_n 0, 1, 0, 0, .null), (26, .getfield 11, 3, 0, 9, .null), (29, .aload_n 0, 1, 0, 0, .null), (30, .getfield 35, 3, 4, 9, .null)],
  [(33, .iload_n 1, 1, 1, 0, .null), (34, .aaload, 1, 0, 0, .null), (35, .getfield 268, 3, 1, 4, .null), (38, .aaload, 1, 0, 0, .null), (39, .aload_n 2, 1, 2, 0, .null), (40, .getfield 197, 3, 7, 1, .null), (43, .invokevirtual 277, 3, 1, 2, .ref 6), (46, .ifCond .eq 9, 3, 55, 0, .null)],
  [(49, .aload_n 0, 1, 0, 0, .null), (50, .iload_n 1, 1, 1, 0, .null), (51, .aload_n 2, 1, 2, 0, .null), (52, .invokevirtual 280, 3, 2, 3, .ref 9), (55, .iinc 1 1, 3, 1, 0, .int 1), (58, .goto (-56), 3, 2, 0, .null), (61, .return_, 1, 0, 0, .null)]]
def fX9_judgeEndedRuns : am_F := am_meth [fX9_cuvetteOf, fX6_isOverAt, fX9_judge] [] 0 3 100000 pX9_judgeEndedRuns
def pX9_positionFor : am_P := [[(0, .aload_n 1, 1, 1, 0, .null), (1, .iload_n 2, 1, 2, 0, .null), (2, .invokevirtual 390, 3, 0, 2, .ref 6), (5, .istore 4, 2, 4, 0, .null), (7, .iconst (-1), 1, 0, 0, .int (-1)), (8, .istore 5, 2, 5, 0, .null), (10, .iload 4, 2, 4, 0, .null), (12, .iconst (-1), 1, 0, 0, .int (-1)), (13, .if_icmp .ne 6, 3, 19, 0, .null)],
  [(16, .iload 5, 2, 5, 0, .null), (18, .ireturn, 1, 0, 0, .null), (19, .iconst 0, 1, 0, 0, .int 0), (20, .istore 6, 2, 6, 0, .null), (22, .iload 6, 2, 6, 0, .null), (24, .bipush 8, 2, 0, 0, .int 8), (26, .if_icmp .ge 86, 3, 112, 0, .null), (29, .aload_n 1, 1, 1, 0, .null), (30, .iload_n 2, 1, 2, 0, .null), (31, .invokevirtual 365, 3, 1, 2, .ref 6)],
  [(34, .iload 6, 2, 6, 0, .null), (36, .iload_n 3, 1, 3, 0, .null), (37, .if_icmp .ne 11, 3, 48, 0, .null), (40, .aload_n 1, 1, 1, 0, .null), (41, .iconst 0, 1, 0, 0, .int 0), (42, .invokevirtual 365, 3, 1, 2, .ref 6), (45, .goto 4, 3, 49, 0, .null)],
  [(48, .iconst 0, 1, 0, 0, .int 0), (49, .iadd, 1, 0, 0, .null), (50, .istore 7, 2, 7, 0, .null), (52, .aload_n 0, 1, 0, 0, .null), (53, .getfield 23, 3, 2, 9, .null), (56, .iload 6, 2, 6, 0, .null), (58, .aaload, 1, 0, 0, .null), (59, .iload 4, 2, 4, 0, .null), (61, .iload 7, 2, 7, 0, .null), (63, .aload_n 0, 1, 0, 0, .null)],
  [(64, .getfield 57, 3, 8, 9, .null), (67, .invokevirtual 393, 3, 2, 4, .ref 5), (70, .ifCond .eq 36, 3, 106, 0, .null), (73, .iload 5, 2, 5, 0, .null), (75, .iconst (-1), 1, 0, 0, .int (-1)), (76, .if_icmp .eq 26, 3, 102, 0, .null), (79, .aload_n 0, 1, 0, 0, .null)],
  [(80, .getfield 23, 3, 2, 9, .null), (83, .iload 6, 2, 6, 0, .null), (85, .aaload, 1, 0, 0, .null), (86, .getfield 396, 3, 3, 5, .null), (89, .aload_n 0, 1, 0, 0, .null), (90, .getfield 23, 3, 2, 9, .null), (93, .iload 5, 2, 5, 0, .null), (95, .aaload, 1, 0, 0, .null)],
  [(96, .getfield 396, 3, 3, 5, .null), (99, .if_icmp .ge 7, 3, 106, 0, .null), (102, .iload 6, 2, 6, 0, .null), (104, .istore 5, 2, 5, 0, .null), (106, .iinc 6 1, 3, 6, 0, .int 1), (109, .goto (-87), 3, 22, 0, .null)],
  [(112, .iload 5, 2, 5, 0, .null), (114, .ireturn, 1, 0, 0, .null)]]
def fX9_positionFor : am_F := am_meth [fX6_kindOf, fX6_doseOf, fX5_canGive] [] 1 8 100000 pX9_positionFor
def pX9_cleanCuvette : am_P := [[(0, .iconst 0, 1, 0, 0, .int 0), (1, .istore_n 1, 1, 1, 0, .null), (2, .iload_n 1, 1, 1, 0, .null), (3, .bipush 10, 2, 0, 0, .int 10), (5, .if_icmp .ge 23, 3, 28, 0, .null), (8, .aload_n 0, 1, 0, 0, .null), (9, .getfield 29, 3, 3, 9, .null), (12, .iload_n 1, 1, 1, 0, .null), (13, .aaload, 1, 0, 0, .null), (14, .invokevirtual 387, 3, 0, 1, .ref 1)],
  [(17, .ifCond .eq 5, 3, 22, 0, .null), (20, .iload_n 1, 1, 1, 0, .null), (21, .ireturn, 1, 0, 0, .null), (22, .iinc 1 1, 3, 1, 0, .int 1), (25, .goto (-23), 3, 2, 0, .null), (28, .iconst (-1), 1, 0, 0, .int (-1)), (29, .ireturn, 1, 0, 0, .null)]]
def fX9_cleanCuvette : am_F := am_meth [fX1_isClean] [] 1 2 100000 pX9_cleanCuvette
def pX9_reserve : am_P := [[(0, .aload_n 1, 1, 1, 0, .null), (1, .getfield 259, 3, 2, 1, .null), (4, .iload_n 2, 1, 2, 0, .null), (5, .iload_n 3, 1, 3, 0, .null), (6, .iastore, 1, 0, 0, .null), (7, .aload_n 1, 1, 1, 0, .null), (8, .getfield 262, 3, 3, 1, .null), (11, .iload_n 2, 1, 2, 0, .null), (12, .iload 4, 2, 4, 0, .null), (14, .iastore, 1, 0, 0, .null), (15, .iload_n 3, 1, 3, 0, .null)],
  [(16, .iconst (-1), 1, 0, 0, .int (-1)), (17, .if_icmp .eq 19, 3, 36, 0, .null), (20, .aload_n 0, 1, 0, 0, .null), (21, .getfield 23, 3, 2, 9, .null), (24, .iload_n 3, 1, 3, 0, .null), (25, .aaload, 1, 0, 0, .null), (26, .dup, 1, 0, 0, .null), (27, .getfield 152, 3, 2, 5, .null), (30, .iload 4, 2, 4, 0, .null)],
  [(32, .iadd, 1, 0, 0, .null), (33, .putfield 152, 3, 2, 5, .null), (36, .return_, 1, 0, 0, .null)]]
def fX9_reserve : am_F := am_meth [] [] 0 5 100000 pX9_reserve
def pX9_takeSample : am_P := [[(0, .aload_n 0, 1, 0, 0, .null), (1, .getfield 64, 3, 10, 9, .null), (4, .ifCond .eq 17, 3, 21, 0, .null), (7, .aload_n 0, 1, 0, 0, .null), (8, .iconst 0, 1, 0, 0, .int 0), (9, .putfield 64, 3, 10, 9, .null), (12, .aload_n 0, 1, 0, 0, .null), (13, .iload_n 2, 1, 2, 0, .null), (14, .iconst 3, 1, 0, 0, .int 3), (15, .invokevirtual 249, 3, 0, 3, .ref 9)],
  [(18, .goto 23, 3, 41, 0, .null), (21, .aload_n 1, 1, 1, 0, .null), (22, .dup, 1, 0, 0, .null), (23, .getfield 149, 3, 2, 8, .null), (26, .iload_n 3, 1, 3, 0, .null), (27, .isub, 1, 0, 0, .null), (28, .putfield 149, 3, 2, 8, .null), (31, .aload_n 0, 1, 0, 0, .null)],
  [(32, .getfield 29, 3, 3, 9, .null), (35, .iload_n 2, 1, 2, 0, .null), (36, .aaload, 1, 0, 0, .null), (37, .iload_n 3, 1, 3, 0, .null), (38, .putfield 212, 3, 9, 1, .null), (41, .return_, 1, 0, 0, .null)]]
def fX9_takeSample : am_F := am_meth [fX9_breakOff] [] 0 4 100000 pX9_takeSample
def pX9_tryStart : am_P := [[(0, .aload_n 0, 1, 0, 0, .null), (1, .getfield 35, 3, 4, 9, .null), (4, .iload_n 1, 1, 1, 0, .null), (5, .aaload, 1, 0, 0, .null), (6, .astore_n 2, 1, 2, 0, .null), (7, .aload_n 0, 1, 0, 0, .null), (8, .getfield 11, 3, 0, 9, .null), (11, .aload_n 2, 1, 2, 0, .null), (12, .getfield 268, 3, 1, 4, .null), (15, .aaload, 1, 0, 0, .null)],
  [(16, .astore_n 3, 1, 3, 0, .null), (17, .aload_n 0, 1, 0, 0, .null), (18, .aload_n 2, 1, 2, 0, .null), (19, .getfield 339, 3, 0, 4, .null), (22, .invokevirtual 132, 3, 0, 2, .ref 9), (25, .istore 4, 2, 4, 0, .null), (27, .iload 4, 2, 4, 0, .null), (29, .iconst (-1), 1, 0, 0, .int (-1)), (30, .if_icmp .ne 5, 3, 35, 0, .null)],
  [(33, .iconst 0, 1, 0, 0, .int 0), (34, .ireturn, 1, 0, 0, .null), (35, .aload_n 0, 1, 0, 0, .null), (36, .getfield 17, 3, 1, 9, .null), (39, .iload 4, 2, 4, 0, .null), (41, .aaload, 1, 0, 0, .null), (42, .getfield 149, 3, 2, 8, .null), (45, .aload_n 3, 1, 3, 0, .null), (46, .aload_n 2, 1, 2, 0, .null), (47, .getfield 297, 3, 6, 4, .null)],
  [(50, .invokevirtual 340, 3, 1, 2, .ref 6), (53, .if_icmp .ge 10, 3, 63, 0, .null), (56, .aload_n 2, 1, 2, 0, .null), (57, .iconst 1, 1, 0, 0, .int 1), (58, .invokevirtual 343, 3, 2, 2, .ref 4), (61, .iconst 0, 1, 0, 0, .int 0), (62, .ireturn, 1, 0, 0, .null), (63, .aload_n 0, 1, 0, 0, .null)],
  [(64, .aload_n 3, 1, 3, 0, .null), (65, .iconst 0, 1, 0, 0, .int 0), (66, .iconst (-1), 1, 0, 0, .int (-1)), (67, .invokevirtual 346, 3, 3, 4, .ref 9), (70, .istore 5, 2, 5, 0, .null), (72, .aload_n 0, 1, 0, 0, .null), (73, .aload_n 3, 1, 3, 0, .null), (74, .iconst 1, 1, 0, 0, .int 1), (75, .iload 5, 2, 5, 0, .null), (77, .invokevirtual 346, 3, 3, 4, .ref 9)],
  [(80, .istore 6, 2, 6, 0, .null), (82, .aload_n 3, 1, 3, 0, .null), (83, .iconst 0, 1, 0, 0, .int 0), (84, .iload 5, 2, 5, 0, .null), (86, .invokevirtual 350, 3, 4, 3, .ref 6), (89, .ifCond .ne 13, 3, 102, 0, .null), (92, .aload_n 3, 1, 3, 0, .null), (93, .iconst 1, 1, 0, 0, .int 1), (94, .iload 6, 2, 6, 0, .null)],
  [(96, .invokevirtual 350, 3, 4, 3, .ref 6), (99, .ifCond .eq 10, 3, 109, 0, .null), (102, .aload_n 2, 1, 2, 0, .null), (103, .iconst 2, 1, 0, 0, .int 2), (104, .invokevirtual 343, 3, 2, 2, .ref 4), (107, .iconst 0, 1, 0, 0, .int 0), (108, .ireturn, 1, 0, 0, .null), (109, .aload_n 0, 1, 0, 0, .null), (110, .invokevirtual 353, 3, 5, 1, .ref 9)],
  [(113, .istore 7, 2, 7, 0, .null), (115, .iload 7, 2, 7, 0, .null), (117, .iconst (-1), 1, 0, 0, .int (-1)), (118, .if_icmp .eq 16, 3, 134, 0, .null), (121, .aload_n 0, 1, 0, 0, .null), (122, .getfield 42, 3, 5, 9, .null), (125, .aload_n 3, 1, 3, 0, .null), (126, .iload 7, 2, 7, 0, .null)],
  [(128, .invokevirtual 356, 3, 6, 3, .ref 7), (131, .ifCond .ne 5, 3, 136, 0, .null), (134, .iconst 0, 1, 0, 0, .int 0), (135, .ireturn, 1, 0, 0, .null), (136, .aload_n 0, 1, 0, 0, .null), (137, .getfield 29, 3, 3, 9, .null), (140, .iload 7, 2, 7, 0, .null), (142, .aaload, 1, 0, 0, .null), (143, .iload_n 1, 1, 1, 0, .null)],
  [(144, .aload_n 0, 1, 0, 0, .null), (145, .getfield 17, 3, 1, 9, .null), (148, .iload 4, 2, 4, 0, .null), (150, .aaload, 1, 0, 0, .null), (151, .getfield 360, 3, 1, 8, .null), (154, .invokevirtual 361, 3, 7, 3, .ref 1), (157, .aload_n 0, 1, 0, 0, .null), (158, .aload_n 0, 1, 0, 0, .null), (159, .getfield 29, 3, 3, 9, .null)],
  [(162, .iload 7, 2, 7, 0, .null), (164, .aaload, 1, 0, 0, .null), (165, .iconst 0, 1, 0, 0, .int 0), (166, .iload 5, 2, 5, 0, .null), (168, .aload_n 3, 1, 3, 0, .null), (169, .iconst 0, 1, 0, 0, .int 0), (170, .invokevirtual 365, 3, 8, 2, .ref 6), (173, .invokevirtual 368, 3, 9, 5, .ref 9)],
  [(176, .aload_n 0, 1, 0, 0, .null), (177, .aload_n 0, 1, 0, 0, .null), (178, .getfield 29, 3, 3, 9, .null), (181, .iload 7, 2, 7, 0, .null), (183, .aaload, 1, 0, 0, .null), (184, .iconst 1, 1, 0, 0, .int 1), (185, .iload 6, 2, 6, 0, .null), (187, .aload_n 3, 1, 3, 0, .null), (188, .iconst 1, 1, 0, 0, .int 1), (189, .invokevirtual 365, 3, 8, 2, .ref 6)],
  [(192, .invokevirtual 368, 3, 9, 5, .ref 9), (195, .aload_n 2, 1, 2, 0, .null), (196, .iload 7, 2, 7, 0, .null), (198, .invokevirtual 372, 3, 10, 2, .ref 4), (201, .aload_n 0, 1, 0, 0, .null), (202, .aload_n 0, 1, 0, 0, .null), (203, .getfield 17, 3, 1, 9, .null), (206, .iload 4, 2, 4, 0, .null)],
  [(208, .aaload, 1, 0, 0, .null), (209, .iload 7, 2, 7, 0, .null), (211, .aload_n 3, 1, 3, 0, .null), (212, .aload_n 2, 1, 2, 0, .null), (213, .getfield 297, 3, 6, 4, .null), (216, .invokevirtual 340, 3, 1, 2, .ref 6), (219, .invokevirtual 375, 3, 11, 4, .ref 9), (222, .iconst 1, 1, 0, 0, .int 1), (223, .ireturn, 1, 0, 0, .null)]]
def fX9_tryStart : am_F := am_meth [fX9_slotOf, fX6_sampleVolume, fX4_fail, fX9_positionFor, fX6_lacks, fX9_cleanCuvette, fX7_book, fX1_start, fX6_doseOf, fX9_reserve, fX4_startRun, fX9_takeSample] [] 2 8 100000 pX9_tryStart
def pX9_startFirst : am_P := [[(0, .iconst 0, 1, 0, 0, .int 0), (1, .istore_n 2, 1, 2, 0, .null), (2, .iload_n 2, 1, 2, 0, .null), (3, .aload_n 0, 1, 0, 0, .null), (4, .getfield 53, 3, 7, 9, .null), (7, .if_icmp .ge 44, 3, 51, 0, .null), (10, .aload_n 0, 1, 0, 0, .null), (11, .getfield 35, 3, 4, 9, .null), (14, .iload_n 2, 1, 2, 0, .null), (15, .aaload, 1, 0, 0, .null)],
  [(16, .getfield 185, 3, 3, 4, .null), (19, .ifCond .ne 26, 3, 45, 0, .null), (22, .aload_n 0, 1, 0, 0, .null), (23, .getfield 35, 3, 4, 9, .null), (26, .iload_n 2, 1, 2, 0, .null), (27, .aaload, 1, 0, 0, .null), (28, .getfield 333, 3, 2, 4, .null), (31, .iload_n 1, 1, 1, 0, .null)],
  [(32, .if_icmp .ne 13, 3, 45, 0, .null), (35, .aload_n 0, 1, 0, 0, .null), (36, .iload_n 2, 1, 2, 0, .null), (37, .invokevirtual 336, 3, 0, 2, .ref 9), (40, .ifCond .eq 5, 3, 45, 0, .null), (43, .iload_n 2, 1, 2, 0, .null), (44, .ireturn, 1, 0, 0, .null), (45, .iinc 2 1, 3, 2, 0, .int 1)],
  [(48, .goto (-46), 3, 2, 0, .null), (51, .iconst (-1), 1, 0, 0, .int (-1)), (52, .ireturn, 1, 0, 0, .null)]]
def fX9_startFirst : am_F := am_meth [fX9_tryStart] [] 1 3 100000 pX9_startFirst
def pX9_step : am_P := [[(0, .aload_n 0, 1, 0, 0, .null), (1, .invokevirtual 165, 3, 0, 1, .ref 9), (4, .aload_n 0, 1, 0, 0, .null), (5, .invokevirtual 168, 3, 1, 1, .ref 9), (8, .aload_n 0, 1, 0, 0, .null), (9, .invokevirtual 171, 3, 2, 1, .ref 9), (12, .aload_n 0, 1, 0, 0, .null), (13, .invokevirtual 174, 3, 3, 1, .ref 9)],
  [(16, .aload_n 0, 1, 0, 0, .null), (17, .iconst 1, 1, 0, 0, .int 1), (18, .invokevirtual 177, 3, 4, 2, .ref 9), (21, .istore_n 1, 1, 1, 0, .null), (22, .iload_n 1, 1, 1, 0, .null), (23, .iconst (-1), 1, 0, 0, .int (-1)), (24, .if_icmp .ne 9, 3, 33, 0, .null), (27, .aload_n 0, 1, 0, 0, .null), (28, .iconst 0, 1, 0, 0, .int 0), (29, .invokevirtual 177, 3, 4, 2, .ref 9)],
  [(32, .istore_n 1, 1, 1, 0, .null), (33, .iload_n 1, 1, 1, 0, .null), (34, .iconst (-1), 1, 0, 0, .int (-1)), (35, .if_icmp .ne 13, 3, 48, 0, .null), (38, .aload_n 0, 1, 0, 0, .null), (39, .dup, 1, 0, 0, .null), (40, .getfield 71, 3, 12, 9, .null), (43, .iconst 1, 1, 0, 0, .int 1), (44, .iadd, 1, 0, 0, .null), (45, .putfield 71, 3, 12, 9, .null)],
  [(48, .iload_n 1, 1, 1, 0, .null), (49, .ireturn, 1, 0, 0, .null)]]
def fX9_step : am_F := am_meth [fX9_turnDisc, fX9_giveReagent, fX9_takeReadings, fX9_judgeEndedRuns, fX9_startFirst] [] 1 2 100000 pX9_step
def pX9_idle : am_P := [[(0, .aload_n 0, 1, 0, 0, .null), (1, .getfield 71, 3, 12, 9, .null), (4, .ireturn, 1, 0, 0, .null)]]
def fX9_idle : am_F := am_meth [] [] 1 1 100000 pX9_idle
def pX9_state : am_P := [[(0, .iload_n 1, 1, 1, 0, .null), (1, .iconst 0, 1, 0, 0, .int 0), (2, .aload_n 0, 1, 0, 0, .null), (3, .getfield 53, 3, 7, 9, .null), (6, .iconst 1, 1, 0, 0, .int 1), (7, .isub, 1, 0, 0, .null), (8, .invokestatic 79, 3, 0, 3, .null), (11, .ifCond .eq 17, 3, 28, 0, .null), (14, .iload_n 2, 1, 2, 0, .null), (15, .iconst 0, 1, 0, 0, .int 0)],
  [(16, .bipush 6, 2, 0, 0, .int 6), (18, .invokestatic 79, 3, 0, 3, .null), (21, .ifCond .eq 7, 3, 28, 0, .null), (24, .iconst 1, 1, 0, 0, .int 1), (25, .goto 4, 3, 29, 0, .null), (28, .iconst 0, 1, 0, 0, .int 0), (29, .invokestatic 87, 3, 1, 1, .null)],
  [(32, .aload_n 0, 1, 0, 0, .null), (33, .getfield 35, 3, 4, 9, .null), (36, .iload_n 1, 1, 1, 0, .null), (37, .aaload, 1, 0, 0, .null), (38, .astore_n 3, 1, 3, 0, .null), (39, .aload_n 0, 1, 0, 0, .null), (40, .aload_n 3, 1, 3, 0, .null), (41, .invokevirtual 181, 3, 2, 2, .ref 9), (44, .astore 4, 2, 4, 0, .null), (46, .iload_n 2, 1, 2, 0, .null), (47, .tableswitch 77 0 5 #[37, 42, 47, 52, 57, 72], 37, 0, 0, .null)],
  [],
  [],
  [(84, .aload_n 3, 1, 3, 0, .null), (85, .getfield 185, 3, 3, 4, .null), (88, .ireturn, 1, 0, 0, .null), (89, .aload_n 3, 1, 3, 0, .null), (90, .getfield 188, 3, 4, 4, .null), (93, .ireturn, 1, 0, 0, .null), (94, .aload_n 3, 1, 3, 0, .null), (95, .getfield 191, 3, 5, 4, .null)],
  [(98, .ireturn, 1, 0, 0, .null), (99, .aload_n 3, 1, 3, 0, .null), (100, .getfield 194, 3, 7, 4, .null), (103, .ireturn, 1, 0, 0, .null), (104, .aload 4, 2, 4, 0, .null), (106, .ifnonnull 7, 3, 113, 0, .null), (109, .iconst (-1), 1, 0, 0, .int (-1)), (110, .goto 8, 3, 118, 0, .null)],
  [(113, .aload 4, 2, 4, 0, .null), (115, .getfield 197, 3, 7, 1, .null), (118, .ireturn, 1, 0, 0, .null), (119, .aload_n 3, 1, 3, 0, .null), (120, .getfield 200, 3, 8, 4, .null), (123, .ireturn, 1, 0, 0, .null), (124, .aload_n 3, 1, 3, 0, .null), (125, .getfield 203, 3, 9, 4, .null)],
  [(128, .ireturn, 1, 0, 0, .null)]]
def fX9_state : am_F := am_meth [fX9_isWithin, fX9_demandArgument, fX9_cuvetteOf] [] 1 5 100000 pX9_state
def pX9_cuvette : am_P := [[(0, .iload_n 1, 1, 1, 0, .null), (1, .iconst 0, 1, 0, 0, .int 0), (2, .bipush 9, 2, 0, 0, .int 9), (4, .invokestatic 79, 3, 0, 3, .null), (7, .ifCond .eq 16, 3, 23, 0, .null), (10, .iload_n 2, 1, 2, 0, .null), (11, .iconst 0, 1, 0, 0, .int 0), (12, .iconst 2, 1, 0, 0, .int 2), (13, .invokestatic 79, 3, 0, 3, .null)],
  [(16, .ifCond .eq 7, 3, 23, 0, .null), (19, .iconst 1, 1, 0, 0, .int 1), (20, .goto 4, 3, 24, 0, .null), (23, .iconst 0, 1, 0, 0, .int 0), (24, .invokestatic 87, 3, 1, 1, .null), (27, .aload_n 0, 1, 0, 0, .null), (28, .getfield 29, 3, 3, 9, .null), (31, .iload_n 1, 1, 1, 0, .null)],
  [(32, .aaload, 1, 0, 0, .null), (33, .astore_n 3, 1, 3, 0, .null), (34, .iload_n 2, 1, 2, 0, .null), (35, .lookupswitch 35 #[(0, 25), (1, 30)], 25, 0, 0, .null)],
  [(60, .aload_n 3, 1, 3, 0, .null), (61, .getfield 206, 3, 5, 1, .null)],
  [(64, .ireturn, 1, 0, 0, .null), (65, .aload_n 3, 1, 3, 0, .null), (66, .getfield 209, 3, 8, 1, .null), (69, .ireturn, 1, 0, 0, .null), (70, .aload_n 3, 1, 3, 0, .null), (71, .getfield 212, 3, 9, 1, .null), (74, .ireturn, 1, 0, 0, .null)]]
def fX9_cuvette : am_F := am_meth [fX9_isWithin, fX9_demandArgument] [] 1 4 100000 pX9_cuvette
def pX9_volume : am_P := [[(0, .iload_n 1, 1, 1, 0, .null), (1, .iconst 0, 1, 0, 0, .int 0), (2, .iconst 2, 1, 0, 0, .int 2), (3, .invokestatic 79, 3, 0, 3, .null), (6, .ifCond .eq 28, 3, 34, 0, .null), (9, .iload_n 2, 1, 2, 0, .null), (10, .iconst 0, 1, 0, 0, .int 0), (11, .iload_n 1, 1, 1, 0, .null), (12, .ifCond .ne 8, 3, 20, 0, .null), (15, .bipush 6, 2, 0, 0, .int 6)],
  [(17, .goto 5, 3, 22, 0, .null), (20, .bipush 8, 2, 0, 0, .int 8), (22, .iconst 1, 1, 0, 0, .int 1), (23, .isub, 1, 0, 0, .null), (24, .invokestatic 79, 3, 0, 3, .null), (27, .ifCond .eq 7, 3, 34, 0, .null), (30, .iconst 1, 1, 0, 0, .int 1), (31, .goto 4, 3, 35, 0, .null)],
  [(34, .iconst 0, 1, 0, 0, .int 0), (35, .invokestatic 87, 3, 1, 1, .null), (38, .iload_n 1, 1, 1, 0, .null), (39, .ifCond .ne 33, 3, 72, 0, .null), (42, .aload_n 0, 1, 0, 0, .null), (43, .getfield 17, 3, 1, 9, .null), (46, .iload_n 2, 1, 2, 0, .null), (47, .aaload, 1, 0, 0, .null)],
  [(48, .invokevirtual 129, 3, 2, 1, .ref 8), (51, .ifCond .ne 7, 3, 58, 0, .null), (54, .iconst 1, 1, 0, 0, .int 1), (55, .goto 4, 3, 59, 0, .null), (58, .iconst 0, 1, 0, 0, .int 0), (59, .invokestatic 140, 3, 3, 1, .null), (62, .aload_n 0, 1, 0, 0, .null), (63, .getfield 17, 3, 1, 9, .null)],
  [(66, .iload_n 2, 1, 2, 0, .null), (67, .aaload, 1, 0, 0, .null), (68, .getfield 149, 3, 2, 8, .null), (71, .ireturn, 1, 0, 0, .null), (72, .aload_n 0, 1, 0, 0, .null), (73, .getfield 23, 3, 2, 9, .null), (76, .iload_n 2, 1, 2, 0, .null), (77, .aaload, 1, 0, 0, .null), (78, .invokevirtual 215, 3, 4, 1, .ref 5)],
  [(81, .ifCond .ne 7, 3, 88, 0, .null), (84, .iconst 1, 1, 0, 0, .int 1), (85, .goto 4, 3, 89, 0, .null), (88, .iconst 0, 1, 0, 0, .int 0), (89, .invokestatic 140, 3, 3, 1, .null), (92, .iload_n 1, 1, 1, 0, .null), (93, .iconst 1, 1, 0, 0, .int 1), (94, .if_icmp .ne 15, 3, 109, 0, .null)],
  [(97, .aload_n 0, 1, 0, 0, .null), (98, .getfield 23, 3, 2, 9, .null), (101, .iload_n 2, 1, 2, 0, .null), (102, .aaload, 1, 0, 0, .null), (103, .getfield 216, 3, 1, 5, .null), (106, .goto 12, 3, 118, 0, .null), (109, .aload_n 0, 1, 0, 0, .null), (110, .getfield 23, 3, 2, 9, .null)],
  [(113, .iload_n 2, 1, 2, 0, .null), (114, .aaload, 1, 0, 0, .null), (115, .getfield 152, 3, 2, 5, .null), (118, .ireturn, 1, 0, 0, .null)]]
def fX9_volume : am_F := am_meth [fX9_isWithin, fX9_demandArgument, fX8_isEmpty, fX9_demandElement, fX5_isEmpty] [] 1 3 100000 pX9_volume
def fX9_demandIndex : am_F := fun av M => match av with
  | [.inl (.int x)] => if x = 0 then some (.inr "java/lang/IndexOutOfBoundsException", M) else some (.inl none, M)
  | _ => none
def pX9_trend : am_P := [[(0, .iload_n 1, 1, 1, 0, .null), (1, .iconst 0, 1, 0, 0, .int 0), (2, .iconst 3, 1, 0, 0, .int 3), (3, .invokestatic 79, 3, 0, 3, .null), (6, .invokestatic 87, 3, 1, 1, .null), (9, .aload_n 0, 1, 0, 0, .null), (10, .getfield 11, 3, 0, 9, .null), (13, .iload_n 1, 1, 1, 0, .null), (14, .aaload, 1, 0, 0, .null), (15, .getfield 217, 3, 2, 6, .null)],
  [(18, .astore_n 3, 1, 3, 0, .null), (19, .iload_n 2, 1, 2, 0, .null), (20, .iconst 0, 1, 0, 0, .int 0), (21, .aload_n 3, 1, 3, 0, .null), (22, .getfield 221, 3, 1, 2, .null), (25, .iconst 1, 1, 0, 0, .int 1), (26, .isub, 1, 0, 0, .null), (27, .invokestatic 79, 3, 0, 3, .null), (30, .invokestatic 224, 3, 2, 1, .null)],
  [(33, .aload_n 3, 1, 3, 0, .null), (34, .iload_n 2, 1, 2, 0, .null), (35, .invokevirtual 227, 3, 3, 2, .ref 2), (38, .ireturn, 1, 0, 0, .null)]]
def fX9_trend : am_F := am_meth [fX9_isWithin, fX9_demandArgument, fX9_demandIndex, fX2_fromLatest] [] 1 4 100000 pX9_trend
def pX9_rules : am_P := [[(0, .iload_n 1, 1, 1, 0, .null), (1, .iconst 0, 1, 0, 0, .int 0), (2, .iconst 3, 1, 0, 0, .int 3), (3, .invokestatic 79, 3, 0, 3, .null), (6, .invokestatic 87, 3, 1, 1, .null), (9, .aload_n 0, 1, 0, 0, .null), (10, .getfield 11, 3, 0, 9, .null), (13, .iload_n 1, 1, 1, 0, .null), (14, .aaload, 1, 0, 0, .null), (15, .invokevirtual 230, 3, 2, 1, .ref 6)],
  [(18, .ireturn, 1, 0, 0, .null)]]
def fX9_rules : am_F := am_meth [fX9_isWithin, fX9_demandArgument, fX6_brokenRules] [] 1 2 100000 pX9_rules
def pX9_host : am_P := [[(0, .iload_n 1, 1, 1, 0, .null), (1, .iconst 0, 1, 0, 0, .int 0), (2, .aload_n 0, 1, 0, 0, .null), (3, .getfield 49, 3, 6, 9, .null), (6, .getfield 234, 3, 1, 3, .null), (9, .iconst 1, 1, 0, 0, .int 1), (10, .isub, 1, 0, 0, .null), (11, .invokestatic 79, 3, 0, 3, .null), (14, .invokestatic 224, 3, 1, 1, .null)],
  [(17, .aload_n 0, 1, 0, 0, .null), (18, .getfield 49, 3, 6, 9, .null), (21, .getfield 235, 3, 0, 3, .null), (24, .iload_n 1, 1, 1, 0, .null), (25, .iaload, 1, 0, 0, .null), (26, .ireturn, 1, 0, 0, .null)]]
def fX9_host : am_F := am_meth [fX9_isWithin, fX9_demandIndex] [] 1 2 100000 pX9_host
def pX9_took : am_P := [[(0, .iload_n 1, 1, 1, 0, .null), (1, .iconst 0, 1, 0, 0, .int 0), (2, .aload_n 0, 1, 0, 0, .null), (3, .getfield 49, 3, 6, 9, .null), (6, .getfield 234, 3, 1, 3, .null), (9, .invokestatic 79, 3, 0, 3, .null), (12, .invokestatic 87, 3, 1, 1, .null), (15, .aload_n 0, 1, 0, 0, .null)],
  [(16, .getfield 49, 3, 6, 9, .null), (19, .iload_n 1, 1, 1, 0, .null), (20, .invokevirtual 238, 3, 2, 2, .ref 3), (23, .aload_n 0, 1, 0, 0, .null), (24, .getfield 49, 3, 6, 9, .null), (27, .getfield 234, 3, 1, 3, .null), (30, .ireturn, 1, 0, 0, .null)]]
def fX9_took : am_F := am_meth [fX9_isWithin, fX9_demandArgument, fX3_dropFirst] [] 1 2 100000 pX9_took
def pX10_thrown : am_P := [[(0, .aload_n 0, 1, 0, 0, .null), (1, .getfield 127, 3, 45, 10, .null), (4, .ireturn, 1, 0, 0, .null)]]
def fX10_thrown : am_F := am_meth [] [] 1 1 100000 pX10_thrown
def pX10_within : am_P := [[(0, .iload_n 0, 1, 0, 0, .null), (1, .iload_n 1, 1, 1, 0, .null), (2, .if_icmp .lt 12, 3, 14, 0, .null), (5, .iload_n 0, 1, 0, 0, .null), (6, .iload_n 2, 1, 2, 0, .null), (7, .if_icmp .gt 7, 3, 14, 0, .null), (10, .iconst 1, 1, 0, 0, .int 1), (11, .goto 4, 3, 15, 0, .null), (14, .iconst 0, 1, 0, 0, .int 0), (15, .ireturn, 1, 0, 0, .null)]]
def fX10_within : am_F := am_meth [] [] 2 3 100000 pX10_within
def pX10_isTest : am_P := [[(0, .iload_n 0, 1, 0, 0, .null), (1, .iconst 0, 1, 0, 0, .int 0), (2, .iconst 3, 1, 0, 0, .int 3), (3, .invokestatic 130, 3, 0, 3, .null), (6, .ireturn, 1, 0, 0, .null)]]
def fX10_isTest : am_F := am_meth [fX10_within] [] 2 1 100000 pX10_isTest
def pX10_of : am_P := [[(0, .aload_n 0, 1, 0, 0, .null), (1, .getfield 7, 3, 0, 10, .null), (4, .bipush 16, 2, 0, 0, .int 16), (6, .iload_n 1, 1, 1, 0, .null), (7, .imul, 1, 0, 0, .null), (8, .iload_n 2, 1, 2, 0, .null), (9, .iadd, 1, 0, 0, .null), (10, .iaload, 1, 0, 0, .null), (11, .ireturn, 1, 0, 0, .null)]]
def fX10_of : am_F := am_meth [] [] 1 3 100000 pX10_of
def pX10_pending : am_P := [[(0, .iconst 0, 1, 0, 0, .int 0), (1, .istore_n 2, 1, 2, 0, .null), (2, .iload_n 2, 1, 2, 0, .null), (3, .aload_n 0, 1, 0, 0, .null), (4, .getfield 134, 3, 14, 10, .null), (7, .if_icmp .ge 31, 3, 38, 0, .null), (10, .aload_n 0, 1, 0, 0, .null), (11, .getfield 56, 3, 16, 10, .null), (14, .iload_n 2, 1, 2, 0, .null), (15, .iaload, 1, 0, 0, .null)],
  [(16, .iload_n 1, 1, 1, 0, .null), (17, .if_icmp .ne 15, 3, 32, 0, .null), (20, .aload_n 0, 1, 0, 0, .null), (21, .getfield 62, 3, 18, 10, .null), (24, .iload_n 2, 1, 2, 0, .null), (25, .iaload, 1, 0, 0, .null), (26, .iconst 1, 1, 0, 0, .int 1), (27, .if_icmp .gt 5, 3, 32, 0, .null), (30, .iconst 1, 1, 0, 0, .int 1), (31, .ireturn, 1, 0, 0, .null)],
  [(32, .iinc 2 1, 3, 2, 0, .int 1), (35, .goto (-33), 3, 2, 0, .null), (38, .iconst 0, 1, 0, 0, .int 0), (39, .ireturn, 1, 0, 0, .null)]]
def fX10_pending : am_F := am_meth [] [] 2 3 100000 pX10_pending
def pX10_fits : am_P := [[(0, .iload_n 0, 1, 0, 0, .null), (1, .tableswitch 135 0 15 #[79, 88, 95, 104, 88, 95, 104, 104, 104, 112, 135, 135, 112, 119, 135, 127], 79, 0, 0, .null)],
  [],
  [],
  [],
  [],
  [(80, .iload_n 1, 1, 1, 0, .null), (81, .iconst 0, 1, 0, 0, .int 0), (82, .sipush 500, 3, 0, 0, .int 500), (85, .invokestatic 130, 3, 0, 3, .null), (88, .ireturn, 1, 0, 0, .null), (89, .iload_n 1, 1, 1, 0, .null), (90, .iconst (-1), 1, 0, 0, .int (-1)), (91, .iconst 5, 1, 0, 0, .int 5), (92, .invokestatic 130, 3, 0, 3, .null), (95, .ireturn, 1, 0, 0, .null)],
  [(96, .iload_n 1, 1, 1, 0, .null), (97, .iconst 0, 1, 0, 0, .int 0), (98, .sipush 2000, 3, 0, 0, .int 2000), (101, .invokestatic 130, 3, 0, 3, .null), (104, .ireturn, 1, 0, 0, .null), (105, .iload_n 1, 1, 1, 0, .null), (106, .iconst 0, 1, 0, 0, .int 0), (107, .bipush 12, 2, 0, 0, .int 12), (109, .invokestatic 130, 3, 0, 3, .null)],
  [(112, .ireturn, 1, 0, 0, .null), (113, .iload_n 1, 1, 1, 0, .null), (114, .iconst 0, 1, 0, 0, .int 0), (115, .iconst 2, 1, 0, 0, .int 2), (116, .invokestatic 130, 3, 0, 3, .null), (119, .ireturn, 1, 0, 0, .null), (120, .iload_n 1, 1, 1, 0, .null), (121, .iconst 2, 1, 0, 0, .int 2), (122, .bipush 10, 2, 0, 0, .int 10), (124, .invokestatic 130, 3, 0, 3, .null), (127, .ireturn, 1, 0, 0, .null)],
  [(128, .iload_n 1, 1, 1, 0, .null), (129, .iconst 1, 1, 0, 0, .int 1), (130, .ldc 137, 2, 0, 0, .int 1000000), (132, .invokestatic 130, 3, 0, 3, .null), (135, .ireturn, 1, 0, 0, .null), (136, .iconst 1, 1, 0, 0, .int 1), (137, .ireturn, 1, 0, 0, .null)]]
def fX10_fits : am_F := am_meth [fX10_within] [] 2 2 100000 pX10_fits
def pX10_define : am_P := [[(0, .aload_n 0, 1, 0, 0, .null), (1, .iload_n 1, 1, 1, 0, .null), (2, .invokestatic 138, 3, 0, 1, .null), (5, .ifCond .eq 21, 3, 26, 0, .null), (8, .iload_n 2, 1, 2, 0, .null), (9, .iconst 0, 1, 0, 0, .int 0), (10, .bipush 15, 2, 0, 0, .int 15), (12, .invokestatic 130, 3, 1, 3, .null), (15, .ifCond .eq 11, 3, 26, 0, .null)],
  [(18, .iload_n 2, 1, 2, 0, .null), (19, .iload_n 3, 1, 3, 0, .null), (20, .invokestatic 142, 3, 2, 2, .null), (23, .ifCond .ne 7, 3, 30, 0, .null), (26, .iconst 1, 1, 0, 0, .int 1), (27, .goto 16, 3, 43, 0, .null), (30, .aload_n 0, 1, 0, 0, .null), (31, .iload_n 1, 1, 1, 0, .null)],
  [(32, .invokevirtual 146, 3, 3, 2, .ref 10), (35, .ifCond .eq 7, 3, 42, 0, .null), (38, .iconst 2, 1, 0, 0, .int 2), (39, .goto 4, 3, 43, 0, .null), (42, .iconst 0, 1, 0, 0, .int 0), (43, .putfield 127, 3, 45, 10, .null), (46, .aload_n 0, 1, 0, 0, .null), (47, .getfield 127, 3, 45, 10, .null)],
  [(50, .ifCond .eq 4, 3, 54, 0, .null), (53, .return_, 1, 0, 0, .null), (54, .aload_n 0, 1, 0, 0, .null), (55, .getfield 7, 3, 0, 10, .null), (58, .bipush 16, 2, 0, 0, .int 16), (60, .iload_n 1, 1, 1, 0, .null), (61, .imul, 1, 0, 0, .null), (62, .iload_n 2, 1, 2, 0, .null), (63, .iadd, 1, 0, 0, .null)],
  [(64, .iload_n 3, 1, 3, 0, .null), (65, .iastore, 1, 0, 0, .null), (66, .aload_n 0, 1, 0, 0, .null), (67, .getfield 13, 3, 1, 10, .null), (70, .iload_n 1, 1, 1, 0, .null), (71, .iconst 0, 1, 0, 0, .int 0), (72, .bastore, 1, 0, 0, .null), (73, .return_, 1, 0, 0, .null)]]
def fX10_define : am_F := am_meth [fX10_isTest, fX10_within, fX10_fits, fX10_pending] [] 0 4 100000 pX10_define
def pX10_curve : am_P := [[(0, .iload_n 1, 1, 1, 0, .null), (1, .invokestatic 138, 3, 0, 1, .null), (4, .ifCond .eq 29, 3, 33, 0, .null), (7, .iload_n 2, 1, 2, 0, .null), (8, .ldc 149, 2, 0, 0, .int (-1000000)), (10, .ldc 137, 2, 0, 0, .int 1000000), (12, .invokestatic 130, 3, 1, 3, .null), (15, .ifCond .eq 18, 3, 33, 0, .null)],
  [(18, .iload_n 3, 1, 3, 0, .null), (19, .ldc 149, 2, 0, 0, .int (-1000000)), (21, .ldc 137, 2, 0, 0, .int 1000000), (23, .invokestatic 130, 3, 1, 3, .null), (26, .ifCond .eq 7, 3, 33, 0, .null), (29, .iconst 1, 1, 0, 0, .int 1), (30, .goto 4, 3, 34, 0, .null)],
  [(33, .iconst 0, 1, 0, 0, .int 0), (34, .istore 4, 2, 4, 0, .null), (36, .aload_n 0, 1, 0, 0, .null), (37, .iload 4, 2, 4, 0, .null), (39, .ifCond .ne 7, 3, 46, 0, .null), (42, .iconst 1, 1, 0, 0, .int 1), (43, .goto 56, 3, 99, 0, .null), (46, .aload_n 0, 1, 0, 0, .null), (47, .iload_n 1, 1, 1, 0, .null)],
  [(48, .invokevirtual 146, 3, 2, 2, .ref 10), (51, .ifCond .ne 43, 3, 94, 0, .null), (54, .aload_n 0, 1, 0, 0, .null), (55, .getfield 23, 3, 4, 10, .null), (58, .iload_n 1, 1, 1, 0, .null), (59, .iaload, 1, 0, 0, .null), (60, .iconst 5, 1, 0, 0, .int 5), (61, .if_icmp .eq 33, 3, 94, 0, .null)],
  [(64, .aload_n 0, 1, 0, 0, .null), (65, .getfield 23, 3, 4, 10, .null), (68, .iload_n 1, 1, 1, 0, .null), (69, .iaload, 1, 0, 0, .null), (70, .ifCond .le 28, 3, 98, 0, .null), (73, .aload_n 0, 1, 0, 0, .null), (74, .getfield 17, 3, 2, 10, .null), (77, .iconst 5, 1, 0, 0, .int 5), (78, .iload_n 1, 1, 1, 0, .null), (79, .imul, 1, 0, 0, .null)],
  [(80, .aload_n 0, 1, 0, 0, .null), (81, .getfield 23, 3, 4, 10, .null), (84, .iload_n 1, 1, 1, 0, .null), (85, .iaload, 1, 0, 0, .null), (86, .iadd, 1, 0, 0, .null), (87, .iconst 1, 1, 0, 0, .int 1), (88, .isub, 1, 0, 0, .null), (89, .iaload, 1, 0, 0, .null), (90, .iload_n 2, 1, 2, 0, .null), (91, .if_icmp .ne 7, 3, 98, 0, .null), (94, .iconst 2, 1, 0, 0, .int 2), (95, .goto 4, 3, 99, 0, .null)],
  [(98, .iconst 0, 1, 0, 0, .int 0), (99, .putfield 127, 3, 45, 10, .null), (102, .aload_n 0, 1, 0, 0, .null), (103, .getfield 127, 3, 45, 10, .null), (106, .ifCond .eq 5, 3, 111, 0, .null), (109, .iconst 0, 1, 0, 0, .int 0), (110, .ireturn, 1, 0, 0, .null), (111, .aload_n 0, 1, 0, 0, .null)],
  [(112, .getfield 23, 3, 4, 10, .null), (115, .iload_n 1, 1, 1, 0, .null), (116, .iaload, 1, 0, 0, .null), (117, .ifCond .le 31, 3, 148, 0, .null), (120, .iload_n 2, 1, 2, 0, .null), (121, .aload_n 0, 1, 0, 0, .null), (122, .getfield 17, 3, 2, 10, .null), (125, .iconst 5, 1, 0, 0, .int 5), (126, .iload_n 1, 1, 1, 0, .null), (127, .imul, 1, 0, 0, .null)],
  [(128, .aload_n 0, 1, 0, 0, .null), (129, .getfield 23, 3, 4, 10, .null), (132, .iload_n 1, 1, 1, 0, .null), (133, .iaload, 1, 0, 0, .null), (134, .iadd, 1, 0, 0, .null), (135, .iconst 1, 1, 0, 0, .int 1), (136, .isub, 1, 0, 0, .null), (137, .iaload, 1, 0, 0, .null), (138, .if_icmp .ge 10, 3, 148, 0, .null), (141, .aload_n 0, 1, 0, 0, .null), (142, .getfield 23, 3, 4, 10, .null)],
  [(145, .iload_n 1, 1, 1, 0, .null), (146, .iconst 0, 1, 0, 0, .int 0), (147, .iastore, 1, 0, 0, .null), (148, .aload_n 0, 1, 0, 0, .null), (149, .getfield 17, 3, 2, 10, .null), (152, .iconst 5, 1, 0, 0, .int 5), (153, .iload_n 1, 1, 1, 0, .null), (154, .imul, 1, 0, 0, .null), (155, .aload_n 0, 1, 0, 0, .null), (156, .getfield 23, 3, 4, 10, .null), (159, .iload_n 1, 1, 1, 0, .null)],
  [(160, .iaload, 1, 0, 0, .null), (161, .iadd, 1, 0, 0, .null), (162, .iload_n 2, 1, 2, 0, .null), (163, .iastore, 1, 0, 0, .null), (164, .aload_n 0, 1, 0, 0, .null), (165, .getfield 20, 3, 3, 10, .null), (168, .iconst 5, 1, 0, 0, .int 5), (169, .iload_n 1, 1, 1, 0, .null), (170, .imul, 1, 0, 0, .null), (171, .aload_n 0, 1, 0, 0, .null), (172, .getfield 23, 3, 4, 10, .null), (175, .iload_n 1, 1, 1, 0, .null)],
  [(176, .iaload, 1, 0, 0, .null), (177, .iadd, 1, 0, 0, .null), (178, .iload_n 3, 1, 3, 0, .null), (179, .iastore, 1, 0, 0, .null), (180, .aload_n 0, 1, 0, 0, .null), (181, .getfield 23, 3, 4, 10, .null), (184, .iload_n 1, 1, 1, 0, .null), (185, .dup2, 1, 0, 0, .null), (186, .iaload, 1, 0, 0, .null), (187, .iconst 1, 1, 0, 0, .int 1), (188, .iadd, 1, 0, 0, .null), (189, .iastore, 1, 0, 0, .null), (190, .aload_n 0, 1, 0, 0, .null), (191, .getfield 13, 3, 1, 10, .null)],
  [(194, .iload_n 1, 1, 1, 0, .null), (195, .iconst 0, 1, 0, 0, .int 0), (196, .bastore, 1, 0, 0, .null), (197, .aload_n 0, 1, 0, 0, .null), (198, .getfield 23, 3, 4, 10, .null), (201, .iload_n 1, 1, 1, 0, .null), (202, .iaload, 1, 0, 0, .null), (203, .ireturn, 1, 0, 0, .null)]]
def fX10_curve : am_F := am_meth [fX10_isTest, fX10_within, fX10_pending] [] 1 5 100000 pX10_curve
def pX10_reagentGood : am_P := [[(0, .aload_n 0, 1, 0, 0, .null), (1, .iload_n 1, 1, 1, 0, .null), (2, .iconst 3, 1, 0, 0, .int 3), (3, .iload_n 2, 1, 2, 0, .null), (4, .imul, 1, 0, 0, .null), (5, .iconst 1, 1, 0, 0, .int 1), (6, .iadd, 1, 0, 0, .null), (7, .invokevirtual 150, 3, 0, 3, .ref 10), (10, .ifCond .ge 5, 3, 15, 0, .null), (13, .iconst 1, 1, 0, 0, .int 1), (14, .ireturn, 1, 0, 0, .null), (15, .aload_n 0, 1, 0, 0, .null)],
  [(16, .iload_n 1, 1, 1, 0, .null), (17, .iconst 3, 1, 0, 0, .int 3), (18, .iload_n 2, 1, 2, 0, .null), (19, .imul, 1, 0, 0, .null), (20, .iconst 2, 1, 0, 0, .int 2), (21, .iadd, 1, 0, 0, .null), (22, .invokevirtual 150, 3, 0, 3, .ref 10), (25, .iconst 1, 1, 0, 0, .int 1), (26, .if_icmp .lt 41, 3, 67, 0, .null), (29, .aload_n 0, 1, 0, 0, .null), (30, .iload_n 1, 1, 1, 0, .null), (31, .iconst 3, 1, 0, 0, .int 3)],
  [(32, .iload_n 2, 1, 2, 0, .null), (33, .imul, 1, 0, 0, .null), (34, .iconst 3, 1, 0, 0, .int 3), (35, .iadd, 1, 0, 0, .null), (36, .invokevirtual 150, 3, 0, 3, .ref 10), (39, .iconst 1, 1, 0, 0, .int 1), (40, .if_icmp .lt 27, 3, 67, 0, .null), (43, .aload_n 0, 1, 0, 0, .null), (44, .iload_n 1, 1, 1, 0, .null), (45, .iconst 3, 1, 0, 0, .int 3), (46, .iload_n 2, 1, 2, 0, .null), (47, .imul, 1, 0, 0, .null)],
  [(48, .iconst 3, 1, 0, 0, .int 3), (49, .iadd, 1, 0, 0, .null), (50, .invokevirtual 150, 3, 0, 3, .ref 10), (53, .aload_n 0, 1, 0, 0, .null), (54, .iload_n 1, 1, 1, 0, .null), (55, .bipush 7, 2, 0, 0, .int 7), (57, .invokevirtual 150, 3, 0, 3, .ref 10), (60, .if_icmp .ge 7, 3, 67, 0, .null), (63, .iconst 1, 1, 0, 0, .int 1)],
  [(64, .goto 4, 3, 68, 0, .null), (67, .iconst 0, 1, 0, 0, .int 0), (68, .ireturn, 1, 0, 0, .null)]]
def fX10_reagentGood : am_F := am_meth [fX10_of] [] 2 3 100000 pX10_reagentGood
def pX10_curveGood : am_P := [[(0, .aload_n 0, 1, 0, 0, .null), (1, .getfield 23, 3, 4, 10, .null), (4, .iload_n 1, 1, 1, 0, .null), (5, .iaload, 1, 0, 0, .null), (6, .iconst 2, 1, 0, 0, .int 2), (7, .if_icmp .lt 7, 3, 14, 0, .null), (10, .iconst 1, 1, 0, 0, .int 1), (11, .goto 4, 3, 15, 0, .null), (14, .iconst 0, 1, 0, 0, .int 0), (15, .istore_n 2, 1, 2, 0, .null)],
  [(16, .aload_n 0, 1, 0, 0, .null), (17, .getfield 23, 3, 4, 10, .null), (20, .iload_n 1, 1, 1, 0, .null), (21, .iaload, 1, 0, 0, .null), (22, .iconst 2, 1, 0, 0, .int 2), (23, .if_icmp .lt 7, 3, 30, 0, .null), (26, .iconst 1, 1, 0, 0, .int 1), (27, .goto 4, 3, 31, 0, .null), (30, .iconst 0, 1, 0, 0, .int 0), (31, .istore_n 3, 1, 3, 0, .null)],
  [(32, .iconst 5, 1, 0, 0, .int 5), (33, .iload_n 1, 1, 1, 0, .null), (34, .imul, 1, 0, 0, .null), (35, .iconst 1, 1, 0, 0, .int 1), (36, .iadd, 1, 0, 0, .null), (37, .istore 4, 2, 4, 0, .null), (39, .iload 4, 2, 4, 0, .null), (41, .iconst 5, 1, 0, 0, .int 5), (42, .iload_n 1, 1, 1, 0, .null), (43, .imul, 1, 0, 0, .null), (44, .aload_n 0, 1, 0, 0, .null), (45, .getfield 23, 3, 4, 10, .null)],
  [(48, .iload_n 1, 1, 1, 0, .null), (49, .iaload, 1, 0, 0, .null), (50, .iadd, 1, 0, 0, .null), (51, .if_icmp .ge 51, 3, 102, 0, .null), (54, .aload_n 0, 1, 0, 0, .null), (55, .getfield 20, 3, 3, 10, .null), (58, .iload 4, 2, 4, 0, .null), (60, .iaload, 1, 0, 0, .null), (61, .aload_n 0, 1, 0, 0, .null), (62, .getfield 20, 3, 3, 10, .null)],
  [(65, .iload 4, 2, 4, 0, .null), (67, .iconst 1, 1, 0, 0, .int 1), (68, .isub, 1, 0, 0, .null), (69, .iaload, 1, 0, 0, .null), (70, .if_icmp .gt 5, 3, 75, 0, .null), (73, .iconst 0, 1, 0, 0, .int 0), (74, .istore_n 2, 1, 2, 0, .null), (75, .aload_n 0, 1, 0, 0, .null), (76, .getfield 20, 3, 3, 10, .null), (79, .iload 4, 2, 4, 0, .null)],
  [(81, .iaload, 1, 0, 0, .null), (82, .aload_n 0, 1, 0, 0, .null), (83, .getfield 20, 3, 3, 10, .null), (86, .iload 4, 2, 4, 0, .null), (88, .iconst 1, 1, 0, 0, .int 1), (89, .isub, 1, 0, 0, .null), (90, .iaload, 1, 0, 0, .null), (91, .if_icmp .lt 5, 3, 96, 0, .null), (94, .iconst 0, 1, 0, 0, .int 0), (95, .istore_n 3, 1, 3, 0, .null)],
  [(96, .iinc 4 1, 3, 4, 0, .int 1), (99, .goto (-60), 3, 39, 0, .null), (102, .iload_n 2, 1, 2, 0, .null), (103, .ifCond .ne 7, 3, 110, 0, .null), (106, .iload_n 3, 1, 3, 0, .null), (107, .ifCond .eq 7, 3, 114, 0, .null), (110, .iconst 1, 1, 0, 0, .int 1), (111, .goto 4, 3, 115, 0, .null)],
  [(114, .iconst 0, 1, 0, 0, .int 0), (115, .ireturn, 1, 0, 0, .null)]]
def fX10_curveGood : am_F := am_meth [] [] 2 5 100000 pX10_curveGood
def pX10_seal : am_P := [[(0, .aload_n 0, 1, 0, 0, .null), (1, .iload_n 1, 1, 1, 0, .null), (2, .invokestatic 138, 3, 0, 1, .null), (5, .ifCond .eq 7, 3, 12, 0, .null), (8, .iconst 0, 1, 0, 0, .int 0), (9, .goto 4, 3, 13, 0, .null), (12, .iconst 1, 1, 0, 0, .int 1), (13, .putfield 127, 3, 45, 10, .null)],
  [(16, .aload_n 0, 1, 0, 0, .null), (17, .getfield 127, 3, 45, 10, .null), (20, .ifCond .eq 5, 3, 25, 0, .null), (23, .iconst 0, 1, 0, 0, .int 0), (24, .ireturn, 1, 0, 0, .null), (25, .aload_n 0, 1, 0, 0, .null), (26, .iload_n 1, 1, 1, 0, .null), (27, .iconst 0, 1, 0, 0, .int 0), (28, .invokevirtual 150, 3, 1, 3, .ref 10), (31, .iconst 1, 1, 0, 0, .int 1)],
  [(32, .if_icmp .lt 33, 3, 65, 0, .null), (35, .aload_n 0, 1, 0, 0, .null), (36, .iload_n 1, 1, 1, 0, .null), (37, .iconst 0, 1, 0, 0, .int 0), (38, .invokevirtual 154, 3, 2, 3, .ref 10), (41, .ifCond .eq 24, 3, 65, 0, .null), (44, .aload_n 0, 1, 0, 0, .null), (45, .iload_n 1, 1, 1, 0, .null), (46, .iconst 1, 1, 0, 0, .int 1), (47, .invokevirtual 154, 3, 2, 3, .ref 10)],
  [(50, .ifCond .eq 15, 3, 65, 0, .null), (53, .aload_n 0, 1, 0, 0, .null), (54, .iload_n 1, 1, 1, 0, .null), (55, .invokevirtual 157, 3, 3, 2, .ref 10), (58, .ifCond .eq 7, 3, 65, 0, .null), (61, .iconst 1, 1, 0, 0, .int 1), (62, .goto 4, 3, 66, 0, .null)],
  [(65, .iconst 0, 1, 0, 0, .int 0), (66, .istore_n 2, 1, 2, 0, .null), (67, .aload_n 0, 1, 0, 0, .null), (68, .iload_n 1, 1, 1, 0, .null), (69, .iconst 4, 1, 0, 0, .int 4), (70, .invokevirtual 150, 3, 1, 3, .ref 10), (73, .ifCond .lt 30, 3, 103, 0, .null), (76, .aload_n 0, 1, 0, 0, .null), (77, .iload_n 1, 1, 1, 0, .null), (78, .iconst 1, 1, 0, 0, .int 1), (79, .invokevirtual 150, 3, 1, 3, .ref 10)],
  [(82, .ifCond .lt 19, 3, 101, 0, .null), (85, .aload_n 0, 1, 0, 0, .null), (86, .iload_n 1, 1, 1, 0, .null), (87, .bipush 6, 2, 0, 0, .int 6), (89, .invokevirtual 150, 3, 1, 3, .ref 10), (92, .aload_n 0, 1, 0, 0, .null), (93, .iload_n 1, 1, 1, 0, .null), (94, .iconst 3, 1, 0, 0, .int 3), (95, .invokevirtual 150, 3, 1, 3, .ref 10)],
  [(98, .if_icmp .gt 5, 3, 103, 0, .null), (101, .iconst 0, 1, 0, 0, .int 0), (102, .istore_n 2, 1, 2, 0, .null), (103, .aload_n 0, 1, 0, 0, .null), (104, .iload_n 1, 1, 1, 0, .null), (105, .bipush 8, 2, 0, 0, .int 8), (107, .invokevirtual 150, 3, 1, 3, .ref 10), (110, .aload_n 0, 1, 0, 0, .null), (111, .iload_n 1, 1, 1, 0, .null)],
  [(112, .bipush 7, 2, 0, 0, .int 7), (114, .invokevirtual 150, 3, 1, 3, .ref 10), (117, .isub, 1, 0, 0, .null), (118, .iconst 1, 1, 0, 0, .int 1), (119, .iadd, 1, 0, 0, .null), (120, .istore_n 3, 1, 3, 0, .null), (121, .aload_n 0, 1, 0, 0, .null), (122, .iload_n 1, 1, 1, 0, .null), (123, .bipush 7, 2, 0, 0, .int 7), (125, .invokevirtual 150, 3, 1, 3, .ref 10)],
  [(128, .iconst 1, 1, 0, 0, .int 1), (129, .if_icmp .lt 46, 3, 175, 0, .null), (132, .iload_n 3, 1, 3, 0, .null), (133, .iconst 1, 1, 0, 0, .int 1), (134, .if_icmp .lt 41, 3, 175, 0, .null), (137, .iload_n 3, 1, 3, 0, .null), (138, .bipush 6, 2, 0, 0, .int 6), (140, .if_icmp .gt 35, 3, 175, 0, .null), (143, .aload_n 0, 1, 0, 0, .null)],
  [(144, .iload_n 1, 1, 1, 0, .null), (145, .bipush 9, 2, 0, 0, .int 9), (147, .invokevirtual 150, 3, 1, 3, .ref 10), (150, .ifCond .le 8, 3, 158, 0, .null), (153, .iload_n 3, 1, 3, 0, .null), (154, .iconst 2, 1, 0, 0, .int 2), (155, .if_icmp .lt 20, 3, 175, 0, .null), (158, .aload_n 0, 1, 0, 0, .null), (159, .iload_n 1, 1, 1, 0, .null)],
  [(160, .bipush 10, 2, 0, 0, .int 10), (162, .invokevirtual 150, 3, 1, 3, .ref 10), (165, .aload_n 0, 1, 0, 0, .null), (166, .iload_n 1, 1, 1, 0, .null), (167, .bipush 11, 2, 0, 0, .int 11), (169, .invokevirtual 150, 3, 1, 3, .ref 10), (172, .if_icmp .le 5, 3, 177, 0, .null), (175, .iconst 0, 1, 0, 0, .int 0)],
  [(176, .istore_n 2, 1, 2, 0, .null), (177, .aload_n 0, 1, 0, 0, .null), (178, .iload_n 1, 1, 1, 0, .null), (179, .bipush 12, 2, 0, 0, .int 12), (181, .invokevirtual 150, 3, 1, 3, .ref 10), (184, .iconst 2, 1, 0, 0, .int 2), (185, .if_icmp .ne 22, 3, 207, 0, .null), (188, .aload_n 0, 1, 0, 0, .null), (189, .iload_n 1, 1, 1, 0, .null), (190, .iconst 0, 1, 0, 0, .int 0), (191, .invokevirtual 150, 3, 1, 3, .ref 10)],
  [(194, .aload_n 0, 1, 0, 0, .null), (195, .iload_n 1, 1, 1, 0, .null), (196, .bipush 13, 2, 0, 0, .int 13), (198, .invokevirtual 150, 3, 1, 3, .ref 10), (201, .irem, 1, 0, 0, .null), (202, .ifCond .eq 5, 3, 207, 0, .null), (205, .iconst 0, 1, 0, 0, .int 0), (206, .istore_n 2, 1, 2, 0, .null), (207, .aload_n 0, 1, 0, 0, .null)],
  [(208, .getfield 13, 3, 1, 10, .null), (211, .iload_n 1, 1, 1, 0, .null), (212, .iload_n 2, 1, 2, 0, .null), (213, .bastore, 1, 0, 0, .null), (214, .iload_n 2, 1, 2, 0, .null), (215, .ireturn, 1, 0, 0, .null)]]
def fX10_seal : am_F := am_meth [fX10_isTest, fX10_of, fX10_reagentGood, fX10_curveGood] [] 2 4 100000 pX10_seal
def pX10_slotOf : am_P := [[(0, .iconst 0, 1, 0, 0, .int 0), (1, .istore_n 2, 1, 2, 0, .null), (2, .iload_n 2, 1, 2, 0, .null), (3, .bipush 6, 2, 0, 0, .int 6), (5, .if_icmp .ge 21, 3, 26, 0, .null), (8, .aload_n 0, 1, 0, 0, .null), (9, .getfield 32, 3, 7, 10, .null), (12, .iload_n 2, 1, 2, 0, .null), (13, .iaload, 1, 0, 0, .null), (14, .iload_n 1, 1, 1, 0, .null), (15, .if_icmp .ne 5, 3, 20, 0, .null)],
  [(18, .iload_n 2, 1, 2, 0, .null), (19, .ireturn, 1, 0, 0, .null), (20, .iinc 2 1, 3, 2, 0, .int 1), (23, .goto (-21), 3, 2, 0, .null), (26, .iconst (-1), 1, 0, 0, .int (-1)), (27, .ireturn, 1, 0, 0, .null)]]
def fX10_slotOf : am_F := am_meth [] [] 1 3 100000 pX10_slotOf
def pX10_rack : am_P := [[(0, .iload_n 1, 1, 1, 0, .null), (1, .iconst 0, 1, 0, 0, .int 0), (2, .iconst 5, 1, 0, 0, .int 5), (3, .invokestatic 130, 3, 0, 3, .null), (6, .ifCond .eq 37, 3, 43, 0, .null), (9, .iload_n 2, 1, 2, 0, .null), (10, .iconst 1, 1, 0, 0, .int 1), (11, .ldc 160, 2, 0, 0, .int 999999), (13, .invokestatic 130, 3, 0, 3, .null)],
  [(16, .ifCond .eq 27, 3, 43, 0, .null), (19, .iload_n 3, 1, 3, 0, .null), (20, .iconst 0, 1, 0, 0, .int 0), (21, .iconst 1, 1, 0, 0, .int 1), (22, .invokestatic 130, 3, 0, 3, .null), (25, .ifCond .eq 18, 3, 43, 0, .null), (28, .iload 4, 2, 4, 0, .null), (30, .iconst 0, 1, 0, 0, .int 0), (31, .ldc 161, 2, 0, 0, .int 100000)],
  [(33, .invokestatic 130, 3, 0, 3, .null), (36, .ifCond .eq 7, 3, 43, 0, .null), (39, .iconst 1, 1, 0, 0, .int 1), (40, .goto 4, 3, 44, 0, .null), (43, .iconst 0, 1, 0, 0, .int 0), (44, .istore 5, 2, 5, 0, .null), (46, .aload_n 0, 1, 0, 0, .null), (47, .iload 5, 2, 5, 0, .null)],
  [(49, .ifCond .ne 7, 3, 56, 0, .null), (52, .iconst 1, 1, 0, 0, .int 1), (53, .goto 25, 3, 78, 0, .null), (56, .aload_n 0, 1, 0, 0, .null), (57, .getfield 32, 3, 7, 10, .null), (60, .iload_n 1, 1, 1, 0, .null), (61, .iaload, 1, 0, 0, .null), (62, .ifCond .ne 11, 3, 73, 0, .null)],
  [(65, .aload_n 0, 1, 0, 0, .null), (66, .iload_n 2, 1, 2, 0, .null), (67, .invokevirtual 162, 3, 1, 2, .ref 10), (70, .ifCond .lt 7, 3, 77, 0, .null), (73, .iconst 2, 1, 0, 0, .int 2), (74, .goto 4, 3, 78, 0, .null), (77, .iconst 0, 1, 0, 0, .int 0), (78, .putfield 127, 3, 45, 10, .null)],
  [(81, .aload_n 0, 1, 0, 0, .null), (82, .getfield 127, 3, 45, 10, .null), (85, .ifCond .eq 4, 3, 89, 0, .null), (88, .return_, 1, 0, 0, .null), (89, .aload_n 0, 1, 0, 0, .null), (90, .getfield 32, 3, 7, 10, .null), (93, .iload_n 1, 1, 1, 0, .null), (94, .iload_n 2, 1, 2, 0, .null), (95, .iastore, 1, 0, 0, .null)],
  [(96, .aload_n 0, 1, 0, 0, .null), (97, .getfield 35, 3, 8, 10, .null), (100, .iload_n 1, 1, 1, 0, .null), (101, .iload_n 3, 1, 3, 0, .null), (102, .iastore, 1, 0, 0, .null), (103, .aload_n 0, 1, 0, 0, .null), (104, .getfield 38, 3, 9, 10, .null), (107, .iload_n 1, 1, 1, 0, .null), (108, .iload 4, 2, 4, 0, .null), (110, .iastore, 1, 0, 0, .null), (111, .return_, 1, 0, 0, .null)]]
def fX10_rack : am_F := am_meth [fX10_within, fX10_slotOf] [] 0 6 100000 pX10_rack
def pX10_removeRack : am_P := [[(0, .aload_n 0, 1, 0, 0, .null), (1, .iload_n 1, 1, 1, 0, .null), (2, .iconst 0, 1, 0, 0, .int 0), (3, .iconst 5, 1, 0, 0, .int 5), (4, .invokestatic 130, 3, 0, 3, .null), (7, .ifCond .ne 7, 3, 14, 0, .null), (10, .iconst 1, 1, 0, 0, .int 1), (11, .goto 17, 3, 28, 0, .null), (14, .aload_n 0, 1, 0, 0, .null), (15, .getfield 32, 3, 7, 10, .null)],
  [(18, .iload_n 1, 1, 1, 0, .null), (19, .iaload, 1, 0, 0, .null), (20, .ifCond .ne 7, 3, 27, 0, .null), (23, .iconst 2, 1, 0, 0, .int 2), (24, .goto 4, 3, 28, 0, .null), (27, .iconst 0, 1, 0, 0, .int 0), (28, .putfield 127, 3, 45, 10, .null), (31, .iconst 0, 1, 0, 0, .int 0)],
  [(32, .istore_n 2, 1, 2, 0, .null), (33, .iload_n 2, 1, 2, 0, .null), (34, .aload_n 0, 1, 0, 0, .null), (35, .getfield 134, 3, 14, 10, .null), (38, .if_icmp .ge 46, 3, 84, 0, .null), (41, .aload_n 0, 1, 0, 0, .null), (42, .getfield 127, 3, 45, 10, .null), (45, .ifCond .ne 39, 3, 84, 0, .null)],
  [(48, .aload_n 0, 1, 0, 0, .null), (49, .getfield 53, 3, 15, 10, .null), (52, .iload_n 2, 1, 2, 0, .null), (53, .iaload, 1, 0, 0, .null), (54, .aload_n 0, 1, 0, 0, .null), (55, .getfield 32, 3, 7, 10, .null), (58, .iload_n 1, 1, 1, 0, .null), (59, .iaload, 1, 0, 0, .null), (60, .if_icmp .ne 18, 3, 78, 0, .null), (63, .aload_n 0, 1, 0, 0, .null)],
  [(64, .getfield 62, 3, 18, 10, .null), (67, .iload_n 2, 1, 2, 0, .null), (68, .iaload, 1, 0, 0, .null), (69, .iconst 1, 1, 0, 0, .int 1), (70, .if_icmp .gt 8, 3, 78, 0, .null), (73, .aload_n 0, 1, 0, 0, .null), (74, .iconst 3, 1, 0, 0, .int 3), (75, .putfield 127, 3, 45, 10, .null), (78, .iinc 2 1, 3, 2, 0, .int 1)],
  [(81, .goto (-48), 3, 33, 0, .null), (84, .aload_n 0, 1, 0, 0, .null), (85, .getfield 127, 3, 45, 10, .null), (88, .ifCond .eq 5, 3, 93, 0, .null), (91, .iconst 0, 1, 0, 0, .int 0), (92, .ireturn, 1, 0, 0, .null), (93, .aload_n 0, 1, 0, 0, .null), (94, .getfield 32, 3, 7, 10, .null)],
  [(97, .iload_n 1, 1, 1, 0, .null), (98, .iconst 0, 1, 0, 0, .int 0), (99, .iastore, 1, 0, 0, .null), (100, .aload_n 0, 1, 0, 0, .null), (101, .getfield 38, 3, 9, 10, .null), (104, .iload_n 1, 1, 1, 0, .null), (105, .iaload, 1, 0, 0, .null), (106, .ireturn, 1, 0, 0, .null)]]
def fX10_removeRack : am_F := am_meth [fX10_within] [] 1 3 100000 pX10_removeRack
def pX10_reserved : am_P := [[(0, .iconst 0, 1, 0, 0, .int 0), (1, .istore_n 2, 1, 2, 0, .null), (2, .iconst 0, 1, 0, 0, .int 0), (3, .istore_n 3, 1, 3, 0, .null), (4, .iload_n 3, 1, 3, 0, .null), (5, .aload_n 0, 1, 0, 0, .null), (6, .getfield 166, 3, 36, 10, .null), (9, .if_icmp .ge 28, 3, 37, 0, .null), (12, .aload_n 0, 1, 0, 0, .null), (13, .getfield 107, 3, 33, 10, .null)],
  [(16, .iload_n 3, 1, 3, 0, .null), (17, .iaload, 1, 0, 0, .null), (18, .iload_n 1, 1, 1, 0, .null), (19, .if_icmp .ne 12, 3, 31, 0, .null), (22, .iload_n 2, 1, 2, 0, .null), (23, .aload_n 0, 1, 0, 0, .null), (24, .getfield 110, 3, 34, 10, .null), (27, .iload_n 3, 1, 3, 0, .null), (28, .iaload, 1, 0, 0, .null), (29, .iadd, 1, 0, 0, .null), (30, .istore_n 2, 1, 2, 0, .null), (31, .iinc 3 1, 3, 3, 0, .int 1)],
  [(34, .goto (-30), 3, 4, 0, .null), (37, .iload_n 2, 1, 2, 0, .null), (38, .ireturn, 1, 0, 0, .null)]]
def fX10_reserved : am_F := am_meth [] [] 1 4 100000 pX10_reserved
def pX10_reagent : am_P := [[(0, .iload_n 1, 1, 1, 0, .null), (1, .iconst 0, 1, 0, 0, .int 0), (2, .bipush 7, 2, 0, 0, .int 7), (4, .invokestatic 130, 3, 0, 3, .null), (7, .ifCond .eq 31, 3, 38, 0, .null), (10, .iload_n 2, 1, 2, 0, .null), (11, .iconst 0, 1, 0, 0, .int 0), (12, .iconst 5, 1, 0, 0, .int 5), (13, .invokestatic 130, 3, 0, 3, .null)],
  [(16, .ifCond .eq 22, 3, 38, 0, .null), (19, .iload_n 3, 1, 3, 0, .null), (20, .iconst 0, 1, 0, 0, .int 0), (21, .ldc 161, 2, 0, 0, .int 100000), (23, .invokestatic 130, 3, 0, 3, .null), (26, .ifCond .eq 12, 3, 38, 0, .null), (29, .iload 4, 2, 4, 0, .null), (31, .ifCond .lt 7, 3, 38, 0, .null)],
  [(34, .iconst 1, 1, 0, 0, .int 1), (35, .goto 4, 3, 39, 0, .null), (38, .iconst 0, 1, 0, 0, .int 0), (39, .istore 5, 2, 5, 0, .null), (41, .aload_n 0, 1, 0, 0, .null), (42, .iload 5, 2, 5, 0, .null), (44, .ifCond .ne 7, 3, 51, 0, .null), (47, .iconst 1, 1, 0, 0, .int 1)],
  [(48, .goto 16, 3, 64, 0, .null), (51, .aload_n 0, 1, 0, 0, .null), (52, .iload_n 1, 1, 1, 0, .null), (53, .invokevirtual 169, 3, 1, 2, .ref 10), (56, .ifCond .le 7, 3, 63, 0, .null), (59, .iconst 2, 1, 0, 0, .int 2), (60, .goto 4, 3, 64, 0, .null), (63, .iconst 0, 1, 0, 0, .int 0)],
  [(64, .putfield 127, 3, 45, 10, .null), (67, .aload_n 0, 1, 0, 0, .null), (68, .getfield 127, 3, 45, 10, .null), (71, .ifCond .eq 4, 3, 75, 0, .null), (74, .return_, 1, 0, 0, .null), (75, .aload_n 0, 1, 0, 0, .null), (76, .getfield 41, 3, 10, 10, .null), (79, .iload_n 1, 1, 1, 0, .null)],
  [(80, .iload_n 2, 1, 2, 0, .null), (81, .iastore, 1, 0, 0, .null), (82, .aload_n 0, 1, 0, 0, .null), (83, .getfield 44, 3, 11, 10, .null), (86, .iload_n 1, 1, 1, 0, .null), (87, .iload_n 3, 1, 3, 0, .null), (88, .iastore, 1, 0, 0, .null), (89, .aload_n 0, 1, 0, 0, .null), (90, .getfield 47, 3, 12, 10, .null), (93, .iload_n 1, 1, 1, 0, .null), (94, .iload 4, 2, 4, 0, .null)],
  [(96, .iastore, 1, 0, 0, .null), (97, .return_, 1, 0, 0, .null)]]
def fX10_reagent : am_F := am_meth [fX10_within, fX10_reserved] [] 0 6 100000 pX10_reagent
def pX10_forbid : am_P := [[(0, .aload_n 0, 1, 0, 0, .null), (1, .iload_n 1, 1, 1, 0, .null), (2, .iconst 0, 1, 0, 0, .int 0), (3, .iconst 5, 1, 0, 0, .int 5), (4, .invokestatic 130, 3, 0, 3, .null), (7, .ifCond .eq 16, 3, 23, 0, .null), (10, .iload_n 2, 1, 2, 0, .null), (11, .iconst 0, 1, 0, 0, .int 0), (12, .iconst 5, 1, 0, 0, .int 5), (13, .invokestatic 130, 3, 0, 3, .null)],
  [(16, .ifCond .eq 7, 3, 23, 0, .null), (19, .iconst 0, 1, 0, 0, .int 0), (20, .goto 4, 3, 24, 0, .null), (23, .iconst 1, 1, 0, 0, .int 1), (24, .putfield 127, 3, 45, 10, .null), (27, .aload_n 0, 1, 0, 0, .null), (28, .getfield 127, 3, 45, 10, .null), (31, .ifCond .eq 5, 3, 36, 0, .null)],
  [(34, .iconst 0, 1, 0, 0, .int 0), (35, .ireturn, 1, 0, 0, .null), (36, .aload_n 0, 1, 0, 0, .null), (37, .getfield 50, 3, 13, 10, .null), (40, .bipush 6, 2, 0, 0, .int 6), (42, .iload_n 1, 1, 1, 0, .null), (43, .imul, 1, 0, 0, .null), (44, .iload_n 2, 1, 2, 0, .null), (45, .iadd, 1, 0, 0, .null), (46, .aload_n 0, 1, 0, 0, .null), (47, .getfield 50, 3, 13, 10, .null)],
  [(50, .bipush 6, 2, 0, 0, .int 6), (52, .iload_n 1, 1, 1, 0, .null), (53, .imul, 1, 0, 0, .null), (54, .iload_n 2, 1, 2, 0, .null), (55, .iadd, 1, 0, 0, .null), (56, .baload, 1, 0, 0, .null), (57, .ifCond .ne 7, 3, 64, 0, .null), (60, .iconst 1, 1, 0, 0, .int 1), (61, .goto 4, 3, 65, 0, .null)],
  [(64, .iconst 0, 1, 0, 0, .int 0), (65, .bastore, 1, 0, 0, .null), (66, .aload_n 0, 1, 0, 0, .null), (67, .getfield 50, 3, 13, 10, .null), (70, .bipush 6, 2, 0, 0, .int 6), (72, .iload_n 1, 1, 1, 0, .null), (73, .imul, 1, 0, 0, .null), (74, .iload_n 2, 1, 2, 0, .null), (75, .iadd, 1, 0, 0, .null), (76, .baload, 1, 0, 0, .null), (77, .ireturn, 1, 0, 0, .null)]]
def fX10_forbid : am_F := am_meth [fX10_within] [] 2 3 100000 pX10_forbid
def pX10_order : am_P := [[(0, .aload_n 0, 1, 0, 0, .null), (1, .iload_n 1, 1, 1, 0, .null), (2, .iconst 1, 1, 0, 0, .int 1), (3, .ldc 160, 2, 0, 0, .int 999999), (5, .invokestatic 130, 3, 0, 3, .null), (8, .ifCond .eq 10, 3, 18, 0, .null), (11, .iload_n 2, 1, 2, 0, .null), (12, .invokestatic 138, 3, 1, 1, .null), (15, .ifCond .ne 7, 3, 22, 0, .null)],
  [(18, .iconst 1, 1, 0, 0, .int 1), (19, .goto 26, 3, 45, 0, .null), (22, .aload_n 0, 1, 0, 0, .null), (23, .getfield 13, 3, 1, 10, .null), (26, .iload_n 2, 1, 2, 0, .null), (27, .baload, 1, 0, 0, .null), (28, .ifCond .eq 12, 3, 40, 0, .null), (31, .aload_n 0, 1, 0, 0, .null)],
  [(32, .getfield 134, 3, 14, 10, .null), (35, .bipush 40, 2, 0, 0, .int 40), (37, .if_icmp .ne 7, 3, 44, 0, .null), (40, .iconst 2, 1, 0, 0, .int 2), (41, .goto 4, 3, 45, 0, .null), (44, .iconst 0, 1, 0, 0, .int 0), (45, .putfield 127, 3, 45, 10, .null)],
  [(48, .aload_n 0, 1, 0, 0, .null), (49, .getfield 127, 3, 45, 10, .null), (52, .ifCond .eq 5, 3, 57, 0, .null), (55, .iconst 0, 1, 0, 0, .int 0), (56, .ireturn, 1, 0, 0, .null), (57, .aload_n 0, 1, 0, 0, .null), (58, .getfield 53, 3, 15, 10, .null), (61, .aload_n 0, 1, 0, 0, .null), (62, .getfield 134, 3, 14, 10, .null)],
  [(65, .iload_n 1, 1, 1, 0, .null), (66, .iastore, 1, 0, 0, .null), (67, .aload_n 0, 1, 0, 0, .null), (68, .getfield 56, 3, 16, 10, .null), (71, .aload_n 0, 1, 0, 0, .null), (72, .getfield 134, 3, 14, 10, .null), (75, .iload_n 2, 1, 2, 0, .null), (76, .iastore, 1, 0, 0, .null), (77, .aload_n 0, 1, 0, 0, .null), (78, .getfield 59, 3, 17, 10, .null)],
  [(81, .aload_n 0, 1, 0, 0, .null), (82, .getfield 134, 3, 14, 10, .null), (85, .iload_n 3, 1, 3, 0, .null), (86, .bastore, 1, 0, 0, .null), (87, .aload_n 0, 1, 0, 0, .null), (88, .getfield 71, 3, 21, 10, .null), (91, .aload_n 0, 1, 0, 0, .null), (92, .getfield 134, 3, 14, 10, .null), (95, .iconst (-1), 1, 0, 0, .int (-1))],
  [(96, .iastore, 1, 0, 0, .null), (97, .aload_n 0, 1, 0, 0, .null), (98, .dup, 1, 0, 0, .null), (99, .getfield 134, 3, 14, 10, .null), (102, .iconst 1, 1, 0, 0, .int 1), (103, .iadd, 1, 0, 0, .null), (104, .putfield 134, 3, 14, 10, .null), (107, .aload_n 0, 1, 0, 0, .null), (108, .getfield 134, 3, 14, 10, .null), (111, .iconst 1, 1, 0, 0, .int 1)],
  [(112, .isub, 1, 0, 0, .null), (113, .ireturn, 1, 0, 0, .null)]]
def fX10_order : am_F := am_meth [fX10_within, fX10_isTest] [] 1 4 100000 pX10_order
def pX10_clock : am_P := [[(0, .aload_n 0, 1, 0, 0, .null), (1, .iload_n 1, 1, 1, 0, .null), (2, .aload_n 0, 1, 0, 0, .null), (3, .getfield 172, 3, 41, 10, .null), (6, .if_icmp .ge 7, 3, 13, 0, .null), (9, .iconst 1, 1, 0, 0, .int 1), (10, .goto 4, 3, 14, 0, .null), (13, .iconst 0, 1, 0, 0, .int 0), (14, .putfield 127, 3, 45, 10, .null)],
  [(17, .aload_n 0, 1, 0, 0, .null), (18, .getfield 127, 3, 45, 10, .null), (21, .ifCond .ne 8, 3, 29, 0, .null), (24, .aload_n 0, 1, 0, 0, .null), (25, .iload_n 1, 1, 1, 0, .null), (26, .putfield 172, 3, 41, 10, .null), (29, .return_, 1, 0, 0, .null)]]
def fX10_clock : am_F := am_meth [] [] 0 2 100000 pX10_clock
def pX10_light : am_P := [[(0, .aload_n 0, 1, 0, 0, .null), (1, .iload_n 1, 1, 1, 0, .null), (2, .iconst 1, 1, 0, 0, .int 1), (3, .ldc 123, 2, 0, 0, .int 65535), (5, .invokestatic 130, 3, 0, 3, .null), (8, .ifCond .eq 7, 3, 15, 0, .null), (11, .iconst 0, 1, 0, 0, .int 0), (12, .goto 4, 3, 16, 0, .null), (15, .iconst 1, 1, 0, 0, .int 1)],
  [(16, .putfield 127, 3, 45, 10, .null), (19, .aload_n 0, 1, 0, 0, .null), (20, .getfield 127, 3, 45, 10, .null), (23, .ifCond .ne 8, 3, 31, 0, .null), (26, .aload_n 0, 1, 0, 0, .null), (27, .iload_n 1, 1, 1, 0, .null), (28, .putfield 124, 3, 44, 10, .null), (31, .return_, 1, 0, 0, .null)]]
def fX10_light : am_F := am_meth [fX10_within] [] 0 2 100000 pX10_light
def pX10_spoil : am_P := [[(0, .aload_n 0, 1, 0, 0, .null), (1, .iload_n 1, 1, 1, 0, .null), (2, .iconst 0, 1, 0, 0, .int 0), (3, .iconst 1, 1, 0, 0, .int 1), (4, .invokestatic 130, 3, 0, 3, .null), (7, .ifCond .eq 7, 3, 14, 0, .null), (10, .iconst 0, 1, 0, 0, .int 0), (11, .goto 4, 3, 15, 0, .null), (14, .iconst 1, 1, 0, 0, .int 1), (15, .putfield 127, 3, 45, 10, .null)],
  [(18, .iload_n 1, 1, 1, 0, .null), (19, .ifCond .ne 8, 3, 27, 0, .null), (22, .aload_n 0, 1, 0, 0, .null), (23, .iconst 1, 1, 0, 0, .int 1), (24, .putfield 175, 3, 46, 10, .null), (27, .iload_n 1, 1, 1, 0, .null), (28, .iconst 1, 1, 0, 0, .int 1), (29, .if_icmp .ne 8, 3, 37, 0, .null)],
  [(32, .aload_n 0, 1, 0, 0, .null), (33, .iconst 1, 1, 0, 0, .int 1), (34, .putfield 179, 3, 47, 10, .null), (37, .return_, 1, 0, 0, .null)]]
def fX10_spoil : am_F := am_meth [fX10_within] [] 0 2 100000 pX10_spoil
def pX10_copyBook : am_P := [[(0, .aload_n 0, 1, 0, 0, .null), (1, .getfield 101, 3, 31, 10, .null), (4, .iload_n 2, 1, 2, 0, .null), (5, .aload_n 0, 1, 0, 0, .null), (6, .getfield 101, 3, 31, 10, .null), (9, .iload_n 1, 1, 1, 0, .null), (10, .iaload, 1, 0, 0, .null), (11, .iastore, 1, 0, 0, .null), (12, .aload_n 0, 1, 0, 0, .null), (13, .getfield 104, 3, 32, 10, .null)],
  [(16, .iload_n 2, 1, 2, 0, .null), (17, .aload_n 0, 1, 0, 0, .null), (18, .getfield 104, 3, 32, 10, .null), (21, .iload_n 1, 1, 1, 0, .null), (22, .iaload, 1, 0, 0, .null), (23, .iastore, 1, 0, 0, .null), (24, .aload_n 0, 1, 0, 0, .null), (25, .getfield 107, 3, 33, 10, .null), (28, .iload_n 2, 1, 2, 0, .null), (29, .aload_n 0, 1, 0, 0, .null), (30, .getfield 107, 3, 33, 10, .null)],
  [(33, .iload_n 1, 1, 1, 0, .null), (34, .iaload, 1, 0, 0, .null), (35, .iastore, 1, 0, 0, .null), (36, .aload_n 0, 1, 0, 0, .null), (37, .getfield 110, 3, 34, 10, .null), (40, .iload_n 2, 1, 2, 0, .null), (41, .aload_n 0, 1, 0, 0, .null), (42, .getfield 110, 3, 34, 10, .null), (45, .iload_n 1, 1, 1, 0, .null), (46, .iaload, 1, 0, 0, .null), (47, .iastore, 1, 0, 0, .null)],
  [(48, .aload_n 0, 1, 0, 0, .null), (49, .getfield 113, 3, 35, 10, .null), (52, .iload_n 2, 1, 2, 0, .null), (53, .aload_n 0, 1, 0, 0, .null), (54, .getfield 113, 3, 35, 10, .null), (57, .iload_n 1, 1, 1, 0, .null), (58, .iaload, 1, 0, 0, .null), (59, .iastore, 1, 0, 0, .null), (60, .return_, 1, 0, 0, .null)]]
def fX10_copyBook : am_F := am_meth [] [] 0 3 100000 pX10_copyBook
def pX10_cancel : am_P := [[(0, .iconst 0, 1, 0, 0, .int 0), (1, .istore_n 2, 1, 2, 0, .null), (2, .iconst 0, 1, 0, 0, .int 0), (3, .istore_n 3, 1, 3, 0, .null), (4, .iload_n 3, 1, 3, 0, .null), (5, .aload_n 0, 1, 0, 0, .null), (6, .getfield 166, 3, 36, 10, .null), (9, .if_icmp .ge 28, 3, 37, 0, .null), (12, .aload_n 0, 1, 0, 0, .null), (13, .getfield 113, 3, 35, 10, .null)],
  [(16, .iload_n 3, 1, 3, 0, .null), (17, .iaload, 1, 0, 0, .null), (18, .iload_n 1, 1, 1, 0, .null), (19, .if_icmp .eq 12, 3, 31, 0, .null), (22, .aload_n 0, 1, 0, 0, .null), (23, .iload_n 3, 1, 3, 0, .null), (24, .iload_n 2, 1, 2, 0, .null), (25, .invokevirtual 182, 3, 0, 3, .ref 10), (28, .iinc 2 1, 3, 2, 0, .int 1), (31, .iinc 3 1, 3, 3, 0, .int 1)],
  [(34, .goto (-30), 3, 4, 0, .null), (37, .aload_n 0, 1, 0, 0, .null), (38, .iload_n 2, 1, 2, 0, .null), (39, .putfield 166, 3, 36, 10, .null), (42, .return_, 1, 0, 0, .null)]]
def fX10_cancel : am_F := am_meth [fX10_copyBook] [] 0 4 100000 pX10_cancel
def pX10_nextUse : am_P := [[(0, .iconst (-1), 1, 0, 0, .int (-1)), (1, .istore_n 2, 1, 2, 0, .null), (2, .iconst 0, 1, 0, 0, .int 0), (3, .istore_n 3, 1, 3, 0, .null), (4, .iload_n 3, 1, 3, 0, .null), (5, .aload_n 0, 1, 0, 0, .null), (6, .getfield 166, 3, 36, 10, .null), (9, .if_icmp .ge 40, 3, 49, 0, .null), (12, .aload_n 0, 1, 0, 0, .null), (13, .getfield 101, 3, 31, 10, .null)],
  [(16, .iload_n 3, 1, 3, 0, .null), (17, .iaload, 1, 0, 0, .null), (18, .iload_n 1, 1, 1, 0, .null), (19, .if_icmp .le 24, 3, 43, 0, .null), (22, .iload_n 2, 1, 2, 0, .null), (23, .ifCond .lt 18, 3, 41, 0, .null), (26, .aload_n 0, 1, 0, 0, .null), (27, .getfield 101, 3, 31, 10, .null), (30, .iload_n 3, 1, 3, 0, .null), (31, .iaload, 1, 0, 0, .null)],
  [(32, .aload_n 0, 1, 0, 0, .null), (33, .getfield 101, 3, 31, 10, .null), (36, .iload_n 2, 1, 2, 0, .null), (37, .iaload, 1, 0, 0, .null), (38, .if_icmp .ge 5, 3, 43, 0, .null), (41, .iload_n 3, 1, 3, 0, .null), (42, .istore_n 2, 1, 2, 0, .null), (43, .iinc 3 1, 3, 3, 0, .int 1), (46, .goto (-42), 3, 4, 0, .null)],
  [(49, .iload_n 2, 1, 2, 0, .null), (50, .ireturn, 1, 0, 0, .null)]]
def fX10_nextUse : am_F := am_meth [] [] 1 4 100000 pX10_nextUse
def pX10_follows : am_P := [[(0, .aload_n 0, 1, 0, 0, .null), (1, .iload_n 2, 1, 2, 0, .null), (2, .invokevirtual 186, 3, 0, 2, .ref 10), (5, .istore_n 3, 1, 3, 0, .null), (6, .iload_n 3, 1, 3, 0, .null), (7, .ifCond .lt 34, 3, 41, 0, .null), (10, .aload_n 0, 1, 0, 0, .null), (11, .getfield 50, 3, 13, 10, .null), (14, .bipush 6, 2, 0, 0, .int 6)],
  [(16, .iload_n 1, 1, 1, 0, .null), (17, .imul, 1, 0, 0, .null), (18, .aload_n 0, 1, 0, 0, .null), (19, .getfield 104, 3, 32, 10, .null), (22, .iload_n 3, 1, 3, 0, .null), (23, .iaload, 1, 0, 0, .null), (24, .iadd, 1, 0, 0, .null), (25, .baload, 1, 0, 0, .null), (26, .ifCond .eq 15, 3, 41, 0, .null), (29, .aload_n 0, 1, 0, 0, .null), (30, .getfield 101, 3, 31, 10, .null)],
  [(33, .iload_n 3, 1, 3, 0, .null), (34, .iaload, 1, 0, 0, .null), (35, .iload_n 2, 1, 2, 0, .null), (36, .isub, 1, 0, 0, .null), (37, .iconst 2, 1, 0, 0, .int 2), (38, .if_icmp .lt 7, 3, 45, 0, .null), (41, .iconst 1, 1, 0, 0, .int 1), (42, .goto 4, 3, 46, 0, .null), (45, .iconst 0, 1, 0, 0, .int 0), (46, .ireturn, 1, 0, 0, .null)]]
def fX10_follows : am_F := am_meth [fX10_nextUse] [] 2 4 100000 pX10_follows
def pX10_allowed : am_P := [[(0, .aload_n 0, 1, 0, 0, .null), (1, .getfield 116, 3, 38, 10, .null), (4, .ifCond .lt 20, 3, 24, 0, .null), (7, .aload_n 0, 1, 0, 0, .null), (8, .aload_n 0, 1, 0, 0, .null), (9, .getfield 116, 3, 38, 10, .null), (12, .aload_n 0, 1, 0, 0, .null), (13, .getfield 189, 3, 37, 10, .null)],
  [(16, .invokevirtual 192, 3, 0, 3, .ref 10), (19, .ifCond .ne 5, 3, 24, 0, .null), (22, .iconst 0, 1, 0, 0, .int 0), (23, .ireturn, 1, 0, 0, .null), (24, .iconst 0, 1, 0, 0, .int 0), (25, .istore_n 1, 1, 1, 0, .null), (26, .iload_n 1, 1, 1, 0, .null), (27, .aload_n 0, 1, 0, 0, .null), (28, .getfield 166, 3, 36, 10, .null), (31, .if_icmp .ge 60, 3, 91, 0, .null)],
  [(34, .iconst 0, 1, 0, 0, .int 0), (35, .istore_n 2, 1, 2, 0, .null), (36, .iload_n 2, 1, 2, 0, .null), (37, .iload_n 1, 1, 1, 0, .null), (38, .if_icmp .ge 26, 3, 64, 0, .null), (41, .aload_n 0, 1, 0, 0, .null), (42, .getfield 101, 3, 31, 10, .null), (45, .iload_n 1, 1, 1, 0, .null), (46, .iaload, 1, 0, 0, .null), (47, .aload_n 0, 1, 0, 0, .null)],
  [(48, .getfield 101, 3, 31, 10, .null), (51, .iload_n 2, 1, 2, 0, .null), (52, .iaload, 1, 0, 0, .null), (53, .if_icmp .ne 5, 3, 58, 0, .null), (56, .iconst 0, 1, 0, 0, .int 0), (57, .ireturn, 1, 0, 0, .null), (58, .iinc 2 1, 3, 2, 0, .int 1), (61, .goto (-25), 3, 36, 0, .null)],
  [(64, .aload_n 0, 1, 0, 0, .null), (65, .aload_n 0, 1, 0, 0, .null), (66, .getfield 104, 3, 32, 10, .null), (69, .iload_n 1, 1, 1, 0, .null), (70, .iaload, 1, 0, 0, .null), (71, .aload_n 0, 1, 0, 0, .null), (72, .getfield 101, 3, 31, 10, .null), (75, .iload_n 1, 1, 1, 0, .null), (76, .iaload, 1, 0, 0, .null), (77, .invokevirtual 192, 3, 0, 3, .ref 10)],
  [(80, .ifCond .ne 5, 3, 85, 0, .null), (83, .iconst 0, 1, 0, 0, .int 0), (84, .ireturn, 1, 0, 0, .null), (85, .iinc 1 1, 3, 1, 0, .int 1), (88, .goto (-62), 3, 26, 0, .null), (91, .iconst 1, 1, 0, 0, .int 1), (92, .ireturn, 1, 0, 0, .null)]]
def fX10_allowed : am_F := am_meth [fX10_follows] [] 2 3 100000 pX10_allowed
def pX10_placeFor : am_P := [[(0, .iconst (-1), 1, 0, 0, .int (-1)), (1, .istore_n 3, 1, 3, 0, .null), (2, .iconst 0, 1, 0, 0, .int 0), (3, .istore 4, 2, 4, 0, .null), (5, .iload 4, 2, 4, 0, .null), (7, .bipush 8, 2, 0, 0, .int 8), (9, .if_icmp .ge 87, 3, 96, 0, .null), (12, .aload_n 0, 1, 0, 0, .null), (13, .getfield 41, 3, 10, 10, .null)],
  [(16, .iload 4, 2, 4, 0, .null), (18, .iaload, 1, 0, 0, .null), (19, .iload_n 1, 1, 1, 0, .null), (20, .if_icmp .ne 39, 3, 59, 0, .null), (23, .aload_n 0, 1, 0, 0, .null), (24, .getfield 172, 3, 41, 10, .null), (27, .aload_n 0, 1, 0, 0, .null), (28, .getfield 47, 3, 12, 10, .null), (31, .iload 4, 2, 4, 0, .null)],
  [(33, .iaload, 1, 0, 0, .null), (34, .if_icmp .ge 25, 3, 59, 0, .null), (37, .aload_n 0, 1, 0, 0, .null), (38, .getfield 44, 3, 11, 10, .null), (41, .iload 4, 2, 4, 0, .null), (43, .iaload, 1, 0, 0, .null), (44, .aload_n 0, 1, 0, 0, .null), (45, .iload 4, 2, 4, 0, .null), (47, .invokevirtual 169, 3, 0, 2, .ref 10)],
  [(50, .isub, 1, 0, 0, .null), (51, .iload_n 2, 1, 2, 0, .null), (52, .if_icmp .lt 7, 3, 59, 0, .null), (55, .iconst 1, 1, 0, 0, .int 1), (56, .goto 4, 3, 60, 0, .null), (59, .iconst 0, 1, 0, 0, .int 0), (60, .istore 5, 2, 5, 0, .null), (62, .iload 5, 2, 5, 0, .null)],
  [(64, .ifCond .eq 26, 3, 90, 0, .null), (67, .iload_n 3, 1, 3, 0, .null), (68, .ifCond .lt 19, 3, 87, 0, .null), (71, .aload_n 0, 1, 0, 0, .null), (72, .getfield 47, 3, 12, 10, .null), (75, .iload 4, 2, 4, 0, .null), (77, .iaload, 1, 0, 0, .null), (78, .aload_n 0, 1, 0, 0, .null), (79, .getfield 47, 3, 12, 10, .null)],
  [(82, .iload_n 3, 1, 3, 0, .null), (83, .iaload, 1, 0, 0, .null), (84, .if_icmp .ge 6, 3, 90, 0, .null), (87, .iload 4, 2, 4, 0, .null), (89, .istore_n 3, 1, 3, 0, .null), (90, .iinc 4 1, 3, 4, 0, .int 1), (93, .goto (-88), 3, 5, 0, .null)],
  [(96, .iload_n 3, 1, 3, 0, .null), (97, .ireturn, 1, 0, 0, .null)]]
def fX10_placeFor : am_F := am_meth [fX10_reserved] [] 1 6 100000 pX10_placeFor
def pX10_book : am_P := [[(0, .aload_n 0, 1, 0, 0, .null), (1, .getfield 56, 3, 16, 10, .null), (4, .iload_n 1, 1, 1, 0, .null), (5, .iaload, 1, 0, 0, .null), (6, .istore_n 2, 1, 2, 0, .null), (7, .iconst 0, 1, 0, 0, .int 0), (8, .istore_n 3, 1, 3, 0, .null), (9, .iload_n 3, 1, 3, 0, .null), (10, .iconst 2, 1, 0, 0, .int 2), (11, .if_icmp .ge 136, 3, 147, 0, .null), (14, .aload_n 0, 1, 0, 0, .null), (15, .iload_n 2, 1, 2, 0, .null)],
  [(16, .iconst 3, 1, 0, 0, .int 3), (17, .iload_n 3, 1, 3, 0, .null), (18, .imul, 1, 0, 0, .null), (19, .iconst 1, 1, 0, 0, .int 1), (20, .iadd, 1, 0, 0, .null), (21, .invokevirtual 150, 3, 0, 3, .ref 10), (24, .istore 4, 2, 4, 0, .null), (26, .iload 4, 2, 4, 0, .null), (28, .ifCond .lt 113, 3, 141, 0, .null), (31, .aload_n 0, 1, 0, 0, .null)],
  [(32, .iload 4, 2, 4, 0, .null), (34, .aload_n 0, 1, 0, 0, .null), (35, .iload_n 2, 1, 2, 0, .null), (36, .iconst 3, 1, 0, 0, .int 3), (37, .iload_n 3, 1, 3, 0, .null), (38, .imul, 1, 0, 0, .null), (39, .iconst 2, 1, 0, 0, .int 2), (40, .iadd, 1, 0, 0, .null), (41, .invokevirtual 150, 3, 0, 3, .ref 10), (44, .invokevirtual 195, 3, 1, 3, .ref 10), (47, .istore 5, 2, 5, 0, .null)],
  [(49, .iload 5, 2, 5, 0, .null), (51, .ifCond .ge 5, 3, 56, 0, .null), (54, .iconst 0, 1, 0, 0, .int 0), (55, .ireturn, 1, 0, 0, .null), (56, .aload_n 0, 1, 0, 0, .null), (57, .getfield 101, 3, 31, 10, .null), (60, .aload_n 0, 1, 0, 0, .null), (61, .getfield 166, 3, 36, 10, .null)],
  [(64, .aload_n 0, 1, 0, 0, .null), (65, .getfield 198, 3, 42, 10, .null), (68, .aload_n 0, 1, 0, 0, .null), (69, .iload_n 2, 1, 2, 0, .null), (70, .iconst 3, 1, 0, 0, .int 3), (71, .iload_n 3, 1, 3, 0, .null), (72, .imul, 1, 0, 0, .null), (73, .iconst 3, 1, 0, 0, .int 3), (74, .iadd, 1, 0, 0, .null), (75, .invokevirtual 150, 3, 0, 3, .ref 10), (78, .iadd, 1, 0, 0, .null), (79, .iastore, 1, 0, 0, .null)],
  [(80, .aload_n 0, 1, 0, 0, .null), (81, .getfield 104, 3, 32, 10, .null), (84, .aload_n 0, 1, 0, 0, .null), (85, .getfield 166, 3, 36, 10, .null), (88, .iload 4, 2, 4, 0, .null), (90, .iastore, 1, 0, 0, .null), (91, .aload_n 0, 1, 0, 0, .null), (92, .getfield 107, 3, 33, 10, .null), (95, .aload_n 0, 1, 0, 0, .null)],
  [(96, .getfield 166, 3, 36, 10, .null), (99, .iload 5, 2, 5, 0, .null), (101, .iastore, 1, 0, 0, .null), (102, .aload_n 0, 1, 0, 0, .null), (103, .getfield 110, 3, 34, 10, .null), (106, .aload_n 0, 1, 0, 0, .null), (107, .getfield 166, 3, 36, 10, .null), (110, .aload_n 0, 1, 0, 0, .null), (111, .iload_n 2, 1, 2, 0, .null)],
  [(112, .iconst 3, 1, 0, 0, .int 3), (113, .iload_n 3, 1, 3, 0, .null), (114, .imul, 1, 0, 0, .null), (115, .iconst 2, 1, 0, 0, .int 2), (116, .iadd, 1, 0, 0, .null), (117, .invokevirtual 150, 3, 0, 3, .ref 10), (120, .iastore, 1, 0, 0, .null), (121, .aload_n 0, 1, 0, 0, .null), (122, .getfield 113, 3, 35, 10, .null), (125, .aload_n 0, 1, 0, 0, .null), (126, .getfield 166, 3, 36, 10, .null)],
  [(129, .iload_n 1, 1, 1, 0, .null), (130, .iastore, 1, 0, 0, .null), (131, .aload_n 0, 1, 0, 0, .null), (132, .dup, 1, 0, 0, .null), (133, .getfield 166, 3, 36, 10, .null), (136, .iconst 1, 1, 0, 0, .int 1), (137, .iadd, 1, 0, 0, .null), (138, .putfield 166, 3, 36, 10, .null), (141, .iinc 3 1, 3, 3, 0, .int 1)],
  [(144, .goto (-135), 3, 9, 0, .null), (147, .iconst 1, 1, 0, 0, .int 1), (148, .ireturn, 1, 0, 0, .null)]]
def fX10_book : am_F := am_meth [fX10_of, fX10_placeFor] [] 2 6 100000 pX10_book
def pX10_fail : am_P := [[(0, .aload_n 0, 1, 0, 0, .null), (1, .getfield 62, 3, 18, 10, .null), (4, .iload_n 1, 1, 1, 0, .null), (5, .iconst 3, 1, 0, 0, .int 3), (6, .iastore, 1, 0, 0, .null), (7, .aload_n 0, 1, 0, 0, .null), (8, .getfield 65, 3, 19, 10, .null), (11, .iload_n 1, 1, 1, 0, .null), (12, .iload_n 2, 1, 2, 0, .null), (13, .iastore, 1, 0, 0, .null), (14, .return_, 1, 0, 0, .null)]]
def fX10_fail : am_F := am_meth [] [] 0 3 100000 pX10_fail
def pX10_leave : am_P := [[(0, .aload_n 0, 1, 0, 0, .null), (1, .getfield 95, 3, 29, 10, .null), (4, .aload_n 0, 1, 0, 0, .null), (5, .getfield 71, 3, 21, 10, .null), (8, .iload_n 1, 1, 1, 0, .null), (9, .iaload, 1, 0, 0, .null), (10, .iconst 3, 1, 0, 0, .int 3), (11, .iastore, 1, 0, 0, .null), (12, .aload_n 0, 1, 0, 0, .null), (13, .getfield 98, 3, 30, 10, .null)],
  [(16, .aload_n 0, 1, 0, 0, .null), (17, .getfield 71, 3, 21, 10, .null), (20, .iload_n 1, 1, 1, 0, .null), (21, .iaload, 1, 0, 0, .null), (22, .iconst 0, 1, 0, 0, .int 0), (23, .iastore, 1, 0, 0, .null), (24, .aload_n 0, 1, 0, 0, .null), (25, .getfield 71, 3, 21, 10, .null), (28, .iload_n 1, 1, 1, 0, .null), (29, .iconst (-1), 1, 0, 0, .int (-1)), (30, .iastore, 1, 0, 0, .null), (31, .aload_n 0, 1, 0, 0, .null)],
  [(32, .iload_n 1, 1, 1, 0, .null), (33, .invokevirtual 201, 3, 0, 2, .ref 10), (36, .return_, 1, 0, 0, .null)]]
def fX10_leave : am_F := am_meth [fX10_cancel] [] 0 2 100000 pX10_leave
def pX10_breaksOff : am_P := [[(0, .aload_n 0, 1, 0, 0, .null), (1, .iload_n 1, 1, 1, 0, .null), (2, .invokevirtual 205, 3, 0, 2, .ref 10), (5, .aload_n 0, 1, 0, 0, .null), (6, .getfield 68, 3, 20, 10, .null), (9, .iload_n 1, 1, 1, 0, .null), (10, .iaload, 1, 0, 0, .null), (11, .iconst 1, 1, 0, 0, .int 1), (12, .if_icmp .ne 13, 3, 25, 0, .null), (15, .aload_n 0, 1, 0, 0, .null)],
  [(16, .getfield 62, 3, 18, 10, .null), (19, .iload_n 1, 1, 1, 0, .null), (20, .iconst 0, 1, 0, 0, .int 0), (21, .iastore, 1, 0, 0, .null), (22, .goto 9, 3, 31, 0, .null), (25, .aload_n 0, 1, 0, 0, .null), (26, .iload_n 1, 1, 1, 0, .null), (27, .iload_n 2, 1, 2, 0, .null), (28, .invokevirtual 208, 3, 1, 3, .ref 10), (31, .return_, 1, 0, 0, .null)]]
def fX10_breaksOff : am_F := am_meth [fX10_leave, fX10_fail] [] 0 3 100000 pX10_breaksOff
def pX10_give : am_P := [[(0, .iconst 0, 1, 0, 0, .int 0), (1, .istore_n 1, 1, 1, 0, .null), (2, .iload_n 1, 1, 1, 0, .null), (3, .aload_n 0, 1, 0, 0, .null), (4, .getfield 166, 3, 36, 10, .null), (7, .if_icmp .ge 126, 3, 133, 0, .null), (10, .aload_n 0, 1, 0, 0, .null), (11, .getfield 101, 3, 31, 10, .null), (14, .iload_n 1, 1, 1, 0, .null), (15, .iaload, 1, 0, 0, .null)],
  [(16, .aload_n 0, 1, 0, 0, .null), (17, .getfield 198, 3, 42, 10, .null), (20, .if_icmp .ne 107, 3, 127, 0, .null), (23, .aload_n 0, 1, 0, 0, .null), (24, .getfield 113, 3, 35, 10, .null), (27, .iload_n 1, 1, 1, 0, .null), (28, .iaload, 1, 0, 0, .null), (29, .istore_n 2, 1, 2, 0, .null), (30, .aload_n 0, 1, 0, 0, .null), (31, .aload_n 0, 1, 0, 0, .null)],
  [(32, .getfield 198, 3, 42, 10, .null), (35, .putfield 189, 3, 37, 10, .null), (38, .aload_n 0, 1, 0, 0, .null), (39, .aload_n 0, 1, 0, 0, .null), (40, .getfield 104, 3, 32, 10, .null), (43, .iload_n 1, 1, 1, 0, .null), (44, .iaload, 1, 0, 0, .null), (45, .putfield 116, 3, 38, 10, .null)],
  [(48, .aload_n 0, 1, 0, 0, .null), (49, .getfield 179, 3, 47, 10, .null), (52, .ifCond .eq 15, 3, 67, 0, .null), (55, .aload_n 0, 1, 0, 0, .null), (56, .iconst 0, 1, 0, 0, .int 0), (57, .putfield 179, 3, 47, 10, .null), (60, .aload_n 0, 1, 0, 0, .null), (61, .iload_n 2, 1, 2, 0, .null), (62, .iconst 4, 1, 0, 0, .int 4), (63, .invokevirtual 211, 3, 0, 3, .ref 10)],
  [(66, .return_, 1, 0, 0, .null), (67, .aload_n 0, 1, 0, 0, .null), (68, .getfield 44, 3, 11, 10, .null), (71, .aload_n 0, 1, 0, 0, .null), (72, .getfield 107, 3, 33, 10, .null), (75, .iload_n 1, 1, 1, 0, .null), (76, .iaload, 1, 0, 0, .null), (77, .dup2, 1, 0, 0, .null), (78, .iaload, 1, 0, 0, .null), (79, .aload_n 0, 1, 0, 0, .null)],
  [(80, .getfield 110, 3, 34, 10, .null), (83, .iload_n 1, 1, 1, 0, .null), (84, .iaload, 1, 0, 0, .null), (85, .isub, 1, 0, 0, .null), (86, .iastore, 1, 0, 0, .null), (87, .aload_n 0, 1, 0, 0, .null), (88, .getfield 98, 3, 30, 10, .null), (91, .aload_n 0, 1, 0, 0, .null), (92, .getfield 71, 3, 21, 10, .null), (95, .iload_n 2, 1, 2, 0, .null)],
  [(96, .iaload, 1, 0, 0, .null), (97, .dup2, 1, 0, 0, .null), (98, .iaload, 1, 0, 0, .null), (99, .aload_n 0, 1, 0, 0, .null), (100, .getfield 110, 3, 34, 10, .null), (103, .iload_n 1, 1, 1, 0, .null), (104, .iaload, 1, 0, 0, .null), (105, .iadd, 1, 0, 0, .null), (106, .iastore, 1, 0, 0, .null), (107, .aload_n 0, 1, 0, 0, .null), (108, .dup, 1, 0, 0, .null), (109, .getfield 166, 3, 36, 10, .null)],
  [(112, .iconst 1, 1, 0, 0, .int 1), (113, .isub, 1, 0, 0, .null), (114, .putfield 166, 3, 36, 10, .null), (117, .aload_n 0, 1, 0, 0, .null), (118, .aload_n 0, 1, 0, 0, .null), (119, .getfield 166, 3, 36, 10, .null), (122, .iload_n 1, 1, 1, 0, .null), (123, .invokevirtual 182, 3, 1, 3, .ref 10), (126, .return_, 1, 0, 0, .null), (127, .iinc 1 1, 3, 1, 0, .int 1)],
  [(130, .goto (-128), 3, 2, 0, .null), (133, .return_, 1, 0, 0, .null)]]
def fX10_give : am_F := am_meth [fX10_breaksOff, fX10_copyBook] [] 0 3 100000 pX10_give
def pX10_absorbance : am_P := [[(0, .bipush 15, 2, 0, 0, .int 15), (2, .istore_n 1, 1, 1, 0, .null), (3, .iload_n 0, 1, 0, 0, .null), (4, .iload_n 1, 1, 1, 0, .null), (5, .ishr, 1, 0, 0, .null), (6, .ifCond .ne 9, 3, 15, 0, .null), (9, .iinc 1 (-1), 3, 1, 0, .int (-1)), (12, .goto (-9), 3, 3, 0, .null), (15, .iload_n 0, 1, 0, 0, .null)],
  [(16, .i2l, 1, 0, 0, .null), (17, .bipush 15, 2, 0, 0, .int 15), (19, .iload_n 1, 1, 1, 0, .null), (20, .isub, 1, 0, 0, .null), (21, .lshl, 1, 0, 0, .null), (22, .lstore_n 2, 1, 2, 0, .null), (23, .iconst 0, 1, 0, 0, .int 0), (24, .istore 4, 2, 4, 0, .null), (26, .iconst 0, 1, 0, 0, .int 0), (27, .istore 5, 2, 5, 0, .null), (29, .iload 5, 2, 5, 0, .null), (31, .bipush 10, 2, 0, 0, .int 10)],
  [(33, .if_icmp .ge 40, 3, 73, 0, .null), (36, .lload_n 2, 1, 2, 0, .null), (37, .lload_n 2, 1, 2, 0, .null), (38, .lmul, 1, 0, 0, .null), (39, .ldc2_w 214, 3, 0, 0, .long 32768), (42, .ldiv, 1, 0, 0, .null), (43, .lstore_n 2, 1, 2, 0, .null), (44, .iconst 2, 1, 0, 0, .int 2), (45, .iload 4, 2, 4, 0, .null), (47, .imul, 1, 0, 0, .null)],
  [(48, .istore 4, 2, 4, 0, .null), (50, .lload_n 2, 1, 2, 0, .null), (51, .ldc2_w 216, 3, 0, 0, .long 65536), (54, .lcmp, 1, 0, 0, .null), (55, .ifCond .lt 12, 3, 67, 0, .null), (58, .iinc 4 1, 3, 4, 0, .int 1), (61, .lload_n 2, 1, 2, 0, .null), (62, .ldc2_w 218, 3, 0, 0, .long 2)],
  [(65, .ldiv, 1, 0, 0, .null), (66, .lstore_n 2, 1, 2, 0, .null), (67, .iinc 5 1, 3, 5, 0, .int 1), (70, .goto (-41), 3, 29, 0, .null), (73, .sipush 16384, 3, 0, 0, .int 16384), (76, .sipush 1024, 3, 0, 0, .int 1024), (79, .iload_n 1, 1, 1, 0, .null)],
  [(80, .imul, 1, 0, 0, .null), (81, .iload 4, 2, 4, 0, .null), (83, .iadd, 1, 0, 0, .null), (84, .isub, 1, 0, 0, .null), (85, .ireturn, 1, 0, 0, .null)]]
def fX10_absorbance : am_F := am_meth [] [] 1 6 100000 pX10_absorbance
def pX10_floor : am_P := [[(0, .lload_n 0, 1, 0, 0, .null), (1, .lload_n 2, 1, 2, 0, .null), (2, .ldiv, 1, 0, 0, .null), (3, .lstore 4, 2, 4, 0, .null), (5, .lload_n 0, 1, 0, 0, .null), (6, .lload_n 2, 1, 2, 0, .null), (7, .lrem, 1, 0, 0, .null), (8, .lconst 0, 1, 0, 0, .long 0), (9, .lcmp, 1, 0, 0, .null), (10, .ifCond .eq 35, 3, 45, 0, .null), (13, .lload_n 0, 1, 0, 0, .null), (14, .lconst 0, 1, 0, 0, .long 0), (15, .lcmp, 1, 0, 0, .null)],
  [(16, .ifCond .ge 7, 3, 23, 0, .null), (19, .iconst 1, 1, 0, 0, .int 1), (20, .goto 4, 3, 24, 0, .null), (23, .iconst 0, 1, 0, 0, .int 0), (24, .lload_n 2, 1, 2, 0, .null), (25, .lconst 0, 1, 0, 0, .long 0), (26, .lcmp, 1, 0, 0, .null), (27, .ifCond .ge 7, 3, 34, 0, .null), (30, .iconst 1, 1, 0, 0, .int 1), (31, .goto 4, 3, 35, 0, .null)],
  [(34, .iconst 0, 1, 0, 0, .int 0), (35, .if_icmp .eq 10, 3, 45, 0, .null), (38, .lload 4, 2, 4, 0, .null), (40, .lconst 1, 1, 0, 0, .long 1), (41, .lsub, 1, 0, 0, .null), (42, .goto 5, 3, 47, 0, .null), (45, .lload 4, 2, 4, 0, .null), (47, .lreturn, 1, 0, 0, .null)]]
def fX10_floor : am_F := am_meth [] [] 3 6 100000 pX10_floor
def pX10_rounded : am_P := [[(0, .lload_n 2, 1, 2, 0, .null), (1, .lconst 0, 1, 0, 0, .long 0), (2, .lcmp, 1, 0, 0, .null), (3, .ifCond .le 21, 3, 24, 0, .null), (6, .ldc2_w 218, 3, 0, 0, .long 2), (9, .lload_n 0, 1, 0, 0, .null), (10, .lmul, 1, 0, 0, .null), (11, .lload_n 2, 1, 2, 0, .null), (12, .ladd, 1, 0, 0, .null), (13, .ldc2_w 218, 3, 0, 0, .long 2)],
  [(16, .lload_n 2, 1, 2, 0, .null), (17, .lmul, 1, 0, 0, .null), (18, .invokestatic 220, 3, 0, 2, .null), (21, .goto 18, 3, 39, 0, .null), (24, .ldc2_w 224, 3, 0, 0, .long (-2)), (27, .lload_n 0, 1, 0, 0, .null), (28, .lmul, 1, 0, 0, .null), (29, .lload_n 2, 1, 2, 0, .null), (30, .lsub, 1, 0, 0, .null), (31, .ldc2_w 224, 3, 0, 0, .long (-2))],
  [(34, .lload_n 2, 1, 2, 0, .null), (35, .lmul, 1, 0, 0, .null), (36, .invokestatic 220, 3, 0, 2, .null), (39, .lreturn, 1, 0, 0, .null)]]
def fX10_rounded : am_F := am_meth [fX10_floor] [] 3 4 100000 pX10_rounded
def pX10_resultOf : am_P := [[(0, .aload_n 0, 1, 0, 0, .null), (1, .getfield 86, 3, 26, 10, .null), (4, .iload_n 1, 1, 1, 0, .null), (5, .iaload, 1, 0, 0, .null), (6, .istore_n 2, 1, 2, 0, .null), (7, .aload_n 0, 1, 0, 0, .null), (8, .aload_n 0, 1, 0, 0, .null), (9, .getfield 56, 3, 16, 10, .null), (12, .iload_n 1, 1, 1, 0, .null), (13, .iaload, 1, 0, 0, .null), (14, .bipush 9, 2, 0, 0, .int 9)],
  [(16, .invokevirtual 150, 3, 0, 3, .ref 10), (19, .istore_n 3, 1, 3, 0, .null), (20, .iload_n 3, 1, 3, 0, .null), (21, .ifCond .ne 18, 3, 39, 0, .null), (24, .aload_n 0, 1, 0, 0, .null), (25, .getfield 83, 3, 25, 10, .null), (28, .bipush 6, 2, 0, 0, .int 6), (30, .iload_n 1, 1, 1, 0, .null), (31, .imul, 1, 0, 0, .null)],
  [(32, .iload_n 2, 1, 2, 0, .null), (33, .iadd, 1, 0, 0, .null), (34, .iconst 1, 1, 0, 0, .int 1), (35, .isub, 1, 0, 0, .null), (36, .iaload, 1, 0, 0, .null), (37, .i2l, 1, 0, 0, .null), (38, .lreturn, 1, 0, 0, .null), (39, .iload_n 3, 1, 3, 0, .null), (40, .iconst 2, 1, 0, 0, .int 2), (41, .if_icmp .ne 28, 3, 69, 0, .null), (44, .aload_n 0, 1, 0, 0, .null), (45, .getfield 83, 3, 25, 10, .null)],
  [(48, .bipush 6, 2, 0, 0, .int 6), (50, .iload_n 1, 1, 1, 0, .null), (51, .imul, 1, 0, 0, .null), (52, .iload_n 2, 1, 2, 0, .null), (53, .iadd, 1, 0, 0, .null), (54, .iconst 1, 1, 0, 0, .int 1), (55, .isub, 1, 0, 0, .null), (56, .iaload, 1, 0, 0, .null), (57, .aload_n 0, 1, 0, 0, .null), (58, .getfield 83, 3, 25, 10, .null), (61, .bipush 6, 2, 0, 0, .int 6), (63, .iload_n 1, 1, 1, 0, .null)],
  [(64, .imul, 1, 0, 0, .null), (65, .iaload, 1, 0, 0, .null), (66, .isub, 1, 0, 0, .null), (67, .i2l, 1, 0, 0, .null), (68, .lreturn, 1, 0, 0, .null), (69, .lconst 0, 1, 0, 0, .long 0), (70, .lstore 4, 2, 4, 0, .null), (72, .lconst 0, 1, 0, 0, .long 0), (73, .lstore 6, 2, 6, 0, .null), (75, .lconst 0, 1, 0, 0, .long 0), (76, .lstore 8, 2, 8, 0, .null), (78, .lconst 0, 1, 0, 0, .long 0), (79, .lstore 10, 2, 10, 0, .null)],
  [(81, .iconst 0, 1, 0, 0, .int 0), (82, .istore 12, 2, 12, 0, .null), (84, .iload 12, 2, 12, 0, .null), (86, .iload_n 2, 1, 2, 0, .null), (87, .if_icmp .ge 68, 3, 155, 0, .null), (90, .lload 4, 2, 4, 0, .null), (92, .iload 12, 2, 12, 0, .null), (94, .i2l, 1, 0, 0, .null), (95, .ladd, 1, 0, 0, .null)],
  [(96, .lstore 4, 2, 4, 0, .null), (98, .lload 10, 2, 10, 0, .null), (100, .iload 12, 2, 12, 0, .null), (102, .iload 12, 2, 12, 0, .null), (104, .imul, 1, 0, 0, .null), (105, .i2l, 1, 0, 0, .null), (106, .ladd, 1, 0, 0, .null), (107, .lstore 10, 2, 10, 0, .null), (109, .lload 6, 2, 6, 0, .null), (111, .aload_n 0, 1, 0, 0, .null)],
  [(112, .getfield 83, 3, 25, 10, .null), (115, .bipush 6, 2, 0, 0, .int 6), (117, .iload_n 1, 1, 1, 0, .null), (118, .imul, 1, 0, 0, .null), (119, .iload 12, 2, 12, 0, .null), (121, .iadd, 1, 0, 0, .null), (122, .iaload, 1, 0, 0, .null), (123, .i2l, 1, 0, 0, .null), (124, .ladd, 1, 0, 0, .null), (125, .lstore 6, 2, 6, 0, .null), (127, .lload 8, 2, 8, 0, .null)],
  [(129, .iload 12, 2, 12, 0, .null), (131, .i2l, 1, 0, 0, .null), (132, .aload_n 0, 1, 0, 0, .null), (133, .getfield 83, 3, 25, 10, .null), (136, .bipush 6, 2, 0, 0, .int 6), (138, .iload_n 1, 1, 1, 0, .null), (139, .imul, 1, 0, 0, .null), (140, .iload 12, 2, 12, 0, .null), (142, .iadd, 1, 0, 0, .null), (143, .iaload, 1, 0, 0, .null)],
  [(144, .i2l, 1, 0, 0, .null), (145, .lmul, 1, 0, 0, .null), (146, .ladd, 1, 0, 0, .null), (147, .lstore 8, 2, 8, 0, .null), (149, .iinc 12 1, 3, 12, 0, .int 1), (152, .goto (-68), 3, 84, 0, .null), (155, .ldc2_w 226, 3, 0, 0, .long 1000), (158, .iload_n 2, 1, 2, 0, .null), (159, .i2l, 1, 0, 0, .null)],
  [(160, .lload 8, 2, 8, 0, .null), (162, .lmul, 1, 0, 0, .null), (163, .lload 4, 2, 4, 0, .null), (165, .lload 6, 2, 6, 0, .null), (167, .lmul, 1, 0, 0, .null), (168, .lsub, 1, 0, 0, .null), (169, .lmul, 1, 0, 0, .null), (170, .iload_n 2, 1, 2, 0, .null), (171, .i2l, 1, 0, 0, .null), (172, .lload 10, 2, 10, 0, .null), (174, .lmul, 1, 0, 0, .null), (175, .lload 4, 2, 4, 0, .null)],
  [(177, .lload 4, 2, 4, 0, .null), (179, .lmul, 1, 0, 0, .null), (180, .lsub, 1, 0, 0, .null), (181, .invokestatic 228, 3, 1, 2, .null), (184, .lreturn, 1, 0, 0, .null)]]
def fX10_resultOf : am_F := am_meth [fX10_of, fX10_rounded] [] 3 13 100000 pX10_resultOf
def pX10_byCurve : am_P := [[(0, .iconst 5, 1, 0, 0, .int 5), (1, .iload_n 1, 1, 1, 0, .null), (2, .imul, 1, 0, 0, .null), (3, .istore 4, 2, 4, 0, .null), (5, .iload 4, 2, 4, 0, .null), (7, .iconst 2, 1, 0, 0, .int 2), (8, .iadd, 1, 0, 0, .null), (9, .iconst 5, 1, 0, 0, .int 5), (10, .iload_n 1, 1, 1, 0, .null), (11, .imul, 1, 0, 0, .null), (12, .aload_n 0, 1, 0, 0, .null), (13, .getfield 23, 3, 4, 10, .null)],
  [(16, .iload_n 1, 1, 1, 0, .null), (17, .iaload, 1, 0, 0, .null), (18, .iadd, 1, 0, 0, .null), (19, .if_icmp .ge 24, 3, 43, 0, .null), (22, .lload_n 2, 1, 2, 0, .null), (23, .aload_n 0, 1, 0, 0, .null), (24, .getfield 17, 3, 2, 10, .null), (27, .iload 4, 2, 4, 0, .null), (29, .iconst 1, 1, 0, 0, .int 1), (30, .iadd, 1, 0, 0, .null), (31, .iaload, 1, 0, 0, .null)],
  [(32, .i2l, 1, 0, 0, .null), (33, .lcmp, 1, 0, 0, .null), (34, .ifCond .le 9, 3, 43, 0, .null), (37, .iinc 4 1, 3, 4, 0, .int 1), (40, .goto (-35), 3, 5, 0, .null), (43, .aload_n 0, 1, 0, 0, .null), (44, .getfield 17, 3, 2, 10, .null), (47, .iload 4, 2, 4, 0, .null)],
  [(49, .iconst 1, 1, 0, 0, .int 1), (50, .iadd, 1, 0, 0, .null), (51, .iaload, 1, 0, 0, .null), (52, .aload_n 0, 1, 0, 0, .null), (53, .getfield 17, 3, 2, 10, .null), (56, .iload 4, 2, 4, 0, .null), (58, .iaload, 1, 0, 0, .null), (59, .isub, 1, 0, 0, .null), (60, .i2l, 1, 0, 0, .null), (61, .lstore 5, 2, 5, 0, .null), (63, .aload_n 0, 1, 0, 0, .null)],
  [(64, .getfield 20, 3, 3, 10, .null), (67, .iload 4, 2, 4, 0, .null), (69, .iconst 1, 1, 0, 0, .int 1), (70, .iadd, 1, 0, 0, .null), (71, .iaload, 1, 0, 0, .null), (72, .aload_n 0, 1, 0, 0, .null), (73, .getfield 20, 3, 3, 10, .null), (76, .iload 4, 2, 4, 0, .null), (78, .iaload, 1, 0, 0, .null), (79, .isub, 1, 0, 0, .null)],
  [(80, .i2l, 1, 0, 0, .null), (81, .lstore 7, 2, 7, 0, .null), (83, .aload_n 0, 1, 0, 0, .null), (84, .getfield 20, 3, 3, 10, .null), (87, .iload 4, 2, 4, 0, .null), (89, .iaload, 1, 0, 0, .null), (90, .i2l, 1, 0, 0, .null), (91, .lload_n 2, 1, 2, 0, .null), (92, .aload_n 0, 1, 0, 0, .null), (93, .getfield 17, 3, 2, 10, .null)],
  [(96, .iload 4, 2, 4, 0, .null), (98, .iaload, 1, 0, 0, .null), (99, .i2l, 1, 0, 0, .null), (100, .lsub, 1, 0, 0, .null), (101, .lload 7, 2, 7, 0, .null), (103, .lmul, 1, 0, 0, .null), (104, .lload 5, 2, 5, 0, .null), (106, .invokestatic 228, 3, 0, 2, .null), (109, .ladd, 1, 0, 0, .null), (110, .lreturn, 1, 0, 0, .null)]]
def fX10_byCurve : am_F := am_meth [fX10_rounded] [] 3 9 100000 pX10_byCurve
def pX10_release : am_P := [[(0, .aload_n 0, 1, 0, 0, .null), (1, .getfield 62, 3, 18, 10, .null), (4, .iload_n 1, 1, 1, 0, .null), (5, .iconst 2, 1, 0, 0, .int 2), (6, .iastore, 1, 0, 0, .null), (7, .aload_n 0, 1, 0, 0, .null), (8, .getfield 89, 3, 27, 10, .null), (11, .iload_n 1, 1, 1, 0, .null), (12, .iload_n 2, 1, 2, 0, .null), (13, .iastore, 1, 0, 0, .null), (14, .aload_n 0, 1, 0, 0, .null), (15, .getfield 92, 3, 28, 10, .null)],
  [(18, .iload_n 1, 1, 1, 0, .null), (19, .iload_n 3, 1, 3, 0, .null), (20, .iastore, 1, 0, 0, .null), (21, .aload_n 0, 1, 0, 0, .null), (22, .getfield 120, 3, 39, 10, .null), (25, .aload_n 0, 1, 0, 0, .null), (26, .getfield 231, 3, 40, 10, .null), (29, .iload_n 1, 1, 1, 0, .null), (30, .iastore, 1, 0, 0, .null), (31, .aload_n 0, 1, 0, 0, .null)],
  [(32, .dup, 1, 0, 0, .null), (33, .getfield 231, 3, 40, 10, .null), (36, .iconst 1, 1, 0, 0, .int 1), (37, .iadd, 1, 0, 0, .null), (38, .putfield 231, 3, 40, 10, .null), (41, .return_, 1, 0, 0, .null)]]
def fX10_release : am_F := am_meth [] [] 0 4 100000 pX10_release
def pX10_remember : am_P := [[(0, .aload_n 0, 1, 0, 0, .null), (1, .getfield 29, 3, 6, 10, .null), (4, .iload_n 1, 1, 1, 0, .null), (5, .iaload, 1, 0, 0, .null), (6, .bipush 10, 2, 0, 0, .int 10), (8, .if_icmp .ne 49, 3, 57, 0, .null), (11, .iconst 1, 1, 0, 0, .int 1), (12, .istore_n 3, 1, 3, 0, .null), (13, .iload_n 3, 1, 3, 0, .null), (14, .bipush 10, 2, 0, 0, .int 10)],
  [(16, .if_icmp .ge 33, 3, 49, 0, .null), (19, .aload_n 0, 1, 0, 0, .null), (20, .getfield 26, 3, 5, 10, .null), (23, .bipush 10, 2, 0, 0, .int 10), (25, .iload_n 1, 1, 1, 0, .null), (26, .imul, 1, 0, 0, .null), (27, .iload_n 3, 1, 3, 0, .null), (28, .iadd, 1, 0, 0, .null), (29, .iconst 1, 1, 0, 0, .int 1), (30, .isub, 1, 0, 0, .null), (31, .aload_n 0, 1, 0, 0, .null)],
  [(32, .getfield 26, 3, 5, 10, .null), (35, .bipush 10, 2, 0, 0, .int 10), (37, .iload_n 1, 1, 1, 0, .null), (38, .imul, 1, 0, 0, .null), (39, .iload_n 3, 1, 3, 0, .null), (40, .iadd, 1, 0, 0, .null), (41, .iaload, 1, 0, 0, .null), (42, .iastore, 1, 0, 0, .null), (43, .iinc 3 1, 3, 3, 0, .int 1), (46, .goto (-33), 3, 13, 0, .null)],
  [(49, .aload_n 0, 1, 0, 0, .null), (50, .getfield 29, 3, 6, 10, .null), (53, .iload_n 1, 1, 1, 0, .null), (54, .bipush 9, 2, 0, 0, .int 9), (56, .iastore, 1, 0, 0, .null), (57, .aload_n 0, 1, 0, 0, .null), (58, .getfield 26, 3, 5, 10, .null), (61, .bipush 10, 2, 0, 0, .int 10), (63, .iload_n 1, 1, 1, 0, .null)],
  [(64, .imul, 1, 0, 0, .null), (65, .aload_n 0, 1, 0, 0, .null), (66, .getfield 29, 3, 6, 10, .null), (69, .iload_n 1, 1, 1, 0, .null), (70, .iaload, 1, 0, 0, .null), (71, .iadd, 1, 0, 0, .null), (72, .iload_n 2, 1, 2, 0, .null), (73, .iastore, 1, 0, 0, .null), (74, .aload_n 0, 1, 0, 0, .null), (75, .getfield 29, 3, 6, 10, .null), (78, .iload_n 1, 1, 1, 0, .null), (79, .dup2, 1, 0, 0, .null)],
  [(80, .iaload, 1, 0, 0, .null), (81, .iconst 1, 1, 0, 0, .int 1), (82, .iadd, 1, 0, 0, .null), (83, .iastore, 1, 0, 0, .null), (84, .return_, 1, 0, 0, .null)]]
def fX10_remember : am_F := am_meth [] [] 0 4 100000 pX10_remember
def pX10_judge : am_P := [[(0, .aload_n 0, 1, 0, 0, .null), (1, .getfield 56, 3, 16, 10, .null), (4, .iload_n 1, 1, 1, 0, .null), (5, .iaload, 1, 0, 0, .null), (6, .istore_n 2, 1, 2, 0, .null), (7, .aload_n 0, 1, 0, 0, .null), (8, .iload_n 2, 1, 2, 0, .null), (9, .aload_n 0, 1, 0, 0, .null), (10, .iload_n 1, 1, 1, 0, .null), (11, .invokevirtual 234, 3, 0, 2, .ref 10), (14, .invokevirtual 238, 3, 1, 3, .ref 10)],
  [(17, .aload_n 0, 1, 0, 0, .null), (18, .getfield 77, 3, 23, 10, .null), (21, .iload_n 1, 1, 1, 0, .null), (22, .baload, 1, 0, 0, .null), (23, .ifCond .eq 13, 3, 36, 0, .null), (26, .aload_n 0, 1, 0, 0, .null), (27, .iload_n 2, 1, 2, 0, .null), (28, .bipush 13, 2, 0, 0, .int 13), (30, .invokevirtual 150, 3, 2, 3, .ref 10)],
  [(33, .goto 4, 3, 37, 0, .null), (36, .iconst 1, 1, 0, 0, .int 1), (37, .i2l, 1, 0, 0, .null), (38, .lmul, 1, 0, 0, .null), (39, .lstore_n 3, 1, 3, 0, .null), (40, .lload_n 3, 1, 3, 0, .null), (41, .ldc2_w 242, 3, 0, 0, .long 1000000000), (44, .lcmp, 1, 0, 0, .null), (45, .ifCond .le 8, 3, 53, 0, .null)],
  [(48, .ldc 244, 2, 0, 0, .int 1000000000), (50, .goto 18, 3, 68, 0, .null), (53, .lload_n 3, 1, 3, 0, .null), (54, .ldc2_w 245, 3, 0, 0, .long (-1000000000)), (57, .lcmp, 1, 0, 0, .null), (58, .ifCond .ge 8, 3, 66, 0, .null), (61, .ldc 247, 2, 0, 0, .int (-1000000000)), (63, .goto 5, 3, 68, 0, .null)],
  [(66, .lload_n 3, 1, 3, 0, .null), (67, .l2i, 1, 0, 0, .null), (68, .istore 5, 2, 5, 0, .null), (70, .iload 5, 2, 5, 0, .null), (72, .aload_n 0, 1, 0, 0, .null), (73, .iload_n 2, 1, 2, 0, .null), (74, .bipush 10, 2, 0, 0, .int 10), (76, .invokevirtual 150, 3, 2, 3, .ref 10), (79, .if_icmp .ge 7, 3, 86, 0, .null)],
  [(82, .iconst 1, 1, 0, 0, .int 1), (83, .goto 4, 3, 87, 0, .null), (86, .iconst 0, 1, 0, 0, .int 0), (87, .iload 5, 2, 5, 0, .null), (89, .aload_n 0, 1, 0, 0, .null), (90, .iload_n 2, 1, 2, 0, .null), (91, .bipush 11, 2, 0, 0, .int 11), (93, .invokevirtual 150, 3, 2, 3, .ref 10)],
  [(96, .if_icmp .le 7, 3, 103, 0, .null), (99, .iconst 2, 1, 0, 0, .int 2), (100, .goto 4, 3, 104, 0, .null), (103, .iconst 0, 1, 0, 0, .int 0), (104, .iadd, 1, 0, 0, .null), (105, .iload 5, 2, 5, 0, .null), (107, .i2l, 1, 0, 0, .null), (108, .lload_n 3, 1, 3, 0, .null), (109, .lcmp, 1, 0, 0, .null), (110, .ifCond .eq 7, 3, 117, 0, .null)],
  [(113, .iconst 4, 1, 0, 0, .int 4), (114, .goto 4, 3, 118, 0, .null), (117, .iconst 0, 1, 0, 0, .int 0), (118, .iadd, 1, 0, 0, .null), (119, .aload_n 0, 1, 0, 0, .null), (120, .getfield 68, 3, 20, 10, .null), (123, .iload_n 1, 1, 1, 0, .null), (124, .iaload, 1, 0, 0, .null), (125, .iconst 2, 1, 0, 0, .int 2), (126, .if_icmp .ne 8, 3, 134, 0, .null)],
  [(129, .bipush 8, 2, 0, 0, .int 8), (131, .goto 4, 3, 135, 0, .null), (134, .iconst 0, 1, 0, 0, .int 0), (135, .iadd, 1, 0, 0, .null), (136, .aload_n 0, 1, 0, 0, .null), (137, .getfield 77, 3, 23, 10, .null), (140, .iload_n 1, 1, 1, 0, .null), (141, .baload, 1, 0, 0, .null), (142, .ifCond .eq 8, 3, 150, 0, .null)],
  [(145, .bipush 16, 2, 0, 0, .int 16), (147, .goto 4, 3, 151, 0, .null), (150, .iconst 0, 1, 0, 0, .int 0), (151, .iadd, 1, 0, 0, .null), (152, .istore 6, 2, 6, 0, .null), (154, .aload_n 0, 1, 0, 0, .null), (155, .iload_n 1, 1, 1, 0, .null), (156, .invokevirtual 205, 3, 3, 2, .ref 10), (159, .aload_n 0, 1, 0, 0, .null)],
  [(160, .getfield 80, 3, 24, 10, .null), (163, .iload_n 1, 1, 1, 0, .null), (164, .baload, 1, 0, 0, .null), (165, .ifCond .eq 22, 3, 187, 0, .null), (168, .aload_n 0, 1, 0, 0, .null), (169, .iload_n 2, 1, 2, 0, .null), (170, .iload 5, 2, 5, 0, .null), (172, .invokevirtual 248, 3, 4, 3, .ref 10), (175, .aload_n 0, 1, 0, 0, .null)],
  [(176, .iload_n 1, 1, 1, 0, .null), (177, .iload 5, 2, 5, 0, .null), (179, .iload 6, 2, 6, 0, .null), (181, .invokevirtual 251, 3, 5, 4, .ref 10), (184, .goto 90, 3, 274, 0, .null), (187, .aload_n 0, 1, 0, 0, .null), (188, .getfield 68, 3, 20, 10, .null), (191, .iload_n 1, 1, 1, 0, .null)],
  [(192, .iaload, 1, 0, 0, .null), (193, .iconst 1, 1, 0, 0, .int 1), (194, .if_icmp .ne 71, 3, 265, 0, .null), (197, .aload_n 0, 1, 0, 0, .null), (198, .iload_n 2, 1, 2, 0, .null), (199, .bipush 12, 2, 0, 0, .int 12), (201, .invokevirtual 150, 3, 2, 3, .ref 10), (204, .iconst 2, 1, 0, 0, .int 2), (205, .if_icmp .ne 10, 3, 215, 0, .null)],
  [(208, .iload 6, 2, 6, 0, .null), (210, .iconst 2, 1, 0, 0, .int 2), (211, .iand, 1, 0, 0, .null), (212, .ifCond .ne 21, 3, 233, 0, .null), (215, .aload_n 0, 1, 0, 0, .null), (216, .iload_n 2, 1, 2, 0, .null), (217, .bipush 12, 2, 0, 0, .int 12), (219, .invokevirtual 150, 3, 2, 3, .ref 10), (222, .iconst 1, 1, 0, 0, .int 1), (223, .if_icmp .ne 42, 3, 265, 0, .null)],
  [(226, .iload 6, 2, 6, 0, .null), (228, .iconst 3, 1, 0, 0, .int 3), (229, .iand, 1, 0, 0, .null), (230, .ifCond .eq 35, 3, 265, 0, .null), (233, .aload_n 0, 1, 0, 0, .null), (234, .getfield 62, 3, 18, 10, .null), (237, .iload_n 1, 1, 1, 0, .null), (238, .iconst 0, 1, 0, 0, .int 0), (239, .iastore, 1, 0, 0, .null)],
  [(240, .aload_n 0, 1, 0, 0, .null), (241, .getfield 77, 3, 23, 10, .null), (244, .iload_n 1, 1, 1, 0, .null), (245, .aload_n 0, 1, 0, 0, .null), (246, .iload_n 2, 1, 2, 0, .null), (247, .bipush 12, 2, 0, 0, .int 12), (249, .invokevirtual 150, 3, 2, 3, .ref 10), (252, .iconst 2, 1, 0, 0, .int 2), (253, .if_icmp .ne 7, 3, 260, 0, .null)],
  [(256, .iconst 1, 1, 0, 0, .int 1), (257, .goto 4, 3, 261, 0, .null), (260, .iconst 0, 1, 0, 0, .int 0), (261, .bastore, 1, 0, 0, .null), (262, .goto 12, 3, 274, 0, .null), (265, .aload_n 0, 1, 0, 0, .null), (266, .iload_n 1, 1, 1, 0, .null), (267, .iload 5, 2, 5, 0, .null), (269, .iload 6, 2, 6, 0, .null), (271, .invokevirtual 251, 3, 5, 4, .ref 10)],
  [(274, .return_, 1, 0, 0, .null)]]
def fX10_judge : am_F := am_meth [fX10_resultOf, fX10_byCurve, fX10_of, fX10_leave, fX10_remember, fX10_release] [] 0 7 100000 pX10_judge
def pX10_goOn : am_P := [[(0, .iconst 0, 1, 0, 0, .int 0), (1, .istore_n 1, 1, 1, 0, .null), (2, .iload_n 1, 1, 1, 0, .null), (3, .bipush 10, 2, 0, 0, .int 10), (5, .if_icmp .ge 28, 3, 33, 0, .null), (8, .aload_n 0, 1, 0, 0, .null), (9, .getfield 95, 3, 29, 10, .null), (12, .iload_n 1, 1, 1, 0, .null), (13, .iaload, 1, 0, 0, .null), (14, .ifCond .le 13, 3, 27, 0, .null)],
  [(17, .aload_n 0, 1, 0, 0, .null), (18, .getfield 95, 3, 29, 10, .null), (21, .iload_n 1, 1, 1, 0, .null), (22, .dup2, 1, 0, 0, .null), (23, .iaload, 1, 0, 0, .null), (24, .iconst 1, 1, 0, 0, .int 1), (25, .isub, 1, 0, 0, .null), (26, .iastore, 1, 0, 0, .null), (27, .iinc 1 1, 3, 1, 0, .int 1), (30, .goto (-28), 3, 2, 0, .null)],
  [(33, .iconst 0, 1, 0, 0, .int 0), (34, .istore_n 1, 1, 1, 0, .null), (35, .iload_n 1, 1, 1, 0, .null), (36, .aload_n 0, 1, 0, 0, .null), (37, .getfield 134, 3, 14, 10, .null), (40, .if_icmp .ge 29, 3, 69, 0, .null), (43, .aload_n 0, 1, 0, 0, .null), (44, .getfield 62, 3, 18, 10, .null), (47, .iload_n 1, 1, 1, 0, .null)],
  [(48, .iaload, 1, 0, 0, .null), (49, .iconst 1, 1, 0, 0, .int 1), (50, .if_icmp .ne 13, 3, 63, 0, .null), (53, .aload_n 0, 1, 0, 0, .null), (54, .getfield 74, 3, 22, 10, .null), (57, .iload_n 1, 1, 1, 0, .null), (58, .dup2, 1, 0, 0, .null), (59, .iaload, 1, 0, 0, .null), (60, .iconst 1, 1, 0, 0, .int 1), (61, .iadd, 1, 0, 0, .null), (62, .iastore, 1, 0, 0, .null), (63, .iinc 1 1, 3, 1, 0, .int 1)],
  [(66, .goto (-31), 3, 35, 0, .null), (69, .return_, 1, 0, 0, .null)]]
def fX10_goOn : am_F := am_meth [] [] 0 2 100000 pX10_goOn
def pX10_measure : am_P := [[(0, .iconst 0, 1, 0, 0, .int 0), (1, .istore_n 1, 1, 1, 0, .null), (2, .iload_n 1, 1, 1, 0, .null), (3, .aload_n 0, 1, 0, 0, .null), (4, .getfield 134, 3, 14, 10, .null), (7, .if_icmp .ge 94, 3, 101, 0, .null), (10, .aload_n 0, 1, 0, 0, .null), (11, .getfield 62, 3, 18, 10, .null), (14, .iload_n 1, 1, 1, 0, .null), (15, .iaload, 1, 0, 0, .null)],
  [(16, .iconst 1, 1, 0, 0, .int 1), (17, .if_icmp .ne 78, 3, 95, 0, .null), (20, .aload_n 0, 1, 0, 0, .null), (21, .getfield 74, 3, 22, 10, .null), (24, .iload_n 1, 1, 1, 0, .null), (25, .iaload, 1, 0, 0, .null), (26, .aload_n 0, 1, 0, 0, .null), (27, .aload_n 0, 1, 0, 0, .null), (28, .getfield 56, 3, 16, 10, .null), (31, .iload_n 1, 1, 1, 0, .null)],
  [(32, .iaload, 1, 0, 0, .null), (33, .bipush 7, 2, 0, 0, .int 7), (35, .invokevirtual 150, 3, 0, 3, .ref 10), (38, .if_icmp .lt 57, 3, 95, 0, .null), (41, .aload_n 0, 1, 0, 0, .null), (42, .getfield 74, 3, 22, 10, .null), (45, .iload_n 1, 1, 1, 0, .null), (46, .iaload, 1, 0, 0, .null), (47, .aload_n 0, 1, 0, 0, .null)],
  [(48, .aload_n 0, 1, 0, 0, .null), (49, .getfield 56, 3, 16, 10, .null), (52, .iload_n 1, 1, 1, 0, .null), (53, .iaload, 1, 0, 0, .null), (54, .bipush 8, 2, 0, 0, .int 8), (56, .invokevirtual 150, 3, 0, 3, .ref 10), (59, .if_icmp .gt 36, 3, 95, 0, .null), (62, .aload_n 0, 1, 0, 0, .null), (63, .getfield 83, 3, 25, 10, .null)],
  [(66, .bipush 6, 2, 0, 0, .int 6), (68, .iload_n 1, 1, 1, 0, .null), (69, .imul, 1, 0, 0, .null), (70, .aload_n 0, 1, 0, 0, .null), (71, .getfield 86, 3, 26, 10, .null), (74, .iload_n 1, 1, 1, 0, .null), (75, .iaload, 1, 0, 0, .null), (76, .iadd, 1, 0, 0, .null), (77, .aload_n 0, 1, 0, 0, .null), (78, .getfield 124, 3, 44, 10, .null)],
  [(81, .invokestatic 255, 3, 1, 1, .null), (84, .iastore, 1, 0, 0, .null), (85, .aload_n 0, 1, 0, 0, .null), (86, .getfield 86, 3, 26, 10, .null), (89, .iload_n 1, 1, 1, 0, .null), (90, .dup2, 1, 0, 0, .null), (91, .iaload, 1, 0, 0, .null), (92, .iconst 1, 1, 0, 0, .int 1), (93, .iadd, 1, 0, 0, .null), (94, .iastore, 1, 0, 0, .null), (95, .iinc 1 1, 3, 1, 0, .int 1)],
  [(98, .goto (-96), 3, 2, 0, .null), (101, .return_, 1, 0, 0, .null)]]
def fX10_measure : am_F := am_meth [fX10_of, fX10_absorbance] [] 0 2 100000 pX10_measure
def pX10_clean : am_P := [[(0, .iconst 0, 1, 0, 0, .int 0), (1, .istore_n 1, 1, 1, 0, .null), (2, .iload_n 1, 1, 1, 0, .null), (3, .bipush 10, 2, 0, 0, .int 10), (5, .if_icmp .ge 58, 3, 63, 0, .null), (8, .aload_n 0, 1, 0, 0, .null), (9, .getfield 95, 3, 29, 10, .null), (12, .iload_n 1, 1, 1, 0, .null), (13, .iaload, 1, 0, 0, .null), (14, .ifCond .ne 7, 3, 21, 0, .null)],
  [(17, .iconst 1, 1, 0, 0, .int 1), (18, .goto 4, 3, 22, 0, .null), (21, .iconst 0, 1, 0, 0, .int 0), (22, .istore_n 2, 1, 2, 0, .null), (23, .iconst 0, 1, 0, 0, .int 0), (24, .istore_n 3, 1, 3, 0, .null), (25, .iload_n 3, 1, 3, 0, .null), (26, .aload_n 0, 1, 0, 0, .null), (27, .getfield 134, 3, 14, 10, .null), (30, .if_icmp .ge 21, 3, 51, 0, .null)],
  [(33, .aload_n 0, 1, 0, 0, .null), (34, .getfield 71, 3, 21, 10, .null), (37, .iload_n 3, 1, 3, 0, .null), (38, .iaload, 1, 0, 0, .null), (39, .iload_n 1, 1, 1, 0, .null), (40, .if_icmp .ne 5, 3, 45, 0, .null), (43, .iconst 0, 1, 0, 0, .int 0), (44, .istore_n 2, 1, 2, 0, .null), (45, .iinc 3 1, 3, 3, 0, .int 1)],
  [(48, .goto (-23), 3, 25, 0, .null), (51, .iload_n 2, 1, 2, 0, .null), (52, .ifCond .eq 5, 3, 57, 0, .null), (55, .iload_n 1, 1, 1, 0, .null), (56, .ireturn, 1, 0, 0, .null), (57, .iinc 1 1, 3, 1, 0, .int 1), (60, .goto (-58), 3, 2, 0, .null), (63, .iconst (-1), 1, 0, 0, .int (-1))],
  [(64, .ireturn, 1, 0, 0, .null)]]
def fX10_clean : am_F := am_meth [] [] 1 4 100000 pX10_clean
def pX10_start : am_P := [[(0, .aload_n 0, 1, 0, 0, .null), (1, .getfield 62, 3, 18, 10, .null), (4, .iload_n 1, 1, 1, 0, .null), (5, .iconst 1, 1, 0, 0, .int 1), (6, .iastore, 1, 0, 0, .null), (7, .aload_n 0, 1, 0, 0, .null), (8, .getfield 68, 3, 20, 10, .null), (11, .iload_n 1, 1, 1, 0, .null), (12, .dup2, 1, 0, 0, .null), (13, .iaload, 1, 0, 0, .null), (14, .iconst 1, 1, 0, 0, .int 1), (15, .iadd, 1, 0, 0, .null)],
  [(16, .iastore, 1, 0, 0, .null), (17, .aload_n 0, 1, 0, 0, .null), (18, .getfield 71, 3, 21, 10, .null), (21, .iload_n 1, 1, 1, 0, .null), (22, .iload_n 3, 1, 3, 0, .null), (23, .iastore, 1, 0, 0, .null), (24, .aload_n 0, 1, 0, 0, .null), (25, .getfield 74, 3, 22, 10, .null), (28, .iload_n 1, 1, 1, 0, .null), (29, .iconst 0, 1, 0, 0, .int 0), (30, .iastore, 1, 0, 0, .null), (31, .aload_n 0, 1, 0, 0, .null)],
  [(32, .getfield 86, 3, 26, 10, .null), (35, .iload_n 1, 1, 1, 0, .null), (36, .iconst 0, 1, 0, 0, .int 0), (37, .iastore, 1, 0, 0, .null), (38, .aload_n 0, 1, 0, 0, .null), (39, .getfield 80, 3, 24, 10, .null), (42, .iload_n 1, 1, 1, 0, .null), (43, .aload_n 0, 1, 0, 0, .null), (44, .getfield 35, 3, 8, 10, .null), (47, .iload_n 2, 1, 2, 0, .null)],
  [(48, .iaload, 1, 0, 0, .null), (49, .iconst 1, 1, 0, 0, .int 1), (50, .if_icmp .ne 7, 3, 57, 0, .null), (53, .iconst 1, 1, 0, 0, .int 1), (54, .goto 4, 3, 58, 0, .null), (57, .iconst 0, 1, 0, 0, .int 0), (58, .bastore, 1, 0, 0, .null), (59, .aload_n 0, 1, 0, 0, .null), (60, .getfield 175, 3, 46, 10, .null), (63, .ifCond .eq 15, 3, 78, 0, .null)],
  [(66, .aload_n 0, 1, 0, 0, .null), (67, .iconst 0, 1, 0, 0, .int 0), (68, .putfield 175, 3, 46, 10, .null), (71, .aload_n 0, 1, 0, 0, .null), (72, .iload_n 1, 1, 1, 0, .null), (73, .iconst 3, 1, 0, 0, .int 3), (74, .invokevirtual 211, 3, 0, 3, .ref 10), (77, .return_, 1, 0, 0, .null), (78, .aload_n 0, 1, 0, 0, .null), (79, .getfield 38, 3, 9, 10, .null)],
  [(82, .iload_n 2, 1, 2, 0, .null), (83, .dup2, 1, 0, 0, .null), (84, .iaload, 1, 0, 0, .null), (85, .iload 4, 2, 4, 0, .null), (87, .isub, 1, 0, 0, .null), (88, .iastore, 1, 0, 0, .null), (89, .aload_n 0, 1, 0, 0, .null), (90, .getfield 98, 3, 30, 10, .null), (93, .iload_n 3, 1, 3, 0, .null), (94, .iload 4, 2, 4, 0, .null)],
  [(96, .iastore, 1, 0, 0, .null), (97, .return_, 1, 0, 0, .null)]]
def fX10_start : am_F := am_meth [fX10_breaksOff] [] 0 5 100000 pX10_start
def pX10_tries : am_P := [[(0, .aload_n 0, 1, 0, 0, .null), (1, .aload_n 0, 1, 0, 0, .null), (2, .getfield 53, 3, 15, 10, .null), (5, .iload_n 1, 1, 1, 0, .null), (6, .iaload, 1, 0, 0, .null), (7, .invokevirtual 162, 3, 0, 2, .ref 10), (10, .istore_n 2, 1, 2, 0, .null), (11, .iload_n 2, 1, 2, 0, .null), (12, .ifCond .ge 5, 3, 17, 0, .null), (15, .iconst 0, 1, 0, 0, .int 0)],
  [(16, .ireturn, 1, 0, 0, .null), (17, .aload_n 0, 1, 0, 0, .null), (18, .getfield 56, 3, 16, 10, .null), (21, .iload_n 1, 1, 1, 0, .null), (22, .iaload, 1, 0, 0, .null), (23, .istore_n 3, 1, 3, 0, .null), (24, .aload_n 0, 1, 0, 0, .null), (25, .getfield 77, 3, 23, 10, .null), (28, .iload_n 1, 1, 1, 0, .null), (29, .baload, 1, 0, 0, .null), (30, .ifCond .eq 20, 3, 50, 0, .null)],
  [(33, .aload_n 0, 1, 0, 0, .null), (34, .iload_n 3, 1, 3, 0, .null), (35, .iconst 0, 1, 0, 0, .int 0), (36, .invokevirtual 150, 3, 1, 3, .ref 10), (39, .aload_n 0, 1, 0, 0, .null), (40, .iload_n 3, 1, 3, 0, .null), (41, .bipush 13, 2, 0, 0, .int 13), (43, .invokevirtual 150, 3, 1, 3, .ref 10), (46, .idiv, 1, 0, 0, .null), (47, .goto 9, 3, 56, 0, .null)],
  [(50, .aload_n 0, 1, 0, 0, .null), (51, .iload_n 3, 1, 3, 0, .null), (52, .iconst 0, 1, 0, 0, .int 0), (53, .invokevirtual 150, 3, 1, 3, .ref 10), (56, .istore 4, 2, 4, 0, .null), (58, .aload_n 0, 1, 0, 0, .null), (59, .getfield 38, 3, 9, 10, .null), (62, .iload_n 2, 1, 2, 0, .null), (63, .iaload, 1, 0, 0, .null)],
  [(64, .iload 4, 2, 4, 0, .null), (66, .if_icmp .ge 11, 3, 77, 0, .null), (69, .aload_n 0, 1, 0, 0, .null), (70, .iload_n 1, 1, 1, 0, .null), (71, .iconst 1, 1, 0, 0, .int 1), (72, .invokevirtual 208, 3, 2, 3, .ref 10), (75, .iconst 0, 1, 0, 0, .int 0), (76, .ireturn, 1, 0, 0, .null), (77, .aload_n 0, 1, 0, 0, .null), (78, .iload_n 1, 1, 1, 0, .null), (79, .invokevirtual 258, 3, 3, 2, .ref 10)],
  [(82, .ifCond .ne 16, 3, 98, 0, .null), (85, .aload_n 0, 1, 0, 0, .null), (86, .iload_n 1, 1, 1, 0, .null), (87, .invokevirtual 201, 3, 4, 2, .ref 10), (90, .aload_n 0, 1, 0, 0, .null), (91, .iload_n 1, 1, 1, 0, .null), (92, .iconst 2, 1, 0, 0, .int 2), (93, .invokevirtual 208, 3, 2, 3, .ref 10)],
  [(96, .iconst 0, 1, 0, 0, .int 0), (97, .ireturn, 1, 0, 0, .null), (98, .aload_n 0, 1, 0, 0, .null), (99, .invokevirtual 261, 3, 5, 1, .ref 10), (102, .istore 5, 2, 5, 0, .null), (104, .iload 5, 2, 5, 0, .null), (106, .ifCond .lt 10, 3, 116, 0, .null), (109, .aload_n 0, 1, 0, 0, .null), (110, .invokevirtual 265, 3, 6, 1, .ref 10)],
  [(113, .ifCond .ne 10, 3, 123, 0, .null), (116, .aload_n 0, 1, 0, 0, .null), (117, .iload_n 1, 1, 1, 0, .null), (118, .invokevirtual 201, 3, 4, 2, .ref 10), (121, .iconst 0, 1, 0, 0, .int 0), (122, .ireturn, 1, 0, 0, .null), (123, .aload_n 0, 1, 0, 0, .null), (124, .iload_n 1, 1, 1, 0, .null), (125, .iload_n 2, 1, 2, 0, .null), (126, .iload 5, 2, 5, 0, .null)],
  [(128, .iload 4, 2, 4, 0, .null), (130, .invokevirtual 269, 3, 7, 5, .ref 10), (133, .iconst 1, 1, 0, 0, .int 1), (134, .ireturn, 1, 0, 0, .null)]]
def fX10_tries : am_F := am_meth [fX10_slotOf, fX10_of, fX10_fail, fX10_book, fX10_cancel, fX10_clean, fX10_allowed, fX10_start] [] 2 6 100000 pX10_tries
def pX10_startOne : am_P := [[(0, .iconst 1, 1, 0, 0, .int 1), (1, .istore_n 1, 1, 1, 0, .null), (2, .iload_n 1, 1, 1, 0, .null), (3, .ifCond .lt 63, 3, 66, 0, .null), (6, .iconst 0, 1, 0, 0, .int 0), (7, .istore_n 2, 1, 2, 0, .null), (8, .iload_n 2, 1, 2, 0, .null), (9, .aload_n 0, 1, 0, 0, .null), (10, .getfield 134, 3, 14, 10, .null), (13, .if_icmp .ge 47, 3, 60, 0, .null)],
  [(16, .aload_n 0, 1, 0, 0, .null), (17, .getfield 62, 3, 18, 10, .null), (20, .iload_n 2, 1, 2, 0, .null), (21, .iaload, 1, 0, 0, .null), (22, .ifCond .ne 32, 3, 54, 0, .null), (25, .aload_n 0, 1, 0, 0, .null), (26, .getfield 59, 3, 17, 10, .null), (29, .iload_n 2, 1, 2, 0, .null), (30, .baload, 1, 0, 0, .null), (31, .iload_n 1, 1, 1, 0, .null)],
  [(32, .iconst 1, 1, 0, 0, .int 1), (33, .if_icmp .ne 7, 3, 40, 0, .null), (36, .iconst 1, 1, 0, 0, .int 1), (37, .goto 4, 3, 41, 0, .null), (40, .iconst 0, 1, 0, 0, .int 0), (41, .if_icmp .ne 13, 3, 54, 0, .null), (44, .aload_n 0, 1, 0, 0, .null), (45, .iload_n 2, 1, 2, 0, .null), (46, .invokevirtual 273, 3, 0, 2, .ref 10)],
  [(49, .ifCond .eq 5, 3, 54, 0, .null), (52, .iload_n 2, 1, 2, 0, .null), (53, .ireturn, 1, 0, 0, .null), (54, .iinc 2 1, 3, 2, 0, .int 1), (57, .goto (-49), 3, 8, 0, .null), (60, .iinc 1 (-1), 3, 1, 0, .int (-1)), (63, .goto (-61), 3, 2, 0, .null)],
  [(66, .iconst (-1), 1, 0, 0, .int (-1)), (67, .ireturn, 1, 0, 0, .null)]]
def fX10_startOne : am_F := am_meth [fX10_tries] [] 1 3 100000 pX10_startOne
def pX10_step : am_P := [[(0, .aload_n 0, 1, 0, 0, .null), (1, .iconst 0, 1, 0, 0, .int 0), (2, .putfield 127, 3, 45, 10, .null), (5, .aload_n 0, 1, 0, 0, .null), (6, .dup, 1, 0, 0, .null), (7, .getfield 198, 3, 42, 10, .null), (10, .iconst 1, 1, 0, 0, .int 1), (11, .iadd, 1, 0, 0, .null), (12, .putfield 198, 3, 42, 10, .null), (15, .aload_n 0, 1, 0, 0, .null)],
  [(16, .invokevirtual 276, 3, 0, 1, .ref 10), (19, .aload_n 0, 1, 0, 0, .null), (20, .invokevirtual 279, 3, 1, 1, .ref 10), (23, .aload_n 0, 1, 0, 0, .null), (24, .invokevirtual 282, 3, 2, 1, .ref 10), (27, .iconst 0, 1, 0, 0, .int 0), (28, .istore_n 1, 1, 1, 0, .null), (29, .iload_n 1, 1, 1, 0, .null), (30, .aload_n 0, 1, 0, 0, .null), (31, .getfield 134, 3, 14, 10, .null)],
  [(34, .if_icmp .ge 45, 3, 79, 0, .null), (37, .aload_n 0, 1, 0, 0, .null), (38, .getfield 62, 3, 18, 10, .null), (41, .iload_n 1, 1, 1, 0, .null), (42, .iaload, 1, 0, 0, .null), (43, .iconst 1, 1, 0, 0, .int 1), (44, .if_icmp .ne 29, 3, 73, 0, .null), (47, .aload_n 0, 1, 0, 0, .null)],
  [(48, .getfield 74, 3, 22, 10, .null), (51, .iload_n 1, 1, 1, 0, .null), (52, .iaload, 1, 0, 0, .null), (53, .aload_n 0, 1, 0, 0, .null), (54, .aload_n 0, 1, 0, 0, .null), (55, .getfield 56, 3, 16, 10, .null), (58, .iload_n 1, 1, 1, 0, .null), (59, .iaload, 1, 0, 0, .null), (60, .bipush 8, 2, 0, 0, .int 8), (62, .invokevirtual 150, 3, 3, 3, .ref 10)],
  [(65, .if_icmp .le 8, 3, 73, 0, .null), (68, .aload_n 0, 1, 0, 0, .null), (69, .iload_n 1, 1, 1, 0, .null), (70, .invokevirtual 285, 3, 4, 2, .ref 10), (73, .iinc 1 1, 3, 1, 0, .int 1), (76, .goto (-47), 3, 29, 0, .null), (79, .aload_n 0, 1, 0, 0, .null)],
  [(80, .invokevirtual 288, 3, 5, 1, .ref 10), (83, .istore_n 1, 1, 1, 0, .null), (84, .iload_n 1, 1, 1, 0, .null), (85, .ifCond .ge 13, 3, 98, 0, .null), (88, .aload_n 0, 1, 0, 0, .null), (89, .dup, 1, 0, 0, .null), (90, .getfield 291, 3, 43, 10, .null), (93, .iconst 1, 1, 0, 0, .int 1), (94, .iadd, 1, 0, 0, .null), (95, .putfield 291, 3, 43, 10, .null)],
  [(98, .iload_n 1, 1, 1, 0, .null), (99, .ireturn, 1, 0, 0, .null)]]
def fX10_step : am_F := am_meth [fX10_goOn, fX10_give, fX10_measure, fX10_of, fX10_judge, fX10_startOne] [] 1 2 100000 pX10_step
def pX10_idle : am_P := [[(0, .aload_n 0, 1, 0, 0, .null), (1, .iconst 0, 1, 0, 0, .int 0), (2, .putfield 127, 3, 45, 10, .null), (5, .aload_n 0, 1, 0, 0, .null), (6, .getfield 291, 3, 43, 10, .null), (9, .ireturn, 1, 0, 0, .null)]]
def fX10_idle : am_F := am_meth [] [] 1 1 100000 pX10_idle
def pX10_state : am_P := [[(0, .aload_n 0, 1, 0, 0, .null), (1, .iload_n 1, 1, 1, 0, .null), (2, .ifCond .lt 25, 3, 27, 0, .null), (5, .iload_n 1, 1, 1, 0, .null), (6, .aload_n 0, 1, 0, 0, .null), (7, .getfield 134, 3, 14, 10, .null), (10, .if_icmp .ge 17, 3, 27, 0, .null), (13, .iload_n 2, 1, 2, 0, .null), (14, .iconst 0, 1, 0, 0, .int 0), (15, .bipush 6, 2, 0, 0, .int 6)],
  [(17, .invokestatic 130, 3, 0, 3, .null), (20, .ifCond .eq 7, 3, 27, 0, .null), (23, .iconst 0, 1, 0, 0, .int 0), (24, .goto 4, 3, 28, 0, .null), (27, .iconst 1, 1, 0, 0, .int 1), (28, .putfield 127, 3, 45, 10, .null), (31, .aload_n 0, 1, 0, 0, .null)],
  [(32, .getfield 127, 3, 45, 10, .null), (35, .ifCond .eq 5, 3, 40, 0, .null), (38, .iconst 0, 1, 0, 0, .int 0), (39, .ireturn, 1, 0, 0, .null), (40, .iload_n 2, 1, 2, 0, .null), (41, .tableswitch 95 0 5 #[39, 46, 53, 60, 67, 88], 39, 0, 0, .null)],
  [],
  [],
  [(80, .aload_n 0, 1, 0, 0, .null), (81, .getfield 62, 3, 18, 10, .null), (84, .iload_n 1, 1, 1, 0, .null), (85, .iaload, 1, 0, 0, .null), (86, .ireturn, 1, 0, 0, .null), (87, .aload_n 0, 1, 0, 0, .null), (88, .getfield 65, 3, 19, 10, .null), (91, .iload_n 1, 1, 1, 0, .null), (92, .iaload, 1, 0, 0, .null), (93, .ireturn, 1, 0, 0, .null), (94, .aload_n 0, 1, 0, 0, .null), (95, .getfield 68, 3, 20, 10, .null)],
  [(98, .iload_n 1, 1, 1, 0, .null), (99, .iaload, 1, 0, 0, .null), (100, .ireturn, 1, 0, 0, .null), (101, .aload_n 0, 1, 0, 0, .null), (102, .getfield 71, 3, 21, 10, .null), (105, .iload_n 1, 1, 1, 0, .null), (106, .iaload, 1, 0, 0, .null), (107, .ireturn, 1, 0, 0, .null), (108, .aload_n 0, 1, 0, 0, .null), (109, .getfield 62, 3, 18, 10, .null)],
  [(112, .iload_n 1, 1, 1, 0, .null), (113, .iaload, 1, 0, 0, .null), (114, .iconst 1, 1, 0, 0, .int 1), (115, .if_icmp .ne 12, 3, 127, 0, .null), (118, .aload_n 0, 1, 0, 0, .null), (119, .getfield 74, 3, 22, 10, .null), (122, .iload_n 1, 1, 1, 0, .null), (123, .iaload, 1, 0, 0, .null), (124, .goto 4, 3, 128, 0, .null), (127, .iconst (-1), 1, 0, 0, .int (-1))],
  [(128, .ireturn, 1, 0, 0, .null), (129, .aload_n 0, 1, 0, 0, .null), (130, .getfield 89, 3, 27, 10, .null), (133, .iload_n 1, 1, 1, 0, .null), (134, .iaload, 1, 0, 0, .null), (135, .ireturn, 1, 0, 0, .null), (136, .aload_n 0, 1, 0, 0, .null), (137, .getfield 92, 3, 28, 10, .null), (140, .iload_n 1, 1, 1, 0, .null), (141, .iaload, 1, 0, 0, .null), (142, .ireturn, 1, 0, 0, .null)]]
def fX10_state : am_F := am_meth [fX10_within] [] 1 3 100000 pX10_state
def pX10_cuvette : am_P := [[(0, .aload_n 0, 1, 0, 0, .null), (1, .iload_n 1, 1, 1, 0, .null), (2, .iconst 0, 1, 0, 0, .int 0), (3, .bipush 9, 2, 0, 0, .int 9), (5, .invokestatic 130, 3, 0, 3, .null), (8, .ifCond .eq 16, 3, 24, 0, .null), (11, .iload_n 2, 1, 2, 0, .null), (12, .iconst 0, 1, 0, 0, .int 0), (13, .iconst 2, 1, 0, 0, .int 2), (14, .invokestatic 130, 3, 0, 3, .null)],
  [(17, .ifCond .eq 7, 3, 24, 0, .null), (20, .iconst 0, 1, 0, 0, .int 0), (21, .goto 4, 3, 25, 0, .null), (24, .iconst 1, 1, 0, 0, .int 1), (25, .putfield 127, 3, 45, 10, .null), (28, .aload_n 0, 1, 0, 0, .null), (29, .getfield 127, 3, 45, 10, .null)],
  [(32, .ifCond .eq 5, 3, 37, 0, .null), (35, .iconst 0, 1, 0, 0, .int 0), (36, .ireturn, 1, 0, 0, .null), (37, .iload_n 2, 1, 2, 0, .null), (38, .iconst 1, 1, 0, 0, .int 1), (39, .if_icmp .ne 10, 3, 49, 0, .null), (42, .aload_n 0, 1, 0, 0, .null), (43, .getfield 95, 3, 29, 10, .null), (46, .iload_n 1, 1, 1, 0, .null), (47, .iaload, 1, 0, 0, .null)],
  [(48, .ireturn, 1, 0, 0, .null), (49, .iload_n 2, 1, 2, 0, .null), (50, .iconst 2, 1, 0, 0, .int 2), (51, .if_icmp .ne 10, 3, 61, 0, .null), (54, .aload_n 0, 1, 0, 0, .null), (55, .getfield 98, 3, 30, 10, .null), (58, .iload_n 1, 1, 1, 0, .null), (59, .iaload, 1, 0, 0, .null), (60, .ireturn, 1, 0, 0, .null), (61, .iconst 0, 1, 0, 0, .int 0), (62, .istore_n 3, 1, 3, 0, .null), (63, .iload_n 3, 1, 3, 0, .null)],
  [(64, .aload_n 0, 1, 0, 0, .null), (65, .getfield 134, 3, 14, 10, .null), (68, .if_icmp .ge 21, 3, 89, 0, .null), (71, .aload_n 0, 1, 0, 0, .null), (72, .getfield 71, 3, 21, 10, .null), (75, .iload_n 3, 1, 3, 0, .null), (76, .iaload, 1, 0, 0, .null), (77, .iload_n 1, 1, 1, 0, .null), (78, .if_icmp .ne 5, 3, 83, 0, .null)],
  [(81, .iload_n 3, 1, 3, 0, .null), (82, .ireturn, 1, 0, 0, .null), (83, .iinc 3 1, 3, 3, 0, .int 1), (86, .goto (-23), 3, 63, 0, .null), (89, .iconst (-1), 1, 0, 0, .int (-1)), (90, .ireturn, 1, 0, 0, .null)]]
def fX10_cuvette : am_F := am_meth [fX10_within] [] 1 4 100000 pX10_cuvette
def pX10_volume : am_P := [[(0, .iload_n 1, 1, 1, 0, .null), (1, .iconst 0, 1, 0, 0, .int 0), (2, .iconst 2, 1, 0, 0, .int 2), (3, .invokestatic 130, 3, 0, 3, .null), (6, .ifCond .eq 25, 3, 31, 0, .null), (9, .iload_n 2, 1, 2, 0, .null), (10, .iconst 0, 1, 0, 0, .int 0), (11, .iload_n 1, 1, 1, 0, .null), (12, .ifCond .ne 7, 3, 19, 0, .null), (15, .iconst 5, 1, 0, 0, .int 5)],
  [(16, .goto 5, 3, 21, 0, .null), (19, .bipush 7, 2, 0, 0, .int 7), (21, .invokestatic 130, 3, 0, 3, .null), (24, .ifCond .eq 7, 3, 31, 0, .null), (27, .iconst 1, 1, 0, 0, .int 1), (28, .goto 4, 3, 32, 0, .null), (31, .iconst 0, 1, 0, 0, .int 0)],
  [(32, .istore_n 3, 1, 3, 0, .null), (33, .aload_n 0, 1, 0, 0, .null), (34, .iload_n 3, 1, 3, 0, .null), (35, .ifCond .ne 7, 3, 42, 0, .null), (38, .iconst 1, 1, 0, 0, .int 1), (39, .goto 33, 3, 72, 0, .null), (42, .iload_n 1, 1, 1, 0, .null), (43, .ifCond .ne 15, 3, 58, 0, .null), (46, .aload_n 0, 1, 0, 0, .null), (47, .getfield 32, 3, 7, 10, .null)],
  [(50, .iload_n 2, 1, 2, 0, .null), (51, .iaload, 1, 0, 0, .null), (52, .ifCond .ne 19, 3, 71, 0, .null), (55, .goto 12, 3, 67, 0, .null), (58, .aload_n 0, 1, 0, 0, .null), (59, .getfield 41, 3, 10, 10, .null), (62, .iload_n 2, 1, 2, 0, .null), (63, .iaload, 1, 0, 0, .null)],
  [(64, .ifCond .ge 7, 3, 71, 0, .null), (67, .iconst 2, 1, 0, 0, .int 2), (68, .goto 4, 3, 72, 0, .null), (71, .iconst 0, 1, 0, 0, .int 0), (72, .putfield 127, 3, 45, 10, .null), (75, .aload_n 0, 1, 0, 0, .null), (76, .getfield 127, 3, 45, 10, .null), (79, .ifCond .eq 5, 3, 84, 0, .null)],
  [(82, .iconst 0, 1, 0, 0, .int 0), (83, .ireturn, 1, 0, 0, .null), (84, .iload_n 1, 1, 1, 0, .null), (85, .ifCond .ne 12, 3, 97, 0, .null), (88, .aload_n 0, 1, 0, 0, .null), (89, .getfield 38, 3, 9, 10, .null), (92, .iload_n 2, 1, 2, 0, .null), (93, .iaload, 1, 0, 0, .null), (94, .goto 22, 3, 116, 0, .null)],
  [(97, .iload_n 1, 1, 1, 0, .null), (98, .iconst 1, 1, 0, 0, .int 1), (99, .if_icmp .ne 12, 3, 111, 0, .null), (102, .aload_n 0, 1, 0, 0, .null), (103, .getfield 44, 3, 11, 10, .null), (106, .iload_n 2, 1, 2, 0, .null), (107, .iaload, 1, 0, 0, .null), (108, .goto 8, 3, 116, 0, .null), (111, .aload_n 0, 1, 0, 0, .null)],
  [(112, .iload_n 2, 1, 2, 0, .null), (113, .invokevirtual 169, 3, 1, 2, .ref 10), (116, .ireturn, 1, 0, 0, .null)]]
def fX10_volume : am_F := am_meth [fX10_within, fX10_reserved] [] 1 4 100000 pX10_volume
def pX10_trend : am_P := [[(0, .aload_n 0, 1, 0, 0, .null), (1, .iload_n 1, 1, 1, 0, .null), (2, .invokestatic 138, 3, 0, 1, .null), (5, .ifCond .ne 7, 3, 12, 0, .null), (8, .iconst 1, 1, 0, 0, .int 1), (9, .goto 22, 3, 31, 0, .null), (12, .iload_n 2, 1, 2, 0, .null), (13, .ifCond .lt 13, 3, 26, 0, .null)],
  [(16, .iload_n 2, 1, 2, 0, .null), (17, .aload_n 0, 1, 0, 0, .null), (18, .getfield 29, 3, 6, 10, .null), (21, .iload_n 1, 1, 1, 0, .null), (22, .iaload, 1, 0, 0, .null), (23, .if_icmp .lt 7, 3, 30, 0, .null), (26, .iconst 2, 1, 0, 0, .int 2), (27, .goto 4, 3, 31, 0, .null), (30, .iconst 0, 1, 0, 0, .int 0), (31, .putfield 127, 3, 45, 10, .null)],
  [(34, .aload_n 0, 1, 0, 0, .null), (35, .getfield 127, 3, 45, 10, .null), (38, .ifCond .eq 7, 3, 45, 0, .null), (41, .iconst 0, 1, 0, 0, .int 0), (42, .goto 23, 3, 65, 0, .null), (45, .aload_n 0, 1, 0, 0, .null), (46, .getfield 26, 3, 5, 10, .null)],
  [(49, .bipush 10, 2, 0, 0, .int 10), (51, .iload_n 1, 1, 1, 0, .null), (52, .imul, 1, 0, 0, .null), (53, .aload_n 0, 1, 0, 0, .null), (54, .getfield 29, 3, 6, 10, .null), (57, .iload_n 1, 1, 1, 0, .null), (58, .iaload, 1, 0, 0, .null), (59, .iadd, 1, 0, 0, .null), (60, .iconst 1, 1, 0, 0, .int 1), (61, .isub, 1, 0, 0, .null), (62, .iload_n 2, 1, 2, 0, .null), (63, .isub, 1, 0, 0, .null)],
  [(64, .iaload, 1, 0, 0, .null), (65, .ireturn, 1, 0, 0, .null)]]
def fX10_trend : am_F := am_meth [fX10_isTest] [] 1 3 100000 pX10_trend
def pX10_above : am_P := [[(0, .aload_n 0, 1, 0, 0, .null), (1, .getfield 26, 3, 5, 10, .null), (4, .bipush 10, 2, 0, 0, .int 10), (6, .iload_n 1, 1, 1, 0, .null), (7, .imul, 1, 0, 0, .null), (8, .aload_n 0, 1, 0, 0, .null), (9, .getfield 29, 3, 6, 10, .null), (12, .iload_n 1, 1, 1, 0, .null), (13, .iaload, 1, 0, 0, .null), (14, .iadd, 1, 0, 0, .null), (15, .iconst 1, 1, 0, 0, .int 1)],
  [(16, .isub, 1, 0, 0, .null), (17, .iload_n 2, 1, 2, 0, .null), (18, .isub, 1, 0, 0, .null), (19, .iaload, 1, 0, 0, .null), (20, .i2l, 1, 0, 0, .null), (21, .aload_n 0, 1, 0, 0, .null), (22, .iload_n 1, 1, 1, 0, .null), (23, .bipush 14, 2, 0, 0, .int 14), (25, .invokevirtual 150, 3, 0, 3, .ref 10), (28, .i2l, 1, 0, 0, .null), (29, .lsub, 1, 0, 0, .null), (30, .lreturn, 1, 0, 0, .null)]]
def fX10_above : am_F := am_meth [fX10_of] [] 3 3 100000 pX10_above
def pX10_rules : am_P := [[(0, .aload_n 0, 1, 0, 0, .null), (1, .iload_n 1, 1, 1, 0, .null), (2, .invokestatic 138, 3, 0, 1, .null), (5, .ifCond .eq 7, 3, 12, 0, .null), (8, .iconst 0, 1, 0, 0, .int 0), (9, .goto 4, 3, 13, 0, .null), (12, .iconst 1, 1, 0, 0, .int 1), (13, .putfield 127, 3, 45, 10, .null)],
  [(16, .aload_n 0, 1, 0, 0, .null), (17, .getfield 127, 3, 45, 10, .null), (20, .ifCond .ne 12, 3, 32, 0, .null), (23, .aload_n 0, 1, 0, 0, .null), (24, .getfield 29, 3, 6, 10, .null), (27, .iload_n 1, 1, 1, 0, .null), (28, .iaload, 1, 0, 0, .null), (29, .ifCond .ne 5, 3, 34, 0, .null)],
  [(32, .iconst 0, 1, 0, 0, .int 0), (33, .ireturn, 1, 0, 0, .null), (34, .aload_n 0, 1, 0, 0, .null), (35, .iload_n 1, 1, 1, 0, .null), (36, .bipush 15, 2, 0, 0, .int 15), (38, .invokevirtual 150, 3, 1, 3, .ref 10), (41, .i2l, 1, 0, 0, .null), (42, .lstore_n 2, 1, 2, 0, .null), (43, .aload_n 0, 1, 0, 0, .null), (44, .iload_n 1, 1, 1, 0, .null), (45, .iconst 0, 1, 0, 0, .int 0), (46, .invokevirtual 294, 3, 2, 3, .ref 10)],
  [(49, .ldc2_w 298, 3, 0, 0, .long 3), (52, .lload_n 2, 1, 2, 0, .null), (53, .lmul, 1, 0, 0, .null), (54, .lcmp, 1, 0, 0, .null), (55, .ifCond .gt 18, 3, 73, 0, .null), (58, .aload_n 0, 1, 0, 0, .null), (59, .iload_n 1, 1, 1, 0, .null), (60, .iconst 0, 1, 0, 0, .int 0), (61, .invokevirtual 294, 3, 2, 3, .ref 10)],
  [(64, .ldc2_w 300, 3, 0, 0, .long (-3)), (67, .lload_n 2, 1, 2, 0, .null), (68, .lmul, 1, 0, 0, .null), (69, .lcmp, 1, 0, 0, .null), (70, .ifCond .ge 7, 3, 77, 0, .null), (73, .iconst 1, 1, 0, 0, .int 1), (74, .goto 4, 3, 78, 0, .null), (77, .iconst 0, 1, 0, 0, .int 0), (78, .istore 4, 2, 4, 0, .null)],
  [(80, .iconst 0, 1, 0, 0, .int 0), (81, .istore 5, 2, 5, 0, .null), (83, .iconst 0, 1, 0, 0, .int 0), (84, .istore 6, 2, 6, 0, .null), (86, .iconst 0, 1, 0, 0, .int 0), (87, .istore 7, 2, 7, 0, .null), (89, .iload 7, 2, 7, 0, .null), (91, .iconst 3, 1, 0, 0, .int 3), (92, .if_icmp .ge 58, 3, 150, 0, .null), (95, .iload 7, 2, 7, 0, .null)],
  [(97, .aload_n 0, 1, 0, 0, .null), (98, .getfield 29, 3, 6, 10, .null), (101, .iload_n 1, 1, 1, 0, .null), (102, .iaload, 1, 0, 0, .null), (103, .if_icmp .ge 47, 3, 150, 0, .null), (106, .aload_n 0, 1, 0, 0, .null), (107, .iload_n 1, 1, 1, 0, .null), (108, .iload 7, 2, 7, 0, .null), (110, .invokevirtual 294, 3, 2, 3, .ref 10)],
  [(113, .ldc2_w 218, 3, 0, 0, .long 2), (116, .lload_n 2, 1, 2, 0, .null), (117, .lmul, 1, 0, 0, .null), (118, .lcmp, 1, 0, 0, .null), (119, .ifCond .le 6, 3, 125, 0, .null), (122, .iinc 5 1, 3, 5, 0, .int 1), (125, .aload_n 0, 1, 0, 0, .null), (126, .iload_n 1, 1, 1, 0, .null), (127, .iload 7, 2, 7, 0, .null)],
  [(129, .invokevirtual 294, 3, 2, 3, .ref 10), (132, .ldc2_w 224, 3, 0, 0, .long (-2)), (135, .lload_n 2, 1, 2, 0, .null), (136, .lmul, 1, 0, 0, .null), (137, .lcmp, 1, 0, 0, .null), (138, .ifCond .ge 6, 3, 144, 0, .null), (141, .iinc 6 1, 3, 6, 0, .int 1)],
  [(144, .iinc 7 1, 3, 7, 0, .int 1), (147, .goto (-58), 3, 89, 0, .null), (150, .iload 5, 2, 5, 0, .null), (152, .iconst 2, 1, 0, 0, .int 2), (153, .if_icmp .ge 9, 3, 162, 0, .null), (156, .iload 6, 2, 6, 0, .null), (158, .iconst 2, 1, 0, 0, .int 2), (159, .if_icmp .lt 6, 3, 165, 0, .null)],
  [(162, .iinc 4 2, 3, 4, 0, .int 2), (165, .iconst 0, 1, 0, 0, .int 0), (166, .istore 7, 2, 7, 0, .null), (168, .iconst 0, 1, 0, 0, .int 0), (169, .istore 8, 2, 8, 0, .null), (171, .iconst 0, 1, 0, 0, .int 0), (172, .istore 9, 2, 9, 0, .null), (174, .iload 9, 2, 9, 0, .null)],
  [(176, .aload_n 0, 1, 0, 0, .null), (177, .getfield 29, 3, 6, 10, .null), (180, .iload_n 1, 1, 1, 0, .null), (181, .iaload, 1, 0, 0, .null), (182, .if_icmp .ge 39, 3, 221, 0, .null), (185, .aload_n 0, 1, 0, 0, .null), (186, .iload_n 1, 1, 1, 0, .null), (187, .iload 9, 2, 9, 0, .null), (189, .invokevirtual 294, 3, 2, 3, .ref 10)],
  [(192, .lconst 0, 1, 0, 0, .long 0), (193, .lcmp, 1, 0, 0, .null), (194, .ifCond .le 6, 3, 200, 0, .null), (197, .iinc 7 1, 3, 7, 0, .int 1), (200, .aload_n 0, 1, 0, 0, .null), (201, .iload_n 1, 1, 1, 0, .null), (202, .iload 9, 2, 9, 0, .null), (204, .invokevirtual 294, 3, 2, 3, .ref 10), (207, .lconst 0, 1, 0, 0, .long 0)],
  [(208, .lcmp, 1, 0, 0, .null), (209, .ifCond .ge 6, 3, 215, 0, .null), (212, .iinc 8 1, 3, 8, 0, .int 1), (215, .iinc 9 1, 3, 9, 0, .int 1), (218, .goto (-44), 3, 174, 0, .null), (221, .iload 7, 2, 7, 0, .null), (223, .bipush 10, 2, 0, 0, .int 10)],
  [(225, .if_icmp .eq 10, 3, 235, 0, .null), (228, .iload 8, 2, 8, 0, .null), (230, .bipush 10, 2, 0, 0, .int 10), (232, .if_icmp .ne 10, 3, 242, 0, .null), (235, .iload 4, 2, 4, 0, .null), (237, .iconst 4, 1, 0, 0, .int 4), (238, .iadd, 1, 0, 0, .null), (239, .goto 5, 3, 244, 0, .null)],
  [(242, .iload 4, 2, 4, 0, .null), (244, .ireturn, 1, 0, 0, .null)]]
def fX10_rules : am_F := am_meth [fX10_isTest, fX10_of, fX10_above] [] 1 10 100000 pX10_rules
def pX10_host : am_P := [[(0, .aload_n 0, 1, 0, 0, .null), (1, .iload_n 1, 1, 1, 0, .null), (2, .ifCond .lt 11, 3, 13, 0, .null), (5, .iload_n 1, 1, 1, 0, .null), (6, .aload_n 0, 1, 0, 0, .null), (7, .getfield 231, 3, 40, 10, .null), (10, .if_icmp .lt 7, 3, 17, 0, .null), (13, .iconst 1, 1, 0, 0, .int 1), (14, .goto 4, 3, 18, 0, .null)],
  [(17, .iconst 0, 1, 0, 0, .int 0), (18, .putfield 127, 3, 45, 10, .null), (21, .aload_n 0, 1, 0, 0, .null), (22, .getfield 127, 3, 45, 10, .null), (25, .ifCond .eq 7, 3, 32, 0, .null), (28, .iconst 0, 1, 0, 0, .int 0), (29, .goto 9, 3, 38, 0, .null)],
  [(32, .aload_n 0, 1, 0, 0, .null), (33, .getfield 120, 3, 39, 10, .null), (36, .iload_n 1, 1, 1, 0, .null), (37, .iaload, 1, 0, 0, .null), (38, .ireturn, 1, 0, 0, .null)]]
def fX10_host : am_F := am_meth [] [] 1 2 100000 pX10_host
def pX10_took : am_P := [[(0, .aload_n 0, 1, 0, 0, .null), (1, .iload_n 1, 1, 1, 0, .null), (2, .ifCond .lt 11, 3, 13, 0, .null), (5, .iload_n 1, 1, 1, 0, .null), (6, .aload_n 0, 1, 0, 0, .null), (7, .getfield 231, 3, 40, 10, .null), (10, .if_icmp .le 7, 3, 17, 0, .null), (13, .iconst 1, 1, 0, 0, .int 1), (14, .goto 4, 3, 18, 0, .null)],
  [(17, .iconst 0, 1, 0, 0, .int 0), (18, .putfield 127, 3, 45, 10, .null), (21, .aload_n 0, 1, 0, 0, .null), (22, .getfield 127, 3, 45, 10, .null), (25, .ifCond .eq 5, 3, 30, 0, .null), (28, .iconst 0, 1, 0, 0, .int 0), (29, .ireturn, 1, 0, 0, .null), (30, .iload_n 1, 1, 1, 0, .null), (31, .istore_n 2, 1, 2, 0, .null)],
  [(32, .iload_n 2, 1, 2, 0, .null), (33, .aload_n 0, 1, 0, 0, .null), (34, .getfield 231, 3, 40, 10, .null), (37, .if_icmp .ge 23, 3, 60, 0, .null), (40, .aload_n 0, 1, 0, 0, .null), (41, .getfield 120, 3, 39, 10, .null), (44, .iload_n 2, 1, 2, 0, .null), (45, .iload_n 1, 1, 1, 0, .null), (46, .isub, 1, 0, 0, .null), (47, .aload_n 0, 1, 0, 0, .null)],
  [(48, .getfield 120, 3, 39, 10, .null), (51, .iload_n 2, 1, 2, 0, .null), (52, .iaload, 1, 0, 0, .null), (53, .iastore, 1, 0, 0, .null), (54, .iinc 2 1, 3, 2, 0, .int 1), (57, .goto (-25), 3, 32, 0, .null), (60, .aload_n 0, 1, 0, 0, .null), (61, .dup, 1, 0, 0, .null), (62, .getfield 231, 3, 40, 10, .null)],
  [(65, .iload_n 1, 1, 1, 0, .null), (66, .isub, 1, 0, 0, .null), (67, .putfield 231, 3, 40, 10, .null), (70, .aload_n 0, 1, 0, 0, .null), (71, .getfield 231, 3, 40, 10, .null), (74, .ireturn, 1, 0, 0, .null)]]
def fX10_took : am_F := am_meth [] [] 1 3 100000 pX10_took
def pL_define : am_P := [[(0, .aload_n 0, 1, 0, 0, .null), (1, .iload_n 1, 1, 1, 0, .null), (2, .iload_n 2, 1, 2, 0, .null), (3, .iload_n 3, 1, 3, 0, .null), (4, .invokevirtual 7, 3, 0, 4, .ref 9), (7, .goto 11, 3, 18, 0, .null), (10, .astore 4, 2, 4, 0, .null), (12, .iconst 1, 1, 0, 0, .int 1), (13, .ireturn, 1, 0, 0, .null), (14, .astore 4, 2, 4, 0, .null)],
  [(16, .iconst 2, 1, 0, 0, .int 2), (17, .ireturn, 1, 0, 0, .null), (18, .iconst 0, 1, 0, 0, .int 0), (19, .ireturn, 1, 0, 0, .null)]]
def fL_define : am_F := am_meth [fX9_define] [(0, 7, "java/lang/IllegalArgumentException", .int 1), (0, 7, "java/lang/IllegalStateException", .int 2)] 1 5 100000 pL_define
def pL_curve : am_P := [[(0, .aload 4, 2, 4, 0, .null), (2, .iconst 0, 1, 0, 0, .int 0), (3, .aload_n 0, 1, 0, 0, .null), (4, .iload_n 1, 1, 1, 0, .null), (5, .iload_n 2, 1, 2, 0, .null), (6, .iload_n 3, 1, 3, 0, .null), (7, .invokevirtual 17, 3, 0, 4, .ref 9), (10, .i2l, 1, 0, 0, .null), (11, .lastore, 1, 0, 0, .null), (12, .goto 11, 3, 23, 0, .null), (15, .astore 5, 2, 5, 0, .null)],
  [(17, .iconst 1, 1, 0, 0, .int 1), (18, .ireturn, 1, 0, 0, .null), (19, .astore 5, 2, 5, 0, .null), (21, .iconst 2, 1, 0, 0, .int 2), (22, .ireturn, 1, 0, 0, .null), (23, .iconst 0, 1, 0, 0, .int 0), (24, .ireturn, 1, 0, 0, .null)]]
def fL_curve : am_F := am_meth [fX9_curve] [(0, 12, "java/lang/IllegalArgumentException", .int 1), (0, 12, "java/lang/IllegalStateException", .int 2)] 1 6 100000 pL_curve
def pL_seal : am_P := [[(0, .aload_n 2, 1, 2, 0, .null), (1, .iconst 0, 1, 0, 0, .int 0), (2, .aload_n 0, 1, 0, 0, .null), (3, .iload_n 1, 1, 1, 0, .null), (4, .invokevirtual 21, 3, 0, 2, .ref 9), (7, .ifCond .eq 7, 3, 14, 0, .null), (10, .lconst 1, 1, 0, 0, .long 1), (11, .goto 4, 3, 15, 0, .null), (14, .lconst 0, 1, 0, 0, .long 0), (15, .lastore, 1, 0, 0, .null)],
  [(16, .goto 6, 3, 22, 0, .null), (19, .astore_n 3, 1, 3, 0, .null), (20, .iconst 1, 1, 0, 0, .int 1), (21, .ireturn, 1, 0, 0, .null), (22, .iconst 0, 1, 0, 0, .int 0), (23, .ireturn, 1, 0, 0, .null)]]
def fL_seal : am_F := am_meth [fX9_seal] [(0, 16, "java/lang/IllegalArgumentException", .int 1)] 1 4 100000 pL_seal
def pL_rack : am_P := [[(0, .aload_n 0, 1, 0, 0, .null), (1, .iload_n 1, 1, 1, 0, .null), (2, .iload_n 2, 1, 2, 0, .null), (3, .iload_n 3, 1, 3, 0, .null), (4, .iload 4, 2, 4, 0, .null), (6, .invokevirtual 25, 3, 0, 5, .ref 9), (9, .goto 11, 3, 20, 0, .null), (12, .astore 5, 2, 5, 0, .null), (14, .iconst 1, 1, 0, 0, .int 1), (15, .ireturn, 1, 0, 0, .null)],
  [(16, .astore 5, 2, 5, 0, .null), (18, .iconst 2, 1, 0, 0, .int 2), (19, .ireturn, 1, 0, 0, .null), (20, .iconst 0, 1, 0, 0, .int 0), (21, .ireturn, 1, 0, 0, .null)]]
def fL_rack : am_F := am_meth [fX9_rack] [(0, 9, "java/lang/IllegalArgumentException", .int 1), (0, 9, "java/lang/IllegalStateException", .int 2)] 1 6 100000 pL_rack
def pL_removeRack : am_P := [[(0, .aload_n 2, 1, 2, 0, .null), (1, .iconst 0, 1, 0, 0, .int 0), (2, .aload_n 0, 1, 0, 0, .null), (3, .iload_n 1, 1, 1, 0, .null), (4, .invokevirtual 29, 3, 0, 2, .ref 9), (7, .i2l, 1, 0, 0, .null), (8, .lastore, 1, 0, 0, .null), (9, .goto 12, 3, 21, 0, .null), (12, .astore_n 3, 1, 3, 0, .null), (13, .iconst 1, 1, 0, 0, .int 1), (14, .ireturn, 1, 0, 0, .null), (15, .astore_n 3, 1, 3, 0, .null)],
  [(16, .iconst 2, 1, 0, 0, .int 2), (17, .ireturn, 1, 0, 0, .null), (18, .astore_n 3, 1, 3, 0, .null), (19, .iconst 3, 1, 0, 0, .int 3), (20, .ireturn, 1, 0, 0, .null), (21, .iconst 0, 1, 0, 0, .int 0), (22, .ireturn, 1, 0, 0, .null)]]
def fL_removeRack : am_F := am_meth [fX9_removeRack] [(0, 9, "java/lang/IllegalArgumentException", .int 1), (0, 9, "java/util/NoSuchElementException", .int 2), (0, 9, "java/lang/IllegalStateException", .int 3)] 1 4 100000 pL_removeRack
def pL_reagent : am_P := [[(0, .aload_n 0, 1, 0, 0, .null), (1, .iload_n 1, 1, 1, 0, .null), (2, .iload_n 2, 1, 2, 0, .null), (3, .iload_n 3, 1, 3, 0, .null), (4, .iload 4, 2, 4, 0, .null), (6, .invokevirtual 35, 3, 0, 5, .ref 9), (9, .goto 11, 3, 20, 0, .null), (12, .astore 5, 2, 5, 0, .null), (14, .iconst 1, 1, 0, 0, .int 1), (15, .ireturn, 1, 0, 0, .null)],
  [(16, .astore 5, 2, 5, 0, .null), (18, .iconst 2, 1, 0, 0, .int 2), (19, .ireturn, 1, 0, 0, .null), (20, .iconst 0, 1, 0, 0, .int 0), (21, .ireturn, 1, 0, 0, .null)]]
def fL_reagent : am_F := am_meth [fX9_reagent] [(0, 9, "java/lang/IllegalArgumentException", .int 1), (0, 9, "java/lang/IllegalStateException", .int 2)] 1 6 100000 pL_reagent
def pL_forbid : am_P := [[(0, .aload_n 3, 1, 3, 0, .null), (1, .iconst 0, 1, 0, 0, .int 0), (2, .aload_n 0, 1, 0, 0, .null), (3, .iload_n 1, 1, 1, 0, .null), (4, .iload_n 2, 1, 2, 0, .null), (5, .invokevirtual 38, 3, 0, 3, .ref 9), (8, .ifCond .eq 7, 3, 15, 0, .null), (11, .lconst 1, 1, 0, 0, .long 1), (12, .goto 4, 3, 16, 0, .null), (15, .lconst 0, 1, 0, 0, .long 0)],
  [(16, .lastore, 1, 0, 0, .null), (17, .goto 7, 3, 24, 0, .null), (20, .astore 4, 2, 4, 0, .null), (22, .iconst 1, 1, 0, 0, .int 1), (23, .ireturn, 1, 0, 0, .null), (24, .iconst 0, 1, 0, 0, .int 0), (25, .ireturn, 1, 0, 0, .null)]]
def fL_forbid : am_F := am_meth [fX9_forbid] [(0, 17, "java/lang/IllegalArgumentException", .int 1)] 1 5 100000 pL_forbid
def pL_order : am_P := [[(0, .aload 4, 2, 4, 0, .null), (2, .iconst 0, 1, 0, 0, .int 0), (3, .aload_n 0, 1, 0, 0, .null), (4, .iload_n 1, 1, 1, 0, .null), (5, .iload_n 2, 1, 2, 0, .null), (6, .iload_n 3, 1, 3, 0, .null), (7, .invokevirtual 42, 3, 0, 4, .ref 9), (10, .i2l, 1, 0, 0, .null), (11, .lastore, 1, 0, 0, .null), (12, .goto 11, 3, 23, 0, .null), (15, .astore 5, 2, 5, 0, .null)],
  [(17, .iconst 1, 1, 0, 0, .int 1), (18, .ireturn, 1, 0, 0, .null), (19, .astore 5, 2, 5, 0, .null), (21, .iconst 2, 1, 0, 0, .int 2), (22, .ireturn, 1, 0, 0, .null), (23, .iconst 0, 1, 0, 0, .int 0), (24, .ireturn, 1, 0, 0, .null)]]
def fL_order : am_F := am_meth [fX9_order] [(0, 12, "java/lang/IllegalArgumentException", .int 1), (0, 12, "java/lang/IllegalStateException", .int 2)] 1 6 100000 pL_order
def pL_clock : am_P := [[(0, .aload_n 0, 1, 0, 0, .null), (1, .iload_n 1, 1, 1, 0, .null), (2, .invokevirtual 46, 3, 0, 2, .ref 9), (5, .goto 6, 3, 11, 0, .null), (8, .astore_n 2, 1, 2, 0, .null), (9, .iconst 1, 1, 0, 0, .int 1), (10, .ireturn, 1, 0, 0, .null), (11, .iconst 0, 1, 0, 0, .int 0), (12, .ireturn, 1, 0, 0, .null)]]
def fL_clock : am_F := am_meth [fX9_clock] [(0, 5, "java/lang/IllegalArgumentException", .int 1)] 1 3 100000 pL_clock
def pL_light : am_P := [[(0, .aload_n 0, 1, 0, 0, .null), (1, .iload_n 1, 1, 1, 0, .null), (2, .invokevirtual 50, 3, 0, 2, .ref 9), (5, .goto 6, 3, 11, 0, .null), (8, .astore_n 2, 1, 2, 0, .null), (9, .iconst 1, 1, 0, 0, .int 1), (10, .ireturn, 1, 0, 0, .null), (11, .iconst 0, 1, 0, 0, .int 0), (12, .ireturn, 1, 0, 0, .null)]]
def fL_light : am_F := am_meth [fX9_light] [(0, 5, "java/lang/IllegalArgumentException", .int 1)] 1 3 100000 pL_light
def pL_spoil : am_P := [[(0, .aload_n 0, 1, 0, 0, .null), (1, .iload_n 1, 1, 1, 0, .null), (2, .invokevirtual 53, 3, 0, 2, .ref 9), (5, .goto 6, 3, 11, 0, .null), (8, .astore_n 2, 1, 2, 0, .null), (9, .iconst 1, 1, 0, 0, .int 1), (10, .ireturn, 1, 0, 0, .null), (11, .iconst 0, 1, 0, 0, .int 0), (12, .ireturn, 1, 0, 0, .null)]]
def fL_spoil : am_F := am_meth [fX9_spoil] [(0, 5, "java/lang/IllegalArgumentException", .int 1)] 1 3 100000 pL_spoil
def pL_state : am_P := [[(0, .aload_n 3, 1, 3, 0, .null), (1, .iconst 0, 1, 0, 0, .int 0), (2, .aload_n 0, 1, 0, 0, .null), (3, .iload_n 1, 1, 1, 0, .null), (4, .iload_n 2, 1, 2, 0, .null), (5, .invokevirtual 56, 3, 0, 3, .ref 9), (8, .i2l, 1, 0, 0, .null), (9, .lastore, 1, 0, 0, .null), (10, .goto 7, 3, 17, 0, .null), (13, .astore 4, 2, 4, 0, .null), (15, .iconst 1, 1, 0, 0, .int 1)],
  [(16, .ireturn, 1, 0, 0, .null), (17, .iconst 0, 1, 0, 0, .int 0), (18, .ireturn, 1, 0, 0, .null)]]
def fL_state : am_F := am_meth [fX9_state] [(0, 10, "java/lang/IllegalArgumentException", .int 1)] 1 5 100000 pL_state
def pL_cuvette : am_P := [[(0, .aload_n 3, 1, 3, 0, .null), (1, .iconst 0, 1, 0, 0, .int 0), (2, .aload_n 0, 1, 0, 0, .null), (3, .iload_n 1, 1, 1, 0, .null), (4, .iload_n 2, 1, 2, 0, .null), (5, .invokevirtual 60, 3, 0, 3, .ref 9), (8, .i2l, 1, 0, 0, .null), (9, .lastore, 1, 0, 0, .null), (10, .goto 7, 3, 17, 0, .null), (13, .astore 4, 2, 4, 0, .null), (15, .iconst 1, 1, 0, 0, .int 1)],
  [(16, .ireturn, 1, 0, 0, .null), (17, .iconst 0, 1, 0, 0, .int 0), (18, .ireturn, 1, 0, 0, .null)]]
def fL_cuvette : am_F := am_meth [fX9_cuvette] [(0, 10, "java/lang/IllegalArgumentException", .int 1)] 1 5 100000 pL_cuvette
def pL_volume : am_P := [[(0, .aload_n 3, 1, 3, 0, .null), (1, .iconst 0, 1, 0, 0, .int 0), (2, .aload_n 0, 1, 0, 0, .null), (3, .iload_n 1, 1, 1, 0, .null), (4, .iload_n 2, 1, 2, 0, .null), (5, .invokevirtual 63, 3, 0, 3, .ref 9), (8, .i2l, 1, 0, 0, .null), (9, .lastore, 1, 0, 0, .null), (10, .goto 11, 3, 21, 0, .null), (13, .astore 4, 2, 4, 0, .null), (15, .iconst 1, 1, 0, 0, .int 1)],
  [(16, .ireturn, 1, 0, 0, .null), (17, .astore 4, 2, 4, 0, .null), (19, .iconst 2, 1, 0, 0, .int 2), (20, .ireturn, 1, 0, 0, .null), (21, .iconst 0, 1, 0, 0, .int 0), (22, .ireturn, 1, 0, 0, .null)]]
def fL_volume : am_F := am_meth [fX9_volume] [(0, 10, "java/lang/IllegalArgumentException", .int 1), (0, 10, "java/util/NoSuchElementException", .int 2)] 1 5 100000 pL_volume
def pL_trend : am_P := [[(0, .aload_n 3, 1, 3, 0, .null), (1, .iconst 0, 1, 0, 0, .int 0), (2, .aload_n 0, 1, 0, 0, .null), (3, .iload_n 1, 1, 1, 0, .null), (4, .iload_n 2, 1, 2, 0, .null), (5, .invokevirtual 66, 3, 0, 3, .ref 9), (8, .i2l, 1, 0, 0, .null), (9, .lastore, 1, 0, 0, .null), (10, .goto 11, 3, 21, 0, .null), (13, .astore 4, 2, 4, 0, .null), (15, .iconst 1, 1, 0, 0, .int 1)],
  [(16, .ireturn, 1, 0, 0, .null), (17, .astore 4, 2, 4, 0, .null), (19, .iconst 2, 1, 0, 0, .int 2), (20, .ireturn, 1, 0, 0, .null), (21, .iconst 0, 1, 0, 0, .int 0), (22, .ireturn, 1, 0, 0, .null)]]
def fL_trend : am_F := am_meth [fX9_trend] [(0, 10, "java/lang/IllegalArgumentException", .int 1), (0, 10, "java/lang/IndexOutOfBoundsException", .int 2)] 1 5 100000 pL_trend
def pL_rules : am_P := [[(0, .aload_n 2, 1, 2, 0, .null), (1, .iconst 0, 1, 0, 0, .int 0), (2, .aload_n 0, 1, 0, 0, .null), (3, .iload_n 1, 1, 1, 0, .null), (4, .invokevirtual 71, 3, 0, 2, .ref 9), (7, .i2l, 1, 0, 0, .null), (8, .lastore, 1, 0, 0, .null), (9, .goto 6, 3, 15, 0, .null), (12, .astore_n 3, 1, 3, 0, .null), (13, .iconst 1, 1, 0, 0, .int 1), (14, .ireturn, 1, 0, 0, .null), (15, .iconst 0, 1, 0, 0, .int 0)],
  [(16, .ireturn, 1, 0, 0, .null)]]
def fL_rules : am_F := am_meth [fX9_rules] [(0, 9, "java/lang/IllegalArgumentException", .int 1)] 1 4 100000 pL_rules
def pL_host : am_P := [[(0, .aload_n 2, 1, 2, 0, .null), (1, .iconst 0, 1, 0, 0, .int 0), (2, .aload_n 0, 1, 0, 0, .null), (3, .iload_n 1, 1, 1, 0, .null), (4, .invokevirtual 74, 3, 0, 2, .ref 9), (7, .i2l, 1, 0, 0, .null), (8, .lastore, 1, 0, 0, .null), (9, .goto 6, 3, 15, 0, .null), (12, .astore_n 3, 1, 3, 0, .null), (13, .iconst 1, 1, 0, 0, .int 1), (14, .ireturn, 1, 0, 0, .null), (15, .iconst 0, 1, 0, 0, .int 0)],
  [(16, .ireturn, 1, 0, 0, .null)]]
def fL_host : am_F := am_meth [fX9_host] [(0, 9, "java/lang/IndexOutOfBoundsException", .int 1)] 1 4 100000 pL_host
def pL_took : am_P := [[(0, .aload_n 2, 1, 2, 0, .null), (1, .iconst 0, 1, 0, 0, .int 0), (2, .aload_n 0, 1, 0, 0, .null), (3, .iload_n 1, 1, 1, 0, .null), (4, .invokevirtual 77, 3, 0, 2, .ref 9), (7, .i2l, 1, 0, 0, .null), (8, .lastore, 1, 0, 0, .null), (9, .goto 6, 3, 15, 0, .null), (12, .astore_n 3, 1, 3, 0, .null), (13, .iconst 1, 1, 0, 0, .int 1), (14, .ireturn, 1, 0, 0, .null), (15, .iconst 0, 1, 0, 0, .int 0)],
  [(16, .ireturn, 1, 0, 0, .null)]]
def fL_took : am_F := am_meth [fX9_took] [(0, 9, "java/lang/IllegalArgumentException", .int 1)] 1 4 100000 pL_took
end
section
/-- the four that throw: what they do when they don't -/
def am_pD : am_P := [[(0, .iload_n 0, 1, 0, 0, .null), (1, .ifCond .ne 11, 3, 12, 0, .null), (12, .return_, 1, 0, 0, .null)]]
abbrev rmX9_isWithin : Room := { frames := 0, cells := 0, slots := 0, locals := 0 }
def cqX9_isWithin : am_C := (yX9_isWithin, .code yX9_isWithin cX9_isWithin 3 (some .boolean), rmX9_isWithin, none, 3, 3)
theorem okX9_isWithin {l : Launch} {dC : Nat → ClassId} {dI ad : Nat → Nat → Nat} {cy : Nat → ClassId} : am_Ok l dC dI ad cy yX9_isWithin (.code yX9_isWithin cX9_isWithin 3 (some .boolean)) rmX9_isWithin fX9_isWithin :=
  am_meth_ok (ci := []) (by decide +kernel) rfl ⟨rfl, rfl⟩ (am_rows_of (by decide +kernel) (am_words_of [] (by decide +kernel) (by decide +kernel))) am_cs_nil (am_cv_of (by decide +kernel))
theorem calX9_isWithin {l : Launch} {dC : Nat → ClassId} {dI ad : Nat → Nat → Nat} {cy : Nat → ClassId} {R : Room} (h1 : rmX9_isWithin.frames + 1 ≤ R.frames) (h2 : 8 + (3 + 11) + rmX9_isWithin.locals ≤ R.locals) : am_Cal l dC dI ad cy R 0 0 cqX9_isWithin fX9_isWithin :=
  ⟨okX9_isWithin, am_inU 381 (by decide +kernel) (by decide +kernel), Nat.le_refl _, Nat.le_refl _, h1, h2, ⟨by decide, by decide, by decide +kernel⟩, trivial, Or.inl ⟨_, _, rfl⟩⟩
abbrev rmX0_accepts : Room := { frames := 1, cells := 0, slots := 0, locals := 22 }
def cqX0_accepts : am_C := (yX0_accepts, .code yX0_accepts cX0_accepts 1 (some .boolean), rmX0_accepts, none, 1, 1)
theorem okX0_accepts {l : Launch} {dC : Nat → ClassId} {dI ad : Nat → Nat → Nat} {cy : Nat → ClassId} : am_Ok l dC dI ad cy yX0_accepts (.code yX0_accepts cX0_accepts 1 (some .boolean)) rmX0_accepts fX0_accepts :=
  am_meth_ok (ci := [cqX9_isWithin]) (by decide +kernel) rfl ⟨rfl, rfl⟩ (am_rows_of (by decide +kernel) (am_words_of [712, 713, 380, 56] (by decide +kernel) (by decide +kernel))) (am_cs_cons (calX9_isWithin (by decide) (by decide)) am_cs_nil) (am_cv_of (by decide +kernel))
theorem calX0_accepts {l : Launch} {dC : Nat → ClassId} {dI ad : Nat → Nat → Nat} {cy : Nat → ClassId} {R : Room} (h1 : rmX0_accepts.frames + 1 ≤ R.frames) (h2 : 8 + (1 + 11) + rmX0_accepts.locals ≤ R.locals) : am_Cal l dC dI ad cy R 0 0 cqX0_accepts fX0_accepts :=
  ⟨okX0_accepts, am_inU 711 (by decide +kernel) (by decide +kernel), Nat.le_refl _, Nat.le_refl _, h1, h2, ⟨by decide, by decide, by decide +kernel⟩, trivial, Or.inl ⟨_, _, rfl⟩⟩
abbrev rmX0_takes : Room := { frames := 0, cells := 0, slots := 0, locals := 0 }
def cqX0_takes : am_C := (yX0_takes, .code yX0_takes cX0_takes 2 (some .boolean), rmX0_takes, some 0, 1, 2)
theorem okX0_takes {l : Launch} {dC : Nat → ClassId} {dI ad : Nat → Nat → Nat} {cy : Nat → ClassId} : am_Ok l dC dI ad cy yX0_takes (.code yX0_takes cX0_takes 2 (some .boolean)) rmX0_takes fX0_takes :=
  am_meth_ok (ci := []) (by decide +kernel) rfl ⟨rfl, rfl⟩ (am_rows_of (by decide +kernel) (am_words_of [140, 140, 138, 140] (by decide +kernel) (by decide +kernel))) am_cs_nil (am_cv_of (by decide +kernel))
theorem calX0_takes {l : Launch} {dC : Nat → ClassId} {dI ad : Nat → Nat → Nat} {cy : Nat → ClassId} {R : Room} (h1 : rmX0_takes.frames + 1 ≤ R.frames) (h2 : 8 + (2 + 11) + rmX0_takes.locals ≤ R.locals) : am_Cal l dC dI ad cy R 0 0 cqX0_takes fX0_takes :=
  ⟨okX0_takes, am_inU 718 (by decide +kernel) (by decide +kernel), Nat.le_refl _, Nat.le_refl _, h1, h2, ⟨by decide, by decide, by decide +kernel⟩, ⟨by decide, rfl⟩, Or.inl ⟨_, _, rfl⟩⟩
abbrev rmX0_add : Room := { frames := 0, cells := 0, slots := 0, locals := 0 }
def cqX0_add : am_C := (yX0_add, .code yX0_add cX0_add 3 none, rmX0_add, some 0, 2, 3)
theorem okX0_add {l : Launch} {dC : Nat → ClassId} {dI ad : Nat → Nat → Nat} {cy : Nat → ClassId} : am_Ok l dC dI ad cy yX0_add (.code yX0_add cX0_add 3 none) rmX0_add fX0_add :=
  am_meth_ok (ci := []) (by decide +kernel) rfl ⟨rfl, rfl⟩ (am_rows_of (by decide +kernel) (am_words_of [140, 138, 140, 140, 140, 138, 140, 139, 140, 140, 140] (by decide +kernel) (by decide +kernel))) am_cs_nil (am_cv_of (by decide +kernel))
theorem calX0_add {l : Launch} {dC : Nat → ClassId} {dI ad : Nat → Nat → Nat} {cy : Nat → ClassId} {R : Room} (h1 : rmX0_add.frames + 1 ≤ R.frames) (h2 : 8 + (3 + 11) + rmX0_add.locals ≤ R.locals) : am_Cal l dC dI ad cy R 0 0 cqX0_add fX0_add :=
  ⟨okX0_add, am_inU 722 (by decide +kernel) (by decide +kernel), Nat.le_refl _, Nat.le_refl _, h1, h2, ⟨by decide, by decide, by decide +kernel⟩, ⟨by decide, rfl⟩, Or.inl ⟨_, _, rfl⟩⟩
abbrev rmX0_isMonotone : Room := { frames := 0, cells := 0, slots := 0, locals := 0 }
def cqX0_isMonotone : am_C := (yX0_isMonotone, .code yX0_isMonotone cX0_isMonotone 3 (some .boolean), rmX0_isMonotone, some 0, 1, 3)
theorem okX0_isMonotone {l : Launch} {dC : Nat → ClassId} {dI ad : Nat → Nat → Nat} {cy : Nat → ClassId} : am_Ok l dC dI ad cy yX0_isMonotone (.code yX0_isMonotone cX0_isMonotone 3 (some .boolean)) rmX0_isMonotone fX0_isMonotone :=
  am_meth_ok (ci := []) (by decide +kernel) rfl ⟨rfl, rfl⟩ (am_rows_of (by decide +kernel) (am_words_of [140, 139, 139] (by decide +kernel) (by decide +kernel))) am_cs_nil (am_cv_of (by decide +kernel))
theorem calX0_isMonotone {l : Launch} {dC : Nat → ClassId} {dI ad : Nat → Nat → Nat} {cy : Nat → ClassId} {R : Room} (h1 : rmX0_isMonotone.frames + 1 ≤ R.frames) (h2 : 8 + (3 + 11) + rmX0_isMonotone.locals ≤ R.locals) : am_Cal l dC dI ad cy R 0 0 cqX0_isMonotone fX0_isMonotone :=
  ⟨okX0_isMonotone, am_inU 760 (by decide +kernel) (by decide +kernel), Nat.le_refl _, Nat.le_refl _, h1, h2, ⟨by decide, by decide, by decide +kernel⟩, ⟨by decide, rfl⟩, Or.inl ⟨_, _, rfl⟩⟩
abbrev rmX0_isComplete : Room := { frames := 1, cells := 0, slots := 0, locals := 22 }
def cqX0_isComplete : am_C := (yX0_isComplete, .code yX0_isComplete cX0_isComplete 1 (some .boolean), rmX0_isComplete, some 0, 0, 1)
theorem okX0_isComplete {l : Launch} {dC : Nat → ClassId} {dI ad : Nat → Nat → Nat} {cy : Nat → ClassId} : am_Ok l dC dI ad cy yX0_isComplete (.code yX0_isComplete cX0_isComplete 1 (some .boolean)) rmX0_isComplete fX0_isComplete :=
  am_meth_ok (ci := [cqX0_isMonotone]) (by decide +kernel) rfl ⟨rfl, rfl⟩ (am_rows_of (by decide +kernel) (am_words_of [140, 757, 759, 24, 60, 757, 759, 24, 60] (by decide +kernel) (by decide +kernel))) (am_cs_cons (calX0_isMonotone (by decide) (by decide)) am_cs_nil) (am_cv_of (by decide +kernel))
theorem calX0_isComplete {l : Launch} {dC : Nat → ClassId} {dI ad : Nat → Nat → Nat} {cy : Nat → ClassId} {R : Room} (h1 : rmX0_isComplete.frames + 1 ≤ R.frames) (h2 : 8 + (1 + 11) + rmX0_isComplete.locals ≤ R.locals) : am_Cal l dC dI ad cy R 0 0 cqX0_isComplete fX0_isComplete :=
  ⟨okX0_isComplete, am_inU 756 (by decide +kernel) (by decide +kernel), Nat.le_refl _, Nat.le_refl _, h1, h2, ⟨by decide, by decide, by decide +kernel⟩, ⟨by decide, rfl⟩, Or.inl ⟨_, _, rfl⟩⟩
abbrev rmJ9_floorDiv_f86c9 : Room := { frames := 0, cells := 0, slots := 0, locals := 0 }
def cqJ9_floorDiv_f86c9 : am_C := (yJ9_floorDiv_f86c9, .code yJ9_floorDiv_f86c9 cJ9_floorDiv_f86c9 6 (some .long), rmJ9_floorDiv_f86c9, none, 2, 6)
theorem okJ9_floorDiv_f86c9 {l : Launch} {dC : Nat → ClassId} {dI ad : Nat → Nat → Nat} {cy : Nat → ClassId} : am_Ok l dC dI ad cy yJ9_floorDiv_f86c9 (.code yJ9_floorDiv_f86c9 cJ9_floorDiv_f86c9 6 (some .long)) rmJ9_floorDiv_f86c9 fJ9_floorDiv_f86c9 :=
  am_meth_ok (ci := []) (by decide +kernel) rfl ⟨rfl, rfl⟩ (am_rows_of (by decide +kernel) (am_words_of [] (by decide +kernel) (by decide +kernel))) am_cs_nil (am_cv_of (by decide +kernel))
theorem calJ9_floorDiv_f86c9 {l : Launch} {dC : Nat → ClassId} {dI ad : Nat → Nat → Nat} {cy : Nat → ClassId} {R : Room} (h1 : rmJ9_floorDiv_f86c9.frames + 1 ≤ R.frames) (h2 : 8 + (6 + 11) + rmJ9_floorDiv_f86c9.locals ≤ R.locals) : am_Cal l dC dI ad cy R 0 0 cqJ9_floorDiv_f86c9 fJ9_floorDiv_f86c9 :=
  ⟨okJ9_floorDiv_f86c9, am_inU 458 (by decide +kernel) (by decide +kernel), Nat.le_refl _, Nat.le_refl _, h1, h2, ⟨by decide, by decide, by decide +kernel⟩, trivial, Or.inl ⟨_, _, rfl⟩⟩
abbrev rmX9_rounded : Room := { frames := 1, cells := 0, slots := 0, locals := 25 }
def cqX9_rounded : am_C := (yX9_rounded, .code yX9_rounded cX9_rounded 4 (some .long), rmX9_rounded, none, 2, 4)
theorem okX9_rounded {l : Launch} {dC : Nat → ClassId} {dI ad : Nat → Nat → Nat} {cy : Nat → ClassId} : am_Ok l dC dI ad cy yX9_rounded (.code yX9_rounded cX9_rounded 4 (some .long)) rmX9_rounded fX9_rounded :=
  am_meth_ok (ci := [cqJ9_floorDiv_f86c9]) (by decide +kernel) rfl ⟨rfl, rfl⟩ (am_rows_of (by decide +kernel) (am_words_of [419, 419, 457, 73, 456] (by decide +kernel) (by decide +kernel))) (am_cs_cons (calJ9_floorDiv_f86c9 (by decide) (by decide)) am_cs_nil) (am_cv_of (by decide +kernel))
theorem calX9_rounded {l : Launch} {dC : Nat → ClassId} {dI ad : Nat → Nat → Nat} {cy : Nat → ClassId} {R : Room} (h1 : rmX9_rounded.frames + 1 ≤ R.frames) (h2 : 8 + (4 + 11) + rmX9_rounded.locals ≤ R.locals) : am_Cal l dC dI ad cy R 0 0 cqX9_rounded fX9_rounded :=
  ⟨okX9_rounded, am_inU 455 (by decide +kernel) (by decide +kernel), Nat.le_refl _, Nat.le_refl _, h1, h2, ⟨by decide, by decide, by decide +kernel⟩, trivial, Or.inl ⟨_, _, rfl⟩⟩
abbrev rmX0_valueAt : Room := { frames := 2, cells := 0, slots := 0, locals := 48 }
def cqX0_valueAt : am_C := (yX0_valueAt, .code yX0_valueAt cX0_valueAt 7 (some .long), rmX0_valueAt, some 0, 1, 7)
theorem okX0_valueAt {l : Launch} {dC : Nat → ClassId} {dI ad : Nat → Nat → Nat} {cy : Nat → ClassId} : am_Ok l dC dI ad cy yX0_valueAt (.code yX0_valueAt cX0_valueAt 7 (some .long)) rmX0_valueAt fX0_valueAt :=
  am_meth_ok (ci := [cqX9_rounded]) (by decide +kernel) rfl ⟨rfl, rfl⟩ (am_rows_of (by decide +kernel) (am_words_of [140, 140, 138, 138, 139, 139, 139, 138, 138, 454, 56] (by decide +kernel) (by decide +kernel))) (am_cs_cons (calX9_rounded (by decide) (by decide)) am_cs_nil) (am_cv_of (by decide +kernel))
theorem calX0_valueAt {l : Launch} {dC : Nat → ClassId} {dI ad : Nat → Nat → Nat} {cy : Nat → ClassId} {R : Room} (h1 : rmX0_valueAt.frames + 1 ≤ R.frames) (h2 : 8 + (7 + 11) + rmX0_valueAt.locals ≤ R.locals) : am_Cal l dC dI ad cy R 0 0 cqX0_valueAt fX0_valueAt :=
  ⟨okX0_valueAt, am_inU 466 (by decide +kernel) (by decide +kernel), Nat.le_refl _, Nat.le_refl _, h1, h2, ⟨by decide, by decide, by decide +kernel⟩, ⟨by decide, rfl⟩, Or.inl ⟨_, _, rfl⟩⟩
abbrev rmX1_isClean : Room := { frames := 0, cells := 0, slots := 0, locals := 0 }
def cqX1_isClean : am_C := (yX1_isClean, .code yX1_isClean cX1_isClean 1 (some .boolean), rmX1_isClean, some 1, 0, 1)
theorem okX1_isClean {l : Launch} {dC : Nat → ClassId} {dI ad : Nat → Nat → Nat} {cy : Nat → ClassId} : am_Ok l dC dI ad cy yX1_isClean (.code yX1_isClean cX1_isClean 1 (some .boolean)) rmX1_isClean fX1_isClean :=
  am_meth_ok (ci := []) (by decide +kernel) rfl ⟨rfl, rfl⟩ (am_rows_of (by decide +kernel) (am_words_of [234, 240] (by decide +kernel) (by decide +kernel))) am_cs_nil (am_cv_of (by decide +kernel))
theorem calX1_isClean {l : Launch} {dC : Nat → ClassId} {dI ad : Nat → Nat → Nat} {cy : Nat → ClassId} {R : Room} (h1 : rmX1_isClean.frames + 1 ≤ R.frames) (h2 : 8 + (1 + 11) + rmX1_isClean.locals ≤ R.locals) : am_Cal l dC dI ad cy R 0 0 cqX1_isClean fX1_isClean :=
  ⟨okX1_isClean, am_inU 553 (by decide +kernel) (by decide +kernel), Nat.le_refl _, Nat.le_refl _, h1, h2, ⟨by decide, by decide, by decide +kernel⟩, ⟨by decide, rfl⟩, Or.inl ⟨_, _, rfl⟩⟩
abbrev rmX1_turn : Room := { frames := 0, cells := 0, slots := 0, locals := 0 }
def cqX1_turn : am_C := (yX1_turn, .code yX1_turn cX1_turn 1 none, rmX1_turn, some 1, 0, 1)
theorem okX1_turn {l : Launch} {dC : Nat → ClassId} {dI ad : Nat → Nat → Nat} {cy : Nat → ClassId} : am_Ok l dC dI ad cy yX1_turn (.code yX1_turn cX1_turn 1 none) rmX1_turn fX1_turn :=
  am_meth_ok (ci := []) (by decide +kernel) rfl ⟨rfl, rfl⟩ (am_rows_of (by decide +kernel) (am_words_of [234, 238, 238, 240, 240, 240] (by decide +kernel) (by decide +kernel))) am_cs_nil (am_cv_of (by decide +kernel))
theorem calX1_turn {l : Launch} {dC : Nat → ClassId} {dI ad : Nat → Nat → Nat} {cy : Nat → ClassId} {R : Room} (h1 : rmX1_turn.frames + 1 ≤ R.frames) (h2 : 8 + (1 + 11) + rmX1_turn.locals ≤ R.locals) : am_Cal l dC dI ad cy R 0 0 cqX1_turn fX1_turn :=
  ⟨okX1_turn, am_inU 362 (by decide +kernel) (by decide +kernel), Nat.le_refl _, Nat.le_refl _, h1, h2, ⟨by decide, by decide, by decide +kernel⟩, ⟨by decide, rfl⟩, Or.inl ⟨_, _, rfl⟩⟩
abbrev rmX1_start : Room := { frames := 0, cells := 0, slots := 0, locals := 0 }
def cqX1_start : am_C := (yX1_start, .code yX1_start cX1_start 3 none, rmX1_start, some 1, 2, 3)
theorem okX1_start {l : Launch} {dC : Nat → ClassId} {dI ad : Nat → Nat → Nat} {cy : Nat → ClassId} : am_Ok l dC dI ad cy yX1_start (.code yX1_start cX1_start 3 none) rmX1_start fX1_start :=
  am_meth_ok (ci := []) (by decide +kernel) rfl ⟨rfl, rfl⟩ (am_rows_of (by decide +kernel) (am_words_of [234, 236, 238, 226, 232] (by decide +kernel) (by decide +kernel))) am_cs_nil (am_cv_of (by decide +kernel))
theorem calX1_start {l : Launch} {dC : Nat → ClassId} {dI ad : Nat → Nat → Nat} {cy : Nat → ClassId} {R : Room} (h1 : rmX1_start.frames + 1 ≤ R.frames) (h2 : 8 + (3 + 11) + rmX1_start.locals ≤ R.locals) : am_Cal l dC dI ad cy R 0 0 cqX1_start fX1_start :=
  ⟨okX1_start, am_inU 576 (by decide +kernel) (by decide +kernel), Nat.le_refl _, Nat.le_refl _, h1, h2, ⟨by decide, by decide, by decide +kernel⟩, ⟨by decide, rfl⟩, Or.inl ⟨_, _, rfl⟩⟩
abbrev rmX1_addReading : Room := { frames := 0, cells := 0, slots := 0, locals := 0 }
def cqX1_addReading : am_C := (yX1_addReading, .code yX1_addReading cX1_addReading 2 none, rmX1_addReading, some 1, 1, 2)
theorem okX1_addReading {l : Launch} {dC : Nat → ClassId} {dI ad : Nat → Nat → Nat} {cy : Nat → ClassId} : am_Ok l dC dI ad cy yX1_addReading (.code yX1_addReading cX1_addReading 2 none) rmX1_addReading fX1_addReading :=
  am_meth_ok (ci := []) (by decide +kernel) rfl ⟨rfl, rfl⟩ (am_rows_of (by decide +kernel) (am_words_of [226, 224, 226, 226, 226] (by decide +kernel) (by decide +kernel))) am_cs_nil (am_cv_of (by decide +kernel))
theorem calX1_addReading {l : Launch} {dC : Nat → ClassId} {dI ad : Nat → Nat → Nat} {cy : Nat → ClassId} {R : Room} (h1 : rmX1_addReading.frames + 1 ≤ R.frames) (h2 : 8 + (2 + 11) + rmX1_addReading.locals ≤ R.locals) : am_Cal l dC dI ad cy R 0 0 cqX1_addReading fX1_addReading :=
  ⟨okX1_addReading, am_inU 432 (by decide +kernel) (by decide +kernel), Nat.le_refl _, Nat.le_refl _, h1, h2, ⟨by decide, by decide, by decide +kernel⟩, ⟨by decide, rfl⟩, Or.inl ⟨_, _, rfl⟩⟩
abbrev rmX1_sendToWash : Room := { frames := 0, cells := 0, slots := 0, locals := 0 }
def cqX1_sendToWash : am_C := (yX1_sendToWash, .code yX1_sendToWash cX1_sendToWash 1 none, rmX1_sendToWash, some 1, 0, 1)
theorem okX1_sendToWash {l : Launch} {dC : Nat → ClassId} {dI ad : Nat → Nat → Nat} {cy : Nat → ClassId} : am_Ok l dC dI ad cy yX1_sendToWash (.code yX1_sendToWash cX1_sendToWash 1 none) rmX1_sendToWash fX1_sendToWash :=
  am_meth_ok (ci := []) (by decide +kernel) rfl ⟨rfl, rfl⟩ (am_rows_of (by decide +kernel) (am_words_of [234, 242, 240] (by decide +kernel) (by decide +kernel))) am_cs_nil (am_cv_of (by decide +kernel))
theorem calX1_sendToWash {l : Launch} {dC : Nat → ClassId} {dI ad : Nat → Nat → Nat} {cy : Nat → ClassId} {R : Room} (h1 : rmX1_sendToWash.frames + 1 ≤ R.frames) (h2 : 8 + (1 + 11) + rmX1_sendToWash.locals ≤ R.locals) : am_Cal l dC dI ad cy R 0 0 cqX1_sendToWash fX1_sendToWash :=
  ⟨okX1_sendToWash, am_inU 405 (by decide +kernel) (by decide +kernel), Nat.le_refl _, Nat.le_refl _, h1, h2, ⟨by decide, by decide, by decide +kernel⟩, ⟨by decide, rfl⟩, Or.inl ⟨_, _, rfl⟩⟩
abbrev rmX2_append : Room := { frames := 0, cells := 0, slots := 0, locals := 0 }
def cqX2_append : am_C := (yX2_append, .code yX2_append cX2_append 3 none, rmX2_append, some 2, 1, 3)
theorem okX2_append {l : Launch} {dC : Nat → ClassId} {dI ad : Nat → Nat → Nat} {cy : Nat → ClassId} : am_Ok l dC dI ad cy yX2_append (.code yX2_append cX2_append 3 none) rmX2_append fX2_append :=
  am_meth_ok (ci := []) (by decide +kernel) rfl ⟨rfl, rfl⟩ (am_rows_of (by decide +kernel) (am_words_of [156, 155, 155, 156, 156, 155, 156, 156, 156] (by decide +kernel) (by decide +kernel))) am_cs_nil (am_cv_of (by decide +kernel))
theorem calX2_append {l : Launch} {dC : Nat → ClassId} {dI ad : Nat → Nat → Nat} {cy : Nat → ClassId} {R : Room} (h1 : rmX2_append.frames + 1 ≤ R.frames) (h2 : 8 + (3 + 11) + rmX2_append.locals ≤ R.locals) : am_Cal l dC dI ad cy R 0 0 cqX2_append fX2_append :=
  ⟨okX2_append, am_inU 507 (by decide +kernel) (by decide +kernel), Nat.le_refl _, Nat.le_refl _, h1, h2, ⟨by decide, by decide, by decide +kernel⟩, ⟨by decide, rfl⟩, Or.inl ⟨_, _, rfl⟩⟩
abbrev rmX2_fromLatest : Room := { frames := 1, cells := 0, slots := 0, locals := 22 }
def cqX2_fromLatest : am_C := (yX2_fromLatest, .code yX2_fromLatest cX2_fromLatest 2 (some .int), rmX2_fromLatest, some 2, 1, 2)
theorem okX2_fromLatest {l : Launch} {dC : Nat → ClassId} {dI ad : Nat → Nat → Nat} {cy : Nat → ClassId} : am_Ok l dC dI ad cy yX2_fromLatest (.code yX2_fromLatest cX2_fromLatest 2 (some .int)) rmX2_fromLatest fX2_fromLatest :=
  am_meth_ok (ci := [cqX9_isWithin]) (by decide +kernel) rfl ⟨rfl, rfl⟩ (am_rows_of (by decide +kernel) (am_words_of [156, 380, 56, 155, 156] (by decide +kernel) (by decide +kernel))) (am_cs_cons (calX9_isWithin (by decide) (by decide)) am_cs_nil) (am_cv_of (by decide +kernel))
theorem calX2_fromLatest {l : Launch} {dC : Nat → ClassId} {dI ad : Nat → Nat → Nat} {cy : Nat → ClassId} {R : Room} (h1 : rmX2_fromLatest.frames + 1 ≤ R.frames) (h2 : 8 + (2 + 11) + rmX2_fromLatest.locals ≤ R.locals) : am_Cal l dC dI ad cy R 0 0 cqX2_fromLatest fX2_fromLatest :=
  ⟨okX2_fromLatest, am_inU 916 (by decide +kernel) (by decide +kernel), Nat.le_refl _, Nat.le_refl _, h1, h2, ⟨by decide, by decide, by decide +kernel⟩, ⟨by decide, rfl⟩, Or.inl ⟨_, _, rfl⟩⟩
abbrev rmX2_above : Room := { frames := 2, cells := 0, slots := 0, locals := 43 }
def cqX2_above : am_C := (yX2_above, .code yX2_above cX2_above 6 (some .int), rmX2_above, some 2, 2, 6)
theorem okX2_above {l : Launch} {dC : Nat → ClassId} {dI ad : Nat → Nat → Nat} {cy : Nat → ClassId} : am_Ok l dC dI ad cy yX2_above (.code yX2_above cX2_above 6 (some .int)) rmX2_above fX2_above :=
  am_meth_ok (ci := [cqX2_fromLatest]) (by decide +kernel) rfl ⟨rfl, rfl⟩ (am_rows_of (by decide +kernel) (am_words_of [156, 934, 914, 915, 61] (by decide +kernel) (by decide +kernel))) (am_cs_cons (calX2_fromLatest (by decide) (by decide)) am_cs_nil) (am_cv_of (by decide +kernel))
theorem calX2_above {l : Launch} {dC : Nat → ClassId} {dI ad : Nat → Nat → Nat} {cy : Nat → ClassId} {R : Room} (h1 : rmX2_above.frames + 1 ≤ R.frames) (h2 : 8 + (6 + 11) + rmX2_above.locals ≤ R.locals) : am_Cal l dC dI ad cy R 0 0 cqX2_above fX2_above :=
  ⟨okX2_above, am_inU 933 (by decide +kernel) (by decide +kernel), Nat.le_refl _, Nat.le_refl _, h1, h2, ⟨by decide, by decide, by decide +kernel⟩, ⟨by decide, rfl⟩, Or.inl ⟨_, _, rfl⟩⟩
abbrev rmX2_below : Room := { frames := 2, cells := 0, slots := 0, locals := 43 }
def cqX2_below : am_C := (yX2_below, .code yX2_below cX2_below 6 (some .int), rmX2_below, some 2, 2, 6)
theorem okX2_below {l : Launch} {dC : Nat → ClassId} {dI ad : Nat → Nat → Nat} {cy : Nat → ClassId} : am_Ok l dC dI ad cy yX2_below (.code yX2_below cX2_below 6 (some .int)) rmX2_below fX2_below :=
  am_meth_ok (ci := [cqX2_fromLatest]) (by decide +kernel) rfl ⟨rfl, rfl⟩ (am_rows_of (by decide +kernel) (am_words_of [156, 934, 914, 915, 61] (by decide +kernel) (by decide +kernel))) (am_cs_cons (calX2_fromLatest (by decide) (by decide)) am_cs_nil) (am_cv_of (by decide +kernel))
theorem calX2_below {l : Launch} {dC : Nat → ClassId} {dI ad : Nat → Nat → Nat} {cy : Nat → ClassId} {R : Room} (h1 : rmX2_below.frames + 1 ≤ R.frames) (h2 : 8 + (6 + 11) + rmX2_below.locals ≤ R.locals) : am_Cal l dC dI ad cy R 0 0 cqX2_below fX2_below :=
  ⟨okX2_below, am_inU 938 (by decide +kernel) (by decide +kernel), Nat.le_refl _, Nat.le_refl _, h1, h2, ⟨by decide, by decide, by decide +kernel⟩, ⟨by decide, rfl⟩, Or.inl ⟨_, _, rfl⟩⟩
abbrev rmX3_append : Room := { frames := 0, cells := 0, slots := 0, locals := 0 }
def cqX3_append : am_C := (yX3_append, .code yX3_append cX3_append 2 none, rmX3_append, some 3, 1, 2)
theorem okX3_append {l : Launch} {dC : Nat → ClassId} {dI ad : Nat → Nat → Nat} {cy : Nat → ClassId} : am_Ok l dC dI ad cy yX3_append (.code yX3_append cX3_append 2 none) rmX3_append fX3_append :=
  am_meth_ok (ci := []) (by decide +kernel) rfl ⟨rfl, rfl⟩ (am_rows_of (by decide +kernel) (am_words_of [119, 117, 119, 119, 119] (by decide +kernel) (by decide +kernel))) am_cs_nil (am_cv_of (by decide +kernel))
theorem calX3_append {l : Launch} {dC : Nat → ClassId} {dI ad : Nat → Nat → Nat} {cy : Nat → ClassId} {R : Room} (h1 : rmX3_append.frames + 1 ≤ R.frames) (h2 : 8 + (2 + 11) + rmX3_append.locals ≤ R.locals) : am_Cal l dC dI ad cy R 0 0 cqX3_append fX3_append :=
  ⟨okX3_append, am_inU 503 (by decide +kernel) (by decide +kernel), Nat.le_refl _, Nat.le_refl _, h1, h2, ⟨by decide, by decide, by decide +kernel⟩, ⟨by decide, rfl⟩, Or.inl ⟨_, _, rfl⟩⟩
abbrev rmX3_dropFirst : Room := { frames := 0, cells := 0, slots := 0, locals := 0 }
def cqX3_dropFirst : am_C := (yX3_dropFirst, .code yX3_dropFirst cX3_dropFirst 3 none, rmX3_dropFirst, some 3, 1, 3)
theorem okX3_dropFirst {l : Launch} {dC : Nat → ClassId} {dI ad : Nat → Nat → Nat} {cy : Nat → ClassId} : am_Ok l dC dI ad cy yX3_dropFirst (.code yX3_dropFirst cX3_dropFirst 3 none) rmX3_dropFirst fX3_dropFirst :=
  am_meth_ok (ci := []) (by decide +kernel) rfl ⟨rfl, rfl⟩ (am_rows_of (by decide +kernel) (am_words_of [119, 117, 117, 119, 119] (by decide +kernel) (by decide +kernel))) am_cs_nil (am_cv_of (by decide +kernel))
theorem calX3_dropFirst {l : Launch} {dC : Nat → ClassId} {dI ad : Nat → Nat → Nat} {cy : Nat → ClassId} {R : Room} (h1 : rmX3_dropFirst.frames + 1 ≤ R.frames) (h2 : 8 + (3 + 11) + rmX3_dropFirst.locals ≤ R.locals) : am_Cal l dC dI ad cy R 0 0 cqX3_dropFirst fX3_dropFirst :=
  ⟨okX3_dropFirst, am_inU 957 (by decide +kernel) (by decide +kernel), Nat.le_refl _, Nat.le_refl _, h1, h2, ⟨by decide, by decide, by decide +kernel⟩, ⟨by decide, rfl⟩, Or.inl ⟨_, _, rfl⟩⟩
abbrev rmX4_place : Room := { frames := 0, cells := 0, slots := 0, locals := 0 }
def cqX4_place : am_C := (yX4_place, .code yX4_place cX4_place 4 none, rmX4_place, some 4, 3, 4)
theorem okX4_place {l : Launch} {dC : Nat → ClassId} {dI ad : Nat → Nat → Nat} {cy : Nat → ClassId} : am_Ok l dC dI ad cy yX4_place (.code yX4_place cX4_place 4 none) rmX4_place fX4_place :=
  am_meth_ok (ci := []) (by decide +kernel) rfl ⟨rfl, rfl⟩ (am_rows_of (by decide +kernel) (am_words_of [270, 272, 274] (by decide +kernel) (by decide +kernel))) am_cs_nil (am_cv_of (by decide +kernel))
theorem calX4_place {l : Launch} {dC : Nat → ClassId} {dI ad : Nat → Nat → Nat} {cy : Nat → ClassId} {R : Room} (h1 : rmX4_place.frames + 1 ≤ R.frames) (h2 : 8 + (4 + 11) + rmX4_place.locals ≤ R.locals) : am_Cal l dC dI ad cy R 0 0 cqX4_place fX4_place :=
  ⟨okX4_place, am_inU 840 (by decide +kernel) (by decide +kernel), Nat.le_refl _, Nat.le_refl _, h1, h2, ⟨by decide, by decide, by decide +kernel⟩, ⟨by decide, rfl⟩, Or.inl ⟨_, _, rfl⟩⟩
abbrev rmX4_isOpen : Room := { frames := 0, cells := 0, slots := 0, locals := 0 }
def cqX4_isOpen : am_C := (yX4_isOpen, .code yX4_isOpen cX4_isOpen 1 (some .boolean), rmX4_isOpen, some 4, 0, 1)
theorem okX4_isOpen {l : Launch} {dC : Nat → ClassId} {dI ad : Nat → Nat → Nat} {cy : Nat → ClassId} : am_Ok l dC dI ad cy yX4_isOpen (.code yX4_isOpen cX4_isOpen 1 (some .boolean)) rmX4_isOpen fX4_isOpen :=
  am_meth_ok (ci := []) (by decide +kernel) rfl ⟨rfl, rfl⟩ (am_rows_of (by decide +kernel) (am_words_of [276, 276] (by decide +kernel) (by decide +kernel))) am_cs_nil (am_cv_of (by decide +kernel))
theorem calX4_isOpen {l : Launch} {dC : Nat → ClassId} {dI ad : Nat → Nat → Nat} {cy : Nat → ClassId} {R : Room} (h1 : rmX4_isOpen.frames + 1 ≤ R.frames) (h2 : 8 + (1 + 11) + rmX4_isOpen.locals ≤ R.locals) : am_Cal l dC dI ad cy R 0 0 cqX4_isOpen fX4_isOpen :=
  ⟨okX4_isOpen, am_inU 683 (by decide +kernel) (by decide +kernel), Nat.le_refl _, Nat.le_refl _, h1, h2, ⟨by decide, by decide, by decide +kernel⟩, ⟨by decide, rfl⟩, Or.inl ⟨_, _, rfl⟩⟩
abbrev rmX4_startRun : Room := { frames := 0, cells := 0, slots := 0, locals := 0 }
def cqX4_startRun : am_C := (yX4_startRun, .code yX4_startRun cX4_startRun 2 none, rmX4_startRun, some 4, 1, 2)
theorem okX4_startRun {l : Launch} {dC : Nat → ClassId} {dI ad : Nat → Nat → Nat} {cy : Nat → ClassId} : am_Ok l dC dI ad cy yX4_startRun (.code yX4_startRun cX4_startRun 2 none) rmX4_startRun fX4_startRun :=
  am_meth_ok (ci := []) (by decide +kernel) rfl ⟨rfl, rfl⟩ (am_rows_of (by decide +kernel) (am_words_of [276, 280, 280, 284] (by decide +kernel) (by decide +kernel))) am_cs_nil (am_cv_of (by decide +kernel))
theorem calX4_startRun {l : Launch} {dC : Nat → ClassId} {dI ad : Nat → Nat → Nat} {cy : Nat → ClassId} {R : Room} (h1 : rmX4_startRun.frames + 1 ≤ R.frames) (h2 : 8 + (2 + 11) + rmX4_startRun.locals ≤ R.locals) : am_Cal l dC dI ad cy R 0 0 cqX4_startRun fX4_startRun :=
  ⟨okX4_startRun, am_inU 584 (by decide +kernel) (by decide +kernel), Nat.le_refl _, Nat.le_refl _, h1, h2, ⟨by decide, by decide, by decide +kernel⟩, ⟨by decide, rfl⟩, Or.inl ⟨_, _, rfl⟩⟩
abbrev rmX4_waitAgain : Room := { frames := 0, cells := 0, slots := 0, locals := 0 }
def cqX4_waitAgain : am_C := (yX4_waitAgain, .code yX4_waitAgain cX4_waitAgain 2 none, rmX4_waitAgain, some 4, 1, 2)
theorem okX4_waitAgain {l : Launch} {dC : Nat → ClassId} {dI ad : Nat → Nat → Nat} {cy : Nat → ClassId} : am_Ok l dC dI ad cy yX4_waitAgain (.code yX4_waitAgain cX4_waitAgain 2 none) rmX4_waitAgain fX4_waitAgain :=
  am_meth_ok (ci := []) (by decide +kernel) rfl ⟨rfl, rfl⟩ (am_rows_of (by decide +kernel) (am_words_of [276, 284, 282] (by decide +kernel) (by decide +kernel))) am_cs_nil (am_cv_of (by decide +kernel))
theorem calX4_waitAgain {l : Launch} {dC : Nat → ClassId} {dI ad : Nat → Nat → Nat} {cy : Nat → ClassId} {R : Room} (h1 : rmX4_waitAgain.frames + 1 ≤ R.frames) (h2 : 8 + (2 + 11) + rmX4_waitAgain.locals ≤ R.locals) : am_Cal l dC dI ad cy R 0 0 cqX4_waitAgain fX4_waitAgain :=
  ⟨okX4_waitAgain, am_inU 397 (by decide +kernel) (by decide +kernel), Nat.le_refl _, Nat.le_refl _, h1, h2, ⟨by decide, by decide, by decide +kernel⟩, ⟨by decide, rfl⟩, Or.inl ⟨_, _, rfl⟩⟩
abbrev rmX4_fail : Room := { frames := 0, cells := 0, slots := 0, locals := 0 }
def cqX4_fail : am_C := (yX4_fail, .code yX4_fail cX4_fail 2 none, rmX4_fail, some 4, 1, 2)
theorem okX4_fail {l : Launch} {dC : Nat → ClassId} {dI ad : Nat → Nat → Nat} {cy : Nat → ClassId} : am_Ok l dC dI ad cy yX4_fail (.code yX4_fail cX4_fail 2 none) rmX4_fail fX4_fail :=
  am_meth_ok (ci := []) (by decide +kernel) rfl ⟨rfl, rfl⟩ (am_rows_of (by decide +kernel) (am_words_of [276, 278, 284] (by decide +kernel) (by decide +kernel))) am_cs_nil (am_cv_of (by decide +kernel))
theorem calX4_fail {l : Launch} {dC : Nat → ClassId} {dI ad : Nat → Nat → Nat} {cy : Nat → ClassId} {R : Room} (h1 : rmX4_fail.frames + 1 ≤ R.frames) (h2 : 8 + (2 + 11) + rmX4_fail.locals ≤ R.locals) : am_Cal l dC dI ad cy R 0 0 cqX4_fail fX4_fail :=
  ⟨okX4_fail, am_inU 401 (by decide +kernel) (by decide +kernel), Nat.le_refl _, Nat.le_refl _, h1, h2, ⟨by decide, by decide, by decide +kernel⟩, ⟨by decide, rfl⟩, Or.inl ⟨_, _, rfl⟩⟩
abbrev rmX4_breakOff : Room := { frames := 1, cells := 0, slots := 0, locals := 21 }
def cqX4_breakOff : am_C := (yX4_breakOff, .code yX4_breakOff cX4_breakOff 2 none, rmX4_breakOff, some 4, 1, 2)
theorem okX4_breakOff {l : Launch} {dC : Nat → ClassId} {dI ad : Nat → Nat → Nat} {cy : Nat → ClassId} : am_Ok l dC dI ad cy yX4_breakOff (.code yX4_breakOff cX4_breakOff 2 none) rmX4_breakOff fX4_breakOff :=
  am_meth_ok (ci := [cqX4_waitAgain, cqX4_fail]) (by decide +kernel) rfl ⟨rfl, rfl⟩ (am_rows_of (by decide +kernel) (am_words_of [280, 394, 395, 396, 65, 398, 399, 400, 65] (by decide +kernel) (by decide +kernel))) (am_cs_cons (calX4_waitAgain (by decide) (by decide)) (am_cs_cons (calX4_fail (by decide) (by decide)) am_cs_nil)) (am_cv_of (by decide +kernel))
theorem calX4_breakOff {l : Launch} {dC : Nat → ClassId} {dI ad : Nat → Nat → Nat} {cy : Nat → ClassId} {R : Room} (h1 : rmX4_breakOff.frames + 1 ≤ R.frames) (h2 : 8 + (2 + 11) + rmX4_breakOff.locals ≤ R.locals) : am_Cal l dC dI ad cy R 0 0 cqX4_breakOff fX4_breakOff :=
  ⟨okX4_breakOff, am_inU 393 (by decide +kernel) (by decide +kernel), Nat.le_refl _, Nat.le_refl _, h1, h2, ⟨by decide, by decide, by decide +kernel⟩, ⟨by decide, rfl⟩, Or.inl ⟨_, _, rfl⟩⟩
abbrev rmX4_release : Room := { frames := 0, cells := 0, slots := 0, locals := 0 }
def cqX4_release : am_C := (yX4_release, .code yX4_release cX4_release 3 none, rmX4_release, some 4, 2, 3)
theorem okX4_release {l : Launch} {dC : Nat → ClassId} {dI ad : Nat → Nat → Nat} {cy : Nat → ClassId} : am_Ok l dC dI ad cy yX4_release (.code yX4_release cX4_release 3 none) rmX4_release fX4_release :=
  am_meth_ok (ci := []) (by decide +kernel) rfl ⟨rfl, rfl⟩ (am_rows_of (by decide +kernel) (am_words_of [276, 284, 286, 288] (by decide +kernel) (by decide +kernel))) am_cs_nil (am_cv_of (by decide +kernel))
theorem calX4_release {l : Launch} {dC : Nat → ClassId} {dI ad : Nat → Nat → Nat} {cy : Nat → ClassId} {R : Room} (h1 : rmX4_release.frames + 1 ≤ R.frames) (h2 : 8 + (3 + 11) + rmX4_release.locals ≤ R.locals) : am_Cal l dC dI ad cy R 0 0 cqX4_release fX4_release :=
  ⟨okX4_release, am_inU 499 (by decide +kernel) (by decide +kernel), Nat.le_refl _, Nat.le_refl _, h1, h2, ⟨by decide, by decide, by decide +kernel⟩, ⟨by decide, rfl⟩, Or.inl ⟨_, _, rfl⟩⟩
abbrev rmX4_runFlags : Room := { frames := 0, cells := 0, slots := 0, locals := 0 }
def cqX4_runFlags : am_C := (yX4_runFlags, .code yX4_runFlags cX4_runFlags 1 (some .int), rmX4_runFlags, some 4, 0, 1)
theorem okX4_runFlags {l : Launch} {dC : Nat → ClassId} {dI ad : Nat → Nat → Nat} {cy : Nat → ClassId} : am_Ok l dC dI ad cy yX4_runFlags (.code yX4_runFlags cX4_runFlags 1 (some .int)) rmX4_runFlags fX4_runFlags :=
  am_meth_ok (ci := []) (by decide +kernel) rfl ⟨rfl, rfl⟩ (am_rows_of (by decide +kernel) (am_words_of [280, 282] (by decide +kernel) (by decide +kernel))) am_cs_nil (am_cv_of (by decide +kernel))
theorem calX4_runFlags {l : Launch} {dC : Nat → ClassId} {dI ad : Nat → Nat → Nat} {cy : Nat → ClassId} {R : Room} (h1 : rmX4_runFlags.frames + 1 ≤ R.frames) (h2 : 8 + (1 + 11) + rmX4_runFlags.locals ≤ R.locals) : am_Cal l dC dI ad cy R 0 0 cqX4_runFlags fX4_runFlags :=
  ⟨okX4_runFlags, am_inU 486 (by decide +kernel) (by decide +kernel), Nat.le_refl _, Nat.le_refl _, h1, h2, ⟨by decide, by decide, by decide +kernel⟩, ⟨by decide, rfl⟩, Or.inl ⟨_, _, rfl⟩⟩
abbrev rmX5_isEmpty : Room := { frames := 0, cells := 0, slots := 0, locals := 0 }
def cqX5_isEmpty : am_C := (yX5_isEmpty, .code yX5_isEmpty cX5_isEmpty 1 (some .boolean), rmX5_isEmpty, some 5, 0, 1)
theorem okX5_isEmpty {l : Launch} {dC : Nat → ClassId} {dI ad : Nat → Nat → Nat} {cy : Nat → ClassId} : am_Ok l dC dI ad cy yX5_isEmpty (.code yX5_isEmpty cX5_isEmpty 1 (some .boolean)) rmX5_isEmpty fX5_isEmpty :=
  am_meth_ok (ci := []) (by decide +kernel) rfl ⟨rfl, rfl⟩ (am_rows_of (by decide +kernel) (am_words_of [203] (by decide +kernel) (by decide +kernel))) am_cs_nil (am_cv_of (by decide +kernel))
theorem calX5_isEmpty {l : Launch} {dC : Nat → ClassId} {dI ad : Nat → Nat → Nat} {cy : Nat → ClassId} {R : Room} (h1 : rmX5_isEmpty.frames + 1 ≤ R.frames) (h2 : 8 + (1 + 11) + rmX5_isEmpty.locals ≤ R.locals) : am_Cal l dC dI ad cy R 0 0 cqX5_isEmpty fX5_isEmpty :=
  ⟨okX5_isEmpty, am_inU 886 (by decide +kernel) (by decide +kernel), Nat.le_refl _, Nat.le_refl _, h1, h2, ⟨by decide, by decide, by decide +kernel⟩, ⟨by decide, rfl⟩, Or.inl ⟨_, _, rfl⟩⟩
abbrev rmX5_fill : Room := { frames := 0, cells := 0, slots := 0, locals := 0 }
def cqX5_fill : am_C := (yX5_fill, .code yX5_fill cX5_fill 4 none, rmX5_fill, some 5, 3, 4)
theorem okX5_fill {l : Launch} {dC : Nat → ClassId} {dI ad : Nat → Nat → Nat} {cy : Nat → ClassId} : am_Ok l dC dI ad cy yX5_fill (.code yX5_fill cX5_fill 4 none) rmX5_fill fX5_fill :=
  am_meth_ok (ci := []) (by decide +kernel) rfl ⟨rfl, rfl⟩ (am_rows_of (by decide +kernel) (am_words_of [203, 204, 208] (by decide +kernel) (by decide +kernel))) am_cs_nil (am_cv_of (by decide +kernel))
theorem calX5_fill {l : Launch} {dC : Nat → ClassId} {dI ad : Nat → Nat → Nat} {cy : Nat → ClassId} {R : Room} (h1 : rmX5_fill.frames + 1 ≤ R.frames) (h2 : 8 + (4 + 11) + rmX5_fill.locals ≤ R.locals) : am_Cal l dC dI ad cy R 0 0 cqX5_fill fX5_fill :=
  ⟨okX5_fill, am_inU 818 (by decide +kernel) (by decide +kernel), Nat.le_refl _, Nat.le_refl _, h1, h2, ⟨by decide, by decide, by decide +kernel⟩, ⟨by decide, rfl⟩, Or.inl ⟨_, _, rfl⟩⟩
abbrev rmX5_canGive : Room := { frames := 0, cells := 0, slots := 0, locals := 0 }
def cqX5_canGive : am_C := (yX5_canGive, .code yX5_canGive cX5_canGive 4 (some .boolean), rmX5_canGive, some 5, 3, 4)
theorem okX5_canGive {l : Launch} {dC : Nat → ClassId} {dI ad : Nat → Nat → Nat} {cy : Nat → ClassId} : am_Ok l dC dI ad cy yX5_canGive (.code yX5_canGive cX5_canGive 4 (some .boolean)) rmX5_canGive fX5_canGive :=
  am_meth_ok (ci := []) (by decide +kernel) rfl ⟨rfl, rfl⟩ (am_rows_of (by decide +kernel) (am_words_of [203, 208, 204, 206] (by decide +kernel) (by decide +kernel))) am_cs_nil (am_cv_of (by decide +kernel))
theorem calX5_canGive {l : Launch} {dC : Nat → ClassId} {dI ad : Nat → Nat → Nat} {cy : Nat → ClassId} {R : Room} (h1 : rmX5_canGive.frames + 1 ≤ R.frames) (h2 : 8 + (4 + 11) + rmX5_canGive.locals ≤ R.locals) : am_Cal l dC dI ad cy R 0 0 cqX5_canGive fX5_canGive :=
  ⟨okX5_canGive, am_inU 540 (by decide +kernel) (by decide +kernel), Nat.le_refl _, Nat.le_refl _, h1, h2, ⟨by decide, by decide, by decide +kernel⟩, ⟨by decide, rfl⟩, Or.inl ⟨_, _, rfl⟩⟩
abbrev rmX6_accepts : Room := { frames := 1, cells := 0, slots := 0, locals := 22 }
def cqX6_accepts : am_C := (yX6_accepts, .code yX6_accepts cX6_accepts 2 (some .boolean), rmX6_accepts, none, 2, 2)
theorem okX6_accepts {l : Launch} {dC : Nat → ClassId} {dI ad : Nat → Nat → Nat} {cy : Nat → ClassId} : am_Ok l dC dI ad cy yX6_accepts (.code yX6_accepts cX6_accepts 2 (some .boolean)) rmX6_accepts fX6_accepts :=
  am_meth_ok (ci := [cqX9_isWithin]) (by decide +kernel) rfl ⟨rfl, rfl⟩ (am_rows_of (by decide +kernel) (am_words_of [380, 56, 605, 607, 380, 56] (by decide +kernel) (by decide +kernel))) (am_cs_cons (calX9_isWithin (by decide) (by decide)) am_cs_nil) (am_cv_of (by decide +kernel))
theorem calX6_accepts {l : Launch} {dC : Nat → ClassId} {dI ad : Nat → Nat → Nat} {cy : Nat → ClassId} {R : Room} (h1 : rmX6_accepts.frames + 1 ≤ R.frames) (h2 : 8 + (2 + 11) + rmX6_accepts.locals ≤ R.locals) : am_Cal l dC dI ad cy R 0 0 cqX6_accepts fX6_accepts :=
  ⟨okX6_accepts, am_inU 604 (by decide +kernel) (by decide +kernel), Nat.le_refl _, Nat.le_refl _, h1, h2, ⟨by decide, by decide, by decide +kernel⟩, trivial, Or.inl ⟨_, _, rfl⟩⟩
abbrev rmX6_kindOf : Room := { frames := 0, cells := 0, slots := 0, locals := 0 }
def cqX6_kindOf : am_C := (yX6_kindOf, .code yX6_kindOf cX6_kindOf 2 (some .int), rmX6_kindOf, some 6, 1, 2)
theorem okX6_kindOf {l : Launch} {dC : Nat → ClassId} {dI ad : Nat → Nat → Nat} {cy : Nat → ClassId} : am_Ok l dC dI ad cy yX6_kindOf (.code yX6_kindOf cX6_kindOf 2 (some .int)) rmX6_kindOf fX6_kindOf :=
  am_meth_ok (ci := []) (by decide +kernel) rfl ⟨rfl, rfl⟩ (am_rows_of (by decide +kernel) (am_words_of [163] (by decide +kernel) (by decide +kernel))) am_cs_nil (am_cv_of (by decide +kernel))
theorem calX6_kindOf {l : Launch} {dC : Nat → ClassId} {dI ad : Nat → Nat → Nat} {cy : Nat → ClassId} {R : Room} (h1 : rmX6_kindOf.frames + 1 ≤ R.frames) (h2 : 8 + (2 + 11) + rmX6_kindOf.locals ≤ R.locals) : am_Cal l dC dI ad cy R 0 0 cqX6_kindOf fX6_kindOf :=
  ⟨okX6_kindOf, am_inU 532 (by decide +kernel) (by decide +kernel), Nat.le_refl _, Nat.le_refl _, h1, h2, ⟨by decide, by decide, by decide +kernel⟩, ⟨by decide, rfl⟩, Or.inl ⟨_, _, rfl⟩⟩
abbrev rmX6_doseOf : Room := { frames := 0, cells := 0, slots := 0, locals := 0 }
def cqX6_doseOf : am_C := (yX6_doseOf, .code yX6_doseOf cX6_doseOf 2 (some .int), rmX6_doseOf, some 6, 1, 2)
theorem okX6_doseOf {l : Launch} {dC : Nat → ClassId} {dI ad : Nat → Nat → Nat} {cy : Nat → ClassId} : am_Ok l dC dI ad cy yX6_doseOf (.code yX6_doseOf cX6_doseOf 2 (some .int)) rmX6_doseOf fX6_doseOf :=
  am_meth_ok (ci := []) (by decide +kernel) rfl ⟨rfl, rfl⟩ (am_rows_of (by decide +kernel) (am_words_of [163] (by decide +kernel) (by decide +kernel))) am_cs_nil (am_cv_of (by decide +kernel))
theorem calX6_doseOf {l : Launch} {dC : Nat → ClassId} {dI ad : Nat → Nat → Nat} {cy : Nat → ClassId} {R : Room} (h1 : rmX6_doseOf.frames + 1 ≤ R.frames) (h2 : 8 + (2 + 11) + rmX6_doseOf.locals ≤ R.locals) : am_Cal l dC dI ad cy R 0 0 cqX6_doseOf fX6_doseOf :=
  ⟨okX6_doseOf, am_inU 536 (by decide +kernel) (by decide +kernel), Nat.le_refl _, Nat.le_refl _, h1, h2, ⟨by decide, by decide, by decide +kernel⟩, ⟨by decide, rfl⟩, Or.inl ⟨_, _, rfl⟩⟩
abbrev rmX6_ageOf : Room := { frames := 0, cells := 0, slots := 0, locals := 0 }
def cqX6_ageOf : am_C := (yX6_ageOf, .code yX6_ageOf cX6_ageOf 2 (some .int), rmX6_ageOf, some 6, 1, 2)
theorem okX6_ageOf {l : Launch} {dC : Nat → ClassId} {dI ad : Nat → Nat → Nat} {cy : Nat → ClassId} : am_Ok l dC dI ad cy yX6_ageOf (.code yX6_ageOf cX6_ageOf 2 (some .int)) rmX6_ageOf fX6_ageOf :=
  am_meth_ok (ci := []) (by decide +kernel) rfl ⟨rfl, rfl⟩ (am_rows_of (by decide +kernel) (am_words_of [163] (by decide +kernel) (by decide +kernel))) am_cs_nil (am_cv_of (by decide +kernel))
theorem calX6_ageOf {l : Launch} {dC : Nat → ClassId} {dI ad : Nat → Nat → Nat} {cy : Nat → ClassId} {R : Room} (h1 : rmX6_ageOf.frames + 1 ≤ R.frames) (h2 : 8 + (2 + 11) + rmX6_ageOf.locals ≤ R.locals) : am_Cal l dC dI ad cy R 0 0 cqX6_ageOf fX6_ageOf :=
  ⟨okX6_ageOf, am_inU 562 (by decide +kernel) (by decide +kernel), Nat.le_refl _, Nat.le_refl _, h1, h2, ⟨by decide, by decide, by decide +kernel⟩, ⟨by decide, rfl⟩, Or.inl ⟨_, _, rfl⟩⟩
abbrev rmX6_lacks : Room := { frames := 1, cells := 0, slots := 0, locals := 21 }
def cqX6_lacks : am_C := (yX6_lacks, .code yX6_lacks cX6_lacks 3 (some .boolean), rmX6_lacks, some 6, 2, 3)
theorem okX6_lacks {l : Launch} {dC : Nat → ClassId} {dI ad : Nat → Nat → Nat} {cy : Nat → ClassId} : am_Ok l dC dI ad cy yX6_lacks (.code yX6_lacks cX6_lacks 3 (some .boolean)) rmX6_lacks fX6_lacks :=
  am_meth_ok (ci := [cqX6_kindOf]) (by decide +kernel) rfl ⟨rfl, rfl⟩ (am_rows_of (by decide +kernel) (am_words_of [545, 530, 531, 59] (by decide +kernel) (by decide +kernel))) (am_cs_cons (calX6_kindOf (by decide) (by decide)) am_cs_nil) (am_cv_of (by decide +kernel))
theorem calX6_lacks {l : Launch} {dC : Nat → ClassId} {dI ad : Nat → Nat → Nat} {cy : Nat → ClassId} {R : Room} (h1 : rmX6_lacks.frames + 1 ≤ R.frames) (h2 : 8 + (3 + 11) + rmX6_lacks.locals ≤ R.locals) : am_Cal l dC dI ad cy R 0 0 cqX6_lacks fX6_lacks :=
  ⟨okX6_lacks, am_inU 544 (by decide +kernel) (by decide +kernel), Nat.le_refl _, Nat.le_refl _, h1, h2, ⟨by decide, by decide, by decide +kernel⟩, ⟨by decide, rfl⟩, Or.inl ⟨_, _, rfl⟩⟩
abbrev rmX6_sampleVolume : Room := { frames := 0, cells := 0, slots := 0, locals := 0 }
def cqX6_sampleVolume : am_C := (yX6_sampleVolume, .code yX6_sampleVolume cX6_sampleVolume 3 (some .int), rmX6_sampleVolume, some 6, 1, 3)
theorem okX6_sampleVolume {l : Launch} {dC : Nat → ClassId} {dI ad : Nat → Nat → Nat} {cy : Nat → ClassId} : am_Ok l dC dI ad cy yX6_sampleVolume (.code yX6_sampleVolume cX6_sampleVolume 3 (some .int)) rmX6_sampleVolume fX6_sampleVolume :=
  am_meth_ok (ci := []) (by decide +kernel) rfl ⟨rfl, rfl⟩ (am_rows_of (by decide +kernel) (am_words_of [163, 163, 163] (by decide +kernel) (by decide +kernel))) am_cs_nil (am_cv_of (by decide +kernel))
theorem calX6_sampleVolume {l : Launch} {dC : Nat → ClassId} {dI ad : Nat → Nat → Nat} {cy : Nat → ClassId} {R : Room} (h1 : rmX6_sampleVolume.frames + 1 ≤ R.frames) (h2 : 8 + (3 + 11) + rmX6_sampleVolume.locals ≤ R.locals) : am_Cal l dC dI ad cy R 0 0 cqX6_sampleVolume fX6_sampleVolume :=
  ⟨okX6_sampleVolume, am_inU 523 (by decide +kernel) (by decide +kernel), Nat.le_refl _, Nat.le_refl _, h1, h2, ⟨by decide, by decide, by decide +kernel⟩, ⟨by decide, rfl⟩, Or.inl ⟨_, _, rfl⟩⟩
abbrev rmX6_isReagentRight : Room := { frames := 1, cells := 0, slots := 0, locals := 21 }
def cqX6_isReagentRight : am_C := (yX6_isReagentRight, .code yX6_isReagentRight cX6_isReagentRight 2 (some .boolean), rmX6_isReagentRight, some 6, 1, 2)
theorem okX6_isReagentRight {l : Launch} {dC : Nat → ClassId} {dI ad : Nat → Nat → Nat} {cy : Nat → ClassId} : am_Ok l dC dI ad cy yX6_isReagentRight (.code yX6_isReagentRight cX6_isReagentRight 2 (some .boolean)) rmX6_isReagentRight fX6_isReagentRight :=
  am_meth_ok (ci := [cqX6_doseOf, cqX6_ageOf]) (by decide +kernel) rfl ⟨rfl, rfl⟩ (am_rows_of (by decide +kernel) (am_words_of [742, 534, 535, 59, 743, 560, 561, 59, 743, 560, 561, 59, 163] (by decide +kernel) (by decide +kernel))) (am_cs_cons (calX6_doseOf (by decide) (by decide)) (am_cs_cons (calX6_ageOf (by decide) (by decide)) am_cs_nil)) (am_cv_of (by decide +kernel))
theorem calX6_isReagentRight {l : Launch} {dC : Nat → ClassId} {dI ad : Nat → Nat → Nat} {cy : Nat → ClassId} {R : Room} (h1 : rmX6_isReagentRight.frames + 1 ≤ R.frames) (h2 : 8 + (2 + 11) + rmX6_isReagentRight.locals ≤ R.locals) : am_Cal l dC dI ad cy R 0 0 cqX6_isReagentRight fX6_isReagentRight :=
  ⟨okX6_isReagentRight, am_inU 741 (by decide +kernel) (by decide +kernel), Nat.le_refl _, Nat.le_refl _, h1, h2, ⟨by decide, by decide, by decide +kernel⟩, ⟨by decide, rfl⟩, Or.inl ⟨_, _, rfl⟩⟩
abbrev rmX6_areReagentsRight : Room := { frames := 2, cells := 0, slots := 0, locals := 42 }
def cqX6_areReagentsRight : am_C := (yX6_areReagentsRight, .code yX6_areReagentsRight cX6_areReagentsRight 1 (some .boolean), rmX6_areReagentsRight, some 6, 0, 1)
theorem okX6_areReagentsRight {l : Launch} {dC : Nat → ClassId} {dI ad : Nat → Nat → Nat} {cy : Nat → ClassId} : am_Ok l dC dI ad cy yX6_areReagentsRight (.code yX6_areReagentsRight cX6_areReagentsRight 1 (some .boolean)) rmX6_areReagentsRight fX6_areReagentsRight :=
  am_meth_ok (ci := [cqX6_kindOf, cqX6_isReagentRight, cqX6_ageOf]) (by decide +kernel) rfl ⟨rfl, rfl⟩ (am_rows_of (by decide +kernel) (am_words_of [545, 530, 531, 59, 545, 530, 531, 59, 738, 740, 21, 59, 545, 530, 531, 59, 738, 740, 21, 59, 743, 560, 561, 59, 743, 560, 561, 59] (by decide +kernel) (by decide +kernel))) (am_cs_cons (calX6_kindOf (by decide) (by decide)) (am_cs_cons (calX6_isReagentRight (by decide) (by decide)) (am_cs_cons (calX6_ageOf (by decide) (by decide)) am_cs_nil))) (am_cv_of (by decide +kernel))
theorem calX6_areReagentsRight {l : Launch} {dC : Nat → ClassId} {dI ad : Nat → Nat → Nat} {cy : Nat → ClassId} {R : Room} (h1 : rmX6_areReagentsRight.frames + 1 ≤ R.frames) (h2 : 8 + (1 + 11) + rmX6_areReagentsRight.locals ≤ R.locals) : am_Cal l dC dI ad cy R 0 0 cqX6_areReagentsRight fX6_areReagentsRight :=
  ⟨okX6_areReagentsRight, am_inU 737 (by decide +kernel) (by decide +kernel), Nat.le_refl _, Nat.le_refl _, h1, h2, ⟨by decide, by decide, by decide +kernel⟩, ⟨by decide, rfl⟩, Or.inl ⟨_, _, rfl⟩⟩
abbrev rmX6_areReadingsRight : Room := { frames := 1, cells := 0, slots := 0, locals := 22 }
def cqX6_areReadingsRight : am_C := (yX6_areReadingsRight, .code yX6_areReadingsRight cX6_areReadingsRight 3 (some .boolean), rmX6_areReadingsRight, some 6, 0, 3)
theorem okX6_areReadingsRight {l : Launch} {dC : Nat → ClassId} {dI ad : Nat → Nat → Nat} {cy : Nat → ClassId} : am_Ok l dC dI ad cy yX6_areReadingsRight (.code yX6_areReadingsRight cX6_areReadingsRight 3 (some .boolean)) rmX6_areReadingsRight fX6_areReadingsRight :=
  am_meth_ok (ci := [cqX9_isWithin]) (by decide +kernel) rfl ⟨rfl, rfl⟩ (am_rows_of (by decide +kernel) (am_words_of [163, 163, 163, 163, 380, 56] (by decide +kernel) (by decide +kernel))) (am_cs_cons (calX9_isWithin (by decide) (by decide)) am_cs_nil) (am_cv_of (by decide +kernel))
theorem calX6_areReadingsRight {l : Launch} {dC : Nat → ClassId} {dI ad : Nat → Nat → Nat} {cy : Nat → ClassId} {R : Room} (h1 : rmX6_areReadingsRight.frames + 1 ≤ R.frames) (h2 : 8 + (3 + 11) + rmX6_areReadingsRight.locals ≤ R.locals) : am_Cal l dC dI ad cy R 0 0 cqX6_areReadingsRight fX6_areReadingsRight :=
  ⟨okX6_areReadingsRight, am_inU 747 (by decide +kernel) (by decide +kernel), Nat.le_refl _, Nat.le_refl _, h1, h2, ⟨by decide, by decide, by decide +kernel⟩, ⟨by decide, rfl⟩, Or.inl ⟨_, _, rfl⟩⟩
abbrev rmX6_dilutes : Room := { frames := 0, cells := 0, slots := 0, locals := 0 }
def cqX6_dilutes : am_C := (yX6_dilutes, .code yX6_dilutes cX6_dilutes 1 (some .boolean), rmX6_dilutes, some 6, 0, 1)
theorem okX6_dilutes {l : Launch} {dC : Nat → ClassId} {dI ad : Nat → Nat → Nat} {cy : Nat → ClassId} : am_Ok l dC dI ad cy yX6_dilutes (.code yX6_dilutes cX6_dilutes 1 (some .boolean)) rmX6_dilutes fX6_dilutes :=
  am_meth_ok (ci := []) (by decide +kernel) rfl ⟨rfl, rfl⟩ (am_rows_of (by decide +kernel) (am_words_of [163] (by decide +kernel) (by decide +kernel))) am_cs_nil (am_cv_of (by decide +kernel))
theorem calX6_dilutes {l : Launch} {dC : Nat → ClassId} {dI ad : Nat → Nat → Nat} {cy : Nat → ClassId} {R : Room} (h1 : rmX6_dilutes.frames + 1 ≤ R.frames) (h2 : 8 + (1 + 11) + rmX6_dilutes.locals ≤ R.locals) : am_Cal l dC dI ad cy R 0 0 cqX6_dilutes fX6_dilutes :=
  ⟨okX6_dilutes, am_inU 494 (by decide +kernel) (by decide +kernel), Nat.le_refl _, Nat.le_refl _, h1, h2, ⟨by decide, by decide, by decide +kernel⟩, ⟨by decide, rfl⟩, Or.inl ⟨_, _, rfl⟩⟩
abbrev rmX6_isDilutionRight : Room := { frames := 1, cells := 0, slots := 0, locals := 20 }
def cqX6_isDilutionRight : am_C := (yX6_isDilutionRight, .code yX6_isDilutionRight cX6_isDilutionRight 2 (some .boolean), rmX6_isDilutionRight, some 6, 0, 2)
theorem okX6_isDilutionRight {l : Launch} {dC : Nat → ClassId} {dI ad : Nat → Nat → Nat} {cy : Nat → ClassId} : am_Ok l dC dI ad cy yX6_isDilutionRight (.code yX6_isDilutionRight cX6_isDilutionRight 2 (some .boolean)) rmX6_isDilutionRight fX6_isDilutionRight :=
  am_meth_ok (ci := [cqX6_dilutes]) (by decide +kernel) rfl ⟨rfl, rfl⟩ (am_rows_of (by decide +kernel) (am_words_of [163, 752, 492, 493, 59, 163] (by decide +kernel) (by decide +kernel))) (am_cs_cons (calX6_dilutes (by decide) (by decide)) am_cs_nil) (am_cv_of (by decide +kernel))
theorem calX6_isDilutionRight {l : Launch} {dC : Nat → ClassId} {dI ad : Nat → Nat → Nat} {cy : Nat → ClassId} {R : Room} (h1 : rmX6_isDilutionRight.frames + 1 ≤ R.frames) (h2 : 8 + (2 + 11) + rmX6_isDilutionRight.locals ≤ R.locals) : am_Cal l dC dI ad cy R 0 0 cqX6_isDilutionRight fX6_isDilutionRight :=
  ⟨okX6_isDilutionRight, am_inU 751 (by decide +kernel) (by decide +kernel), Nat.le_refl _, Nat.le_refl _, h1, h2, ⟨by decide, by decide, by decide +kernel⟩, ⟨by decide, rfl⟩, Or.inl ⟨_, _, rfl⟩⟩
abbrev rmX6_isComplete : Room := { frames := 3, cells := 0, slots := 0, locals := 62 }
def cqX6_isComplete : am_C := (yX6_isComplete, .code yX6_isComplete cX6_isComplete 1 (some .boolean), rmX6_isComplete, some 6, 0, 1)
theorem okX6_isComplete {l : Launch} {dC : Nat → ClassId} {dI ad : Nat → Nat → Nat} {cy : Nat → ClassId} : am_Ok l dC dI ad cy yX6_isComplete (.code yX6_isComplete cX6_isComplete 1 (some .boolean)) rmX6_isComplete fX6_isComplete :=
  am_meth_ok (ci := [cqX6_areReagentsRight, cqX6_areReadingsRight, cqX6_isDilutionRight, cqX0_isComplete]) (by decide +kernel) rfl ⟨rfl, rfl⟩ (am_rows_of (by decide +kernel) (am_words_of [163, 734, 736, 20, 59, 744, 746, 22, 59, 163, 163, 748, 750, 23, 59, 165, 753, 754, 755, 60] (by decide +kernel) (by decide +kernel))) (am_cs_cons (calX6_areReagentsRight (by decide) (by decide)) (am_cs_cons (calX6_areReadingsRight (by decide) (by decide)) (am_cs_cons (calX6_isDilutionRight (by decide) (by decide)) (am_cs_cons (calX0_isComplete (by decide) (by decide)) am_cs_nil)))) (am_cv_of (by decide +kernel))
theorem calX6_isComplete {l : Launch} {dC : Nat → ClassId} {dI ad : Nat → Nat → Nat} {cy : Nat → ClassId} {R : Room} (h1 : rmX6_isComplete.frames + 1 ≤ R.frames) (h2 : 8 + (1 + 11) + rmX6_isComplete.locals ≤ R.locals) : am_Cal l dC dI ad cy R 0 0 cqX6_isComplete fX6_isComplete :=
  ⟨okX6_isComplete, am_inU 733 (by decide +kernel) (by decide +kernel), Nat.le_refl _, Nat.le_refl _, h1, h2, ⟨by decide, by decide, by decide +kernel⟩, ⟨by decide, rfl⟩, Or.inl ⟨_, _, rfl⟩⟩
abbrev rmX6_isReadAt : Room := { frames := 1, cells := 0, slots := 0, locals := 22 }
def cqX6_isReadAt : am_C := (yX6_isReadAt, .code yX6_isReadAt cX6_isReadAt 2 (some .boolean), rmX6_isReadAt, some 6, 1, 2)
theorem okX6_isReadAt {l : Launch} {dC : Nat → ClassId} {dI ad : Nat → Nat → Nat} {cy : Nat → ClassId} : am_Ok l dC dI ad cy yX6_isReadAt (.code yX6_isReadAt cX6_isReadAt 2 (some .boolean)) rmX6_isReadAt fX6_isReadAt :=
  am_meth_ok (ci := [cqX9_isWithin]) (by decide +kernel) rfl ⟨rfl, rfl⟩ (am_rows_of (by decide +kernel) (am_words_of [163, 163, 380, 56] (by decide +kernel) (by decide +kernel))) (am_cs_cons (calX9_isWithin (by decide) (by decide)) am_cs_nil) (am_cv_of (by decide +kernel))
theorem calX6_isReadAt {l : Launch} {dC : Nat → ClassId} {dI ad : Nat → Nat → Nat} {cy : Nat → ClassId} {R : Room} (h1 : rmX6_isReadAt.frames + 1 ≤ R.frames) (h2 : 8 + (2 + 11) + rmX6_isReadAt.locals ≤ R.locals) : am_Cal l dC dI ad cy R 0 0 cqX6_isReadAt fX6_isReadAt :=
  ⟨okX6_isReadAt, am_inU 427 (by decide +kernel) (by decide +kernel), Nat.le_refl _, Nat.le_refl _, h1, h2, ⟨by decide, by decide, by decide +kernel⟩, ⟨by decide, rfl⟩, Or.inl ⟨_, _, rfl⟩⟩
abbrev rmX6_isOverAt : Room := { frames := 0, cells := 0, slots := 0, locals := 0 }
def cqX6_isOverAt : am_C := (yX6_isOverAt, .code yX6_isOverAt cX6_isOverAt 2 (some .boolean), rmX6_isOverAt, some 6, 1, 2)
theorem okX6_isOverAt {l : Launch} {dC : Nat → ClassId} {dI ad : Nat → Nat → Nat} {cy : Nat → ClassId} : am_Ok l dC dI ad cy yX6_isOverAt (.code yX6_isOverAt cX6_isOverAt 2 (some .boolean)) rmX6_isOverAt fX6_isOverAt :=
  am_meth_ok (ci := []) (by decide +kernel) rfl ⟨rfl, rfl⟩ (am_rows_of (by decide +kernel) (am_words_of [163] (by decide +kernel) (by decide +kernel))) am_cs_nil (am_cv_of (by decide +kernel))
theorem calX6_isOverAt {l : Launch} {dC : Nat → ClassId} {dI ad : Nat → Nat → Nat} {cy : Nat → ClassId} {R : Room} (h1 : rmX6_isOverAt.frames + 1 ≤ R.frames) (h2 : 8 + (2 + 11) + rmX6_isOverAt.locals ≤ R.locals) : am_Cal l dC dI ad cy R 0 0 cqX6_isOverAt fX6_isOverAt :=
  ⟨okX6_isOverAt, am_inU 440 (by decide +kernel) (by decide +kernel), Nat.le_refl _, Nat.le_refl _, h1, h2, ⟨by decide, by decide, by decide +kernel⟩, ⟨by decide, rfl⟩, Or.inl ⟨_, _, rfl⟩⟩
abbrev rmX6_asksAgain : Room := { frames := 0, cells := 0, slots := 0, locals := 0 }
def cqX6_asksAgain : am_C := (yX6_asksAgain, .code yX6_asksAgain cX6_asksAgain 2 (some .boolean), rmX6_asksAgain, some 6, 1, 2)
theorem okX6_asksAgain {l : Launch} {dC : Nat → ClassId} {dI ad : Nat → Nat → Nat} {cy : Nat → ClassId} : am_Ok l dC dI ad cy yX6_asksAgain (.code yX6_asksAgain cX6_asksAgain 2 (some .boolean)) rmX6_asksAgain fX6_asksAgain :=
  am_meth_ok (ci := []) (by decide +kernel) rfl ⟨rfl, rfl⟩ (am_rows_of (by decide +kernel) (am_words_of [163, 163] (by decide +kernel) (by decide +kernel))) am_cs_nil (am_cv_of (by decide +kernel))
theorem calX6_asksAgain {l : Launch} {dC : Nat → ClassId} {dI ad : Nat → Nat → Nat} {cy : Nat → ClassId} {R : Room} (h1 : rmX6_asksAgain.frames + 1 ≤ R.frames) (h2 : 8 + (2 + 11) + rmX6_asksAgain.locals ≤ R.locals) : am_Cal l dC dI ad cy R 0 0 cqX6_asksAgain fX6_asksAgain :=
  ⟨okX6_asksAgain, am_inU 490 (by decide +kernel) (by decide +kernel), Nat.le_refl _, Nat.le_refl _, h1, h2, ⟨by decide, by decide, by decide +kernel⟩, ⟨by decide, rfl⟩, Or.inl ⟨_, _, rfl⟩⟩
abbrev rmX6_limitFlags : Room := { frames := 0, cells := 0, slots := 0, locals := 0 }
def cqX6_limitFlags : am_C := (yX6_limitFlags, .code yX6_limitFlags cX6_limitFlags 2 (some .int), rmX6_limitFlags, some 6, 1, 2)
theorem okX6_limitFlags {l : Launch} {dC : Nat → ClassId} {dI ad : Nat → Nat → Nat} {cy : Nat → ClassId} : am_Ok l dC dI ad cy yX6_limitFlags (.code yX6_limitFlags cX6_limitFlags 2 (some .int)) rmX6_limitFlags fX6_limitFlags :=
  am_meth_ok (ci := []) (by decide +kernel) rfl ⟨rfl, rfl⟩ (am_rows_of (by decide +kernel) (am_words_of [163, 163] (by decide +kernel) (by decide +kernel))) am_cs_nil (am_cv_of (by decide +kernel))
theorem calX6_limitFlags {l : Launch} {dC : Nat → ClassId} {dI ad : Nat → Nat → Nat} {cy : Nat → ClassId} {R : Room} (h1 : rmX6_limitFlags.frames + 1 ≤ R.frames) (h2 : 8 + (2 + 11) + rmX6_limitFlags.locals ≤ R.locals) : am_Cal l dC dI ad cy R 0 0 cqX6_limitFlags fX6_limitFlags :=
  ⟨okX6_limitFlags, am_inU 482 (by decide +kernel) (by decide +kernel), Nat.le_refl _, Nat.le_refl _, h1, h2, ⟨by decide, by decide, by decide +kernel⟩, ⟨by decide, rfl⟩, Or.inl ⟨_, _, rfl⟩⟩
abbrev rmX6_valueAt : Room := { frames := 3, cells := 0, slots := 0, locals := 74 }
def cqX6_valueAt : am_C := (yX6_valueAt, .code yX6_valueAt cX6_valueAt 6 (some .long), rmX6_valueAt, some 6, 2, 6)
theorem okX6_valueAt {l : Launch} {dC : Nat → ClassId} {dI ad : Nat → Nat → Nat} {cy : Nat → ClassId} : am_Ok l dC dI ad cy yX6_valueAt (.code yX6_valueAt cX6_valueAt 6 (some .long)) rmX6_valueAt fX6_valueAt :=
  am_meth_ok (ci := [cqX0_valueAt]) (by decide +kernel) rfl ⟨rfl, rfl⟩ (am_rows_of (by decide +kernel) (am_words_of [165, 463, 464, 465, 60, 163] (by decide +kernel) (by decide +kernel))) (am_cs_cons (calX0_valueAt (by decide) (by decide)) am_cs_nil) (am_cv_of (by decide +kernel))
theorem calX6_valueAt {l : Launch} {dC : Nat → ClassId} {dI ad : Nat → Nat → Nat} {cy : Nat → ClassId} {R : Room} (h1 : rmX6_valueAt.frames + 1 ≤ R.frames) (h2 : 8 + (6 + 11) + rmX6_valueAt.locals ≤ R.locals) : am_Cal l dC dI ad cy R 0 0 cqX6_valueAt fX6_valueAt :=
  ⟨okX6_valueAt, am_inU 462 (by decide +kernel) (by decide +kernel), Nat.le_refl _, Nat.le_refl _, h1, h2, ⟨by decide, by decide, by decide +kernel⟩, ⟨by decide, rfl⟩, Or.inl ⟨_, _, rfl⟩⟩
abbrev rmX6_rateOf : Room := { frames := 2, cells := 0, slots := 0, locals := 48 }
def cqX6_rateOf : am_C := (yX6_rateOf, .code yX6_rateOf cX6_rateOf 11 (some .long), rmX6_rateOf, none, 2, 11)
theorem okX6_rateOf {l : Launch} {dC : Nat → ClassId} {dI ad : Nat → Nat → Nat} {cy : Nat → ClassId} : am_Ok l dC dI ad cy yX6_rateOf (.code yX6_rateOf cX6_rateOf 11 (some .long)) rmX6_rateOf fX6_rateOf :=
  am_meth_ok (ci := [cqX9_rounded]) (by decide +kernel) rfl ⟨rfl, rfl⟩ (am_rows_of (by decide +kernel) (am_words_of [452, 454, 56] (by decide +kernel) (by decide +kernel))) (am_cs_cons (calX9_rounded (by decide) (by decide)) am_cs_nil) (am_cv_of (by decide +kernel))
theorem calX6_rateOf {l : Launch} {dC : Nat → ClassId} {dI ad : Nat → Nat → Nat} {cy : Nat → ClassId} {R : Room} (h1 : rmX6_rateOf.frames + 1 ≤ R.frames) (h2 : 8 + (11 + 11) + rmX6_rateOf.locals ≤ R.locals) : am_Cal l dC dI ad cy R 0 0 cqX6_rateOf fX6_rateOf :=
  ⟨okX6_rateOf, am_inU 451 (by decide +kernel) (by decide +kernel), Nat.le_refl _, Nat.le_refl _, h1, h2, ⟨by decide, by decide, by decide +kernel⟩, trivial, Or.inl ⟨_, _, rfl⟩⟩
abbrev rmX6_formulaOf : Room := { frames := 3, cells := 0, slots := 0, locals := 78 }
def cqX6_formulaOf : am_C := (yX6_formulaOf, .code yX6_formulaOf cX6_formulaOf 4 (some .long), rmX6_formulaOf, some 6, 2, 4)
theorem okX6_formulaOf {l : Launch} {dC : Nat → ClassId} {dI ad : Nat → Nat → Nat} {cy : Nat → ClassId} : am_Ok l dC dI ad cy yX6_formulaOf (.code yX6_formulaOf cX6_formulaOf 4 (some .long)) rmX6_formulaOf fX6_formulaOf :=
  am_meth_ok (ci := [cqX9_isWithin, cqX6_rateOf]) (by decide +kernel) rfl ⟨rfl, rfl⟩ (am_rows_of (by decide +kernel) (am_words_of [380, 56, 163, 450, 59, 449, 163] (by decide +kernel) (by decide +kernel))) (am_cs_cons (calX9_isWithin (by decide) (by decide)) (am_cs_cons (calX6_rateOf (by decide) (by decide)) am_cs_nil)) (am_cv_of (by decide +kernel))
theorem calX6_formulaOf {l : Launch} {dC : Nat → ClassId} {dI ad : Nat → Nat → Nat} {cy : Nat → ClassId} {R : Room} (h1 : rmX6_formulaOf.frames + 1 ≤ R.frames) (h2 : 8 + (4 + 11) + rmX6_formulaOf.locals ≤ R.locals) : am_Cal l dC dI ad cy R 0 0 cqX6_formulaOf fX6_formulaOf :=
  ⟨okX6_formulaOf, am_inU 448 (by decide +kernel) (by decide +kernel), Nat.le_refl _, Nat.le_refl _, h1, h2, ⟨by decide, by decide, by decide +kernel⟩, ⟨by decide, rfl⟩, Or.inl ⟨_, _, rfl⟩⟩
abbrev rmX6_brokenRules : Room := { frames := 3, cells := 0, slots := 0, locals := 68 }
def cqX6_brokenRules : am_C := (yX6_brokenRules, .code yX6_brokenRules cX6_brokenRules 8 (some .int), rmX6_brokenRules, some 6, 0, 8)
theorem okX6_brokenRules {l : Launch} {dC : Nat → ClassId} {dI ad : Nat → Nat → Nat} {cy : Nat → ClassId} : am_Ok l dC dI ad cy yX6_brokenRules (.code yX6_brokenRules cX6_brokenRules 8 (some .int)) rmX6_brokenRules fX6_brokenRules :=
  am_meth_ok (ci := [cqX2_above, cqX2_below]) (by decide +kernel) rfl ⟨rfl, rfl⟩ (am_rows_of (by decide +kernel) (am_words_of [163, 163, 167, 929, 930, 931, 932, 61, 167, 929, 935, 936, 937, 61, 167, 939, 930, 931, 932, 61, 167, 939, 935, 936, 937, 61, 167, 930, 931, 932, 61, 167, 935, 936, 937, 61] (by decide +kernel) (by decide +kernel))) (am_cs_cons (calX2_above (by decide) (by decide)) (am_cs_cons (calX2_below (by decide) (by decide)) am_cs_nil)) (am_cv_of (by decide +kernel))
theorem calX6_brokenRules {l : Launch} {dC : Nat → ClassId} {dI ad : Nat → Nat → Nat} {cy : Nat → ClassId} {R : Room} (h1 : rmX6_brokenRules.frames + 1 ≤ R.frames) (h2 : 8 + (8 + 11) + rmX6_brokenRules.locals ≤ R.locals) : am_Cal l dC dI ad cy R 0 0 cqX6_brokenRules fX6_brokenRules :=
  ⟨okX6_brokenRules, am_inU 928 (by decide +kernel) (by decide +kernel), Nat.le_refl _, Nat.le_refl _, h1, h2, ⟨by decide, by decide, by decide +kernel⟩, ⟨by decide, rfl⟩, Or.inl ⟨_, _, rfl⟩⟩
abbrev rmX7_turnSuccession : Room := { frames := 0, cells := 0, slots := 0, locals := 0 }
def cqX7_turnSuccession : am_C := (yX7_turnSuccession, .code yX7_turnSuccession cX7_turnSuccession 4 (some .boolean), rmX7_turnSuccession, some 7, 2, 4)
theorem okX7_turnSuccession {l : Launch} {dC : Nat → ClassId} {dI ad : Nat → Nat → Nat} {cy : Nat → ClassId} : am_Ok l dC dI ad cy yX7_turnSuccession (.code yX7_turnSuccession cX7_turnSuccession 4 (some .boolean)) rmX7_turnSuccession fX7_turnSuccession :=
  am_meth_ok (ci := []) (by decide +kernel) rfl ⟨rfl, rfl⟩ (am_rows_of (by decide +kernel) (am_words_of [101, 101, 101] (by decide +kernel) (by decide +kernel))) am_cs_nil (am_cv_of (by decide +kernel))
theorem calX7_turnSuccession {l : Launch} {dC : Nat → ClassId} {dI ad : Nat → Nat → Nat} {cy : Nat → ClassId} {R : Room} (h1 : rmX7_turnSuccession.frames + 1 ≤ R.frames) (h2 : 8 + (4 + 11) + rmX7_turnSuccession.locals ≤ R.locals) : am_Cal l dC dI ad cy R 0 0 cqX7_turnSuccession fX7_turnSuccession :=
  ⟨okX7_turnSuccession, am_inU 829 (by decide +kernel) (by decide +kernel), Nat.le_refl _, Nat.le_refl _, h1, h2, ⟨by decide, by decide, by decide +kernel⟩, ⟨by decide, rfl⟩, Or.inl ⟨_, _, rfl⟩⟩
abbrev rmX7_clear : Room := { frames := 0, cells := 0, slots := 0, locals := 0 }
def cqX7_clear : am_C := (yX7_clear, .code yX7_clear cX7_clear 2 none, rmX7_clear, some 7, 1, 2)
theorem okX7_clear {l : Launch} {dC : Nat → ClassId} {dI ad : Nat → Nat → Nat} {cy : Nat → ClassId} : am_Ok l dC dI ad cy yX7_clear (.code yX7_clear cX7_clear 2 none) rmX7_clear fX7_clear :=
  am_meth_ok (ci := []) (by decide +kernel) rfl ⟨rfl, rfl⟩ (am_rows_of (by decide +kernel) (am_words_of [99, 100] (by decide +kernel) (by decide +kernel))) am_cs_nil (am_cv_of (by decide +kernel))
theorem calX7_clear {l : Launch} {dC : Nat → ClassId} {dI ad : Nat → Nat → Nat} {cy : Nat → ClassId} {R : Room} (h1 : rmX7_clear.frames + 1 ≤ R.frames) (h2 : 8 + (2 + 11) + rmX7_clear.locals ≤ R.locals) : am_Cal l dC dI ad cy R 0 0 cqX7_clear fX7_clear :=
  ⟨okX7_clear, am_inU 370 (by decide +kernel) (by decide +kernel), Nat.le_refl _, Nat.le_refl _, h1, h2, ⟨by decide, by decide, by decide +kernel⟩, ⟨by decide, rfl⟩, Or.inl ⟨_, _, rfl⟩⟩
abbrev rmX7_turn : Room := { frames := 1, cells := 0, slots := 0, locals := 21 }
def cqX7_turn : am_C := (yX7_turn, .code yX7_turn cX7_turn 2 none, rmX7_turn, some 7, 0, 2)
theorem okX7_turn {l : Launch} {dC : Nat → ClassId} {dI ad : Nat → Nat → Nat} {cy : Nat → ClassId} : am_Ok l dC dI ad cy yX7_turn (.code yX7_turn cX7_turn 2 none) rmX7_turn fX7_turn :=
  am_meth_ok (ci := [cqX7_clear]) (by decide +kernel) rfl ⟨rfl, rfl⟩ (am_rows_of (by decide +kernel) (am_words_of [99, 99, 100, 100, 367, 369, 1, 57] (by decide +kernel) (by decide +kernel))) (am_cs_cons (calX7_clear (by decide) (by decide)) am_cs_nil) (am_cv_of (by decide +kernel))
theorem calX7_turn {l : Launch} {dC : Nat → ClassId} {dI ad : Nat → Nat → Nat} {cy : Nat → ClassId} {R : Room} (h1 : rmX7_turn.frames + 1 ≤ R.frames) (h2 : 8 + (2 + 11) + rmX7_turn.locals ≤ R.locals) : am_Cal l dC dI ad cy R 0 0 cqX7_turn fX7_turn :=
  ⟨okX7_turn, am_inU 366 (by decide +kernel) (by decide +kernel), Nat.le_refl _, Nat.le_refl _, h1, h2, ⟨by decide, by decide, by decide +kernel⟩, ⟨by decide, rfl⟩, Or.inl ⟨_, _, rfl⟩⟩
abbrev rmX7_userNow : Room := { frames := 0, cells := 0, slots := 0, locals := 0 }
def cqX7_userNow : am_C := (yX7_userNow, .code yX7_userNow cX7_userNow 1 (some .int), rmX7_userNow, some 7, 0, 1)
theorem okX7_userNow {l : Launch} {dC : Nat → ClassId} {dI ad : Nat → Nat → Nat} {cy : Nat → ClassId} : am_Ok l dC dI ad cy yX7_userNow (.code yX7_userNow cX7_userNow 1 (some .int)) rmX7_userNow fX7_userNow :=
  am_meth_ok (ci := []) (by decide +kernel) rfl ⟨rfl, rfl⟩ (am_rows_of (by decide +kernel) (am_words_of [100] (by decide +kernel) (by decide +kernel))) am_cs_nil (am_cv_of (by decide +kernel))
theorem calX7_userNow {l : Launch} {dC : Nat → ClassId} {dI ad : Nat → Nat → Nat} {cy : Nat → ClassId} {R : Room} (h1 : rmX7_userNow.frames + 1 ≤ R.frames) (h2 : 8 + (1 + 11) + rmX7_userNow.locals ≤ R.locals) : am_Cal l dC dI ad cy R 0 0 cqX7_userNow fX7_userNow :=
  ⟨okX7_userNow, am_inU 378 (by decide +kernel) (by decide +kernel), Nat.le_refl _, Nat.le_refl _, h1, h2, ⟨by decide, by decide, by decide +kernel⟩, ⟨by decide, rfl⟩, Or.inl ⟨_, _, rfl⟩⟩
abbrev rmX7_isFree : Room := { frames := 1, cells := 0, slots := 0, locals := 22 }
def cqX7_isFree : am_C := (yX7_isFree, .code yX7_isFree cX7_isFree 2 (some .boolean), rmX7_isFree, some 7, 1, 2)
theorem okX7_isFree {l : Launch} {dC : Nat → ClassId} {dI ad : Nat → Nat → Nat} {cy : Nat → ClassId} : am_Ok l dC dI ad cy yX7_isFree (.code yX7_isFree cX7_isFree 2 (some .boolean)) rmX7_isFree fX7_isFree :=
  am_meth_ok (ci := [cqX9_isWithin]) (by decide +kernel) rfl ⟨rfl, rfl⟩ (am_rows_of (by decide +kernel) (am_words_of [380, 56, 99] (by decide +kernel) (by decide +kernel))) (am_cs_cons (calX9_isWithin (by decide) (by decide)) am_cs_nil) (am_cv_of (by decide +kernel))
theorem calX7_isFree {l : Launch} {dC : Nat → ClassId} {dI ad : Nat → Nat → Nat} {cy : Nat → ClassId} {R : Room} (h1 : rmX7_isFree.frames + 1 ≤ R.frames) (h2 : 8 + (2 + 11) + rmX7_isFree.locals ≤ R.locals) : am_Cal l dC dI ad cy R 0 0 cqX7_isFree fX7_isFree :=
  ⟨okX7_isFree, am_inU 566 (by decide +kernel) (by decide +kernel), Nat.le_refl _, Nat.le_refl _, h1, h2, ⟨by decide, by decide, by decide +kernel⟩, ⟨by decide, rfl⟩, Or.inl ⟨_, _, rfl⟩⟩
abbrev rmX7_hasForbiddenSuccession : Room := { frames := 0, cells := 0, slots := 0, locals := 0 }
def cqX7_hasForbiddenSuccession : am_C := (yX7_hasForbiddenSuccession, .code yX7_hasForbiddenSuccession cX7_hasForbiddenSuccession 2 (some .boolean), rmX7_hasForbiddenSuccession, some 7, 0, 2)
theorem okX7_hasForbiddenSuccession {l : Launch} {dC : Nat → ClassId} {dI ad : Nat → Nat → Nat} {cy : Nat → ClassId} : am_Ok l dC dI ad cy yX7_hasForbiddenSuccession (.code yX7_hasForbiddenSuccession cX7_hasForbiddenSuccession 2 (some .boolean)) rmX7_hasForbiddenSuccession fX7_hasForbiddenSuccession :=
  am_meth_ok (ci := []) (by decide +kernel) rfl ⟨rfl, rfl⟩ (am_rows_of (by decide +kernel) (am_words_of [99, 99, 101, 99, 99] (by decide +kernel) (by decide +kernel))) am_cs_nil (am_cv_of (by decide +kernel))
theorem calX7_hasForbiddenSuccession {l : Launch} {dC : Nat → ClassId} {dI ad : Nat → Nat → Nat} {cy : Nat → ClassId} {R : Room} (h1 : rmX7_hasForbiddenSuccession.frames + 1 ≤ R.frames) (h2 : 8 + (2 + 11) + rmX7_hasForbiddenSuccession.locals ≤ R.locals) : am_Cal l dC dI ad cy R 0 0 cqX7_hasForbiddenSuccession fX7_hasForbiddenSuccession :=
  ⟨okX7_hasForbiddenSuccession, am_inU 571 (by decide +kernel) (by decide +kernel), Nat.le_refl _, Nat.le_refl _, h1, h2, ⟨by decide, by decide, by decide +kernel⟩, ⟨by decide, rfl⟩, Or.inl ⟨_, _, rfl⟩⟩
abbrev rmX7_cancel : Room := { frames := 1, cells := 0, slots := 0, locals := 21 }
def cqX7_cancel : am_C := (yX7_cancel, .code yX7_cancel cX7_cancel 3 none, rmX7_cancel, some 7, 1, 3)
theorem okX7_cancel {l : Launch} {dC : Nat → ClassId} {dI ad : Nat → Nat → Nat} {cy : Nat → ClassId} : am_Ok l dC dI ad cy yX7_cancel (.code yX7_cancel cX7_cancel 3 none) rmX7_cancel fX7_cancel :=
  am_meth_ok (ci := [cqX7_clear]) (by decide +kernel) rfl ⟨rfl, rfl⟩ (am_rows_of (by decide +kernel) (am_words_of [100, 367, 369, 1, 57] (by decide +kernel) (by decide +kernel))) (am_cs_cons (calX7_clear (by decide) (by decide)) am_cs_nil) (am_cv_of (by decide +kernel))
theorem calX7_cancel {l : Launch} {dC : Nat → ClassId} {dI ad : Nat → Nat → Nat} {cy : Nat → ClassId} {R : Room} (h1 : rmX7_cancel.frames + 1 ≤ R.frames) (h2 : 8 + (3 + 11) + rmX7_cancel.locals ≤ R.locals) : am_Cal l dC dI ad cy R 0 0 cqX7_cancel fX7_cancel :=
  ⟨okX7_cancel, am_inU 389 (by decide +kernel) (by decide +kernel), Nat.le_refl _, Nat.le_refl _, h1, h2, ⟨by decide, by decide, by decide +kernel⟩, ⟨by decide, rfl⟩, Or.inl ⟨_, _, rfl⟩⟩
abbrev rmX7_book : Room := { frames := 2, cells := 0, slots := 0, locals := 43 }
def cqX7_book : am_C := (yX7_book, .code yX7_book cX7_book 4 (some .boolean), rmX7_book, some 7, 2, 4)
theorem okX7_book {l : Launch} {dC : Nat → ClassId} {dI ad : Nat → Nat → Nat} {cy : Nat → ClassId} : am_Ok l dC dI ad cy yX7_book (.code yX7_book cX7_book 4 (some .boolean)) rmX7_book fX7_book :=
  am_meth_ok (ci := [cqX6_kindOf, cqX6_ageOf, cqX7_isFree, cqX7_hasForbiddenSuccession, cqX7_cancel]) (by decide +kernel) rfl ⟨rfl, rfl⟩ (am_rows_of (by decide +kernel) (am_words_of [558, 530, 531, 59, 559, 560, 561, 59, 563, 565, 14, 57, 558, 530, 531, 59, 99, 559, 560, 561, 59, 558, 530, 531, 59, 100, 559, 560, 561, 59, 568, 570, 15, 57, 572, 387, 388, 57] (by decide +kernel) (by decide +kernel))) (am_cs_cons (calX6_kindOf (by decide) (by decide)) (am_cs_cons (calX6_ageOf (by decide) (by decide)) (am_cs_cons (calX7_isFree (by decide) (by decide)) (am_cs_cons (calX7_hasForbiddenSuccession (by decide) (by decide)) (am_cs_cons (calX7_cancel (by decide) (by decide)) am_cs_nil))))) (am_cv_of (by decide +kernel))
theorem calX7_book {l : Launch} {dC : Nat → ClassId} {dI ad : Nat → Nat → Nat} {cy : Nat → ClassId} {R : Room} (h1 : rmX7_book.frames + 1 ≤ R.frames) (h2 : 8 + (4 + 11) + rmX7_book.locals ≤ R.locals) : am_Cal l dC dI ad cy R 0 0 cqX7_book fX7_book :=
  ⟨okX7_book, am_inU 557 (by decide +kernel) (by decide +kernel), Nat.le_refl _, Nat.le_refl _, h1, h2, ⟨by decide, by decide, by decide +kernel⟩, ⟨by decide, rfl⟩, Or.inl ⟨_, _, rfl⟩⟩
abbrev rmX8_isEmpty : Room := { frames := 0, cells := 0, slots := 0, locals := 0 }
def cqX8_isEmpty : am_C := (yX8_isEmpty, .code yX8_isEmpty cX8_isEmpty 1 (some .boolean), rmX8_isEmpty, some 8, 0, 1)
theorem okX8_isEmpty {l : Launch} {dC : Nat → ClassId} {dI ad : Nat → Nat → Nat} {cy : Nat → ClassId} : am_Ok l dC dI ad cy yX8_isEmpty (.code yX8_isEmpty cX8_isEmpty 1 (some .boolean)) rmX8_isEmpty fX8_isEmpty :=
  am_meth_ok (ci := []) (by decide +kernel) rfl ⟨rfl, rfl⟩ (am_rows_of (by decide +kernel) (am_words_of [185] (by decide +kernel) (by decide +kernel))) am_cs_nil (am_cv_of (by decide +kernel))
theorem calX8_isEmpty {l : Launch} {dC : Nat → ClassId} {dI ad : Nat → Nat → Nat} {cy : Nat → ClassId} {R : Room} (h1 : rmX8_isEmpty.frames + 1 ≤ R.frames) (h2 : 8 + (1 + 11) + rmX8_isEmpty.locals ≤ R.locals) : am_Cal l dC dI ad cy R 0 0 cqX8_isEmpty fX8_isEmpty :=
  ⟨okX8_isEmpty, am_inU 773 (by decide +kernel) (by decide +kernel), Nat.le_refl _, Nat.le_refl _, h1, h2, ⟨by decide, by decide, by decide +kernel⟩, ⟨by decide, rfl⟩, Or.inl ⟨_, _, rfl⟩⟩
end
section
abbrev rmX8_fill : Room := { frames := 0, cells := 0, slots := 0, locals := 0 }
def cqX8_fill : am_C := (yX8_fill, .code yX8_fill cX8_fill 4 none, rmX8_fill, some 8, 3, 4)
theorem okX8_fill {l : Launch} {dC : Nat → ClassId} {dI ad : Nat → Nat → Nat} {cy : Nat → ClassId} : am_Ok l dC dI ad cy yX8_fill (.code yX8_fill cX8_fill 4 none) rmX8_fill fX8_fill :=
  am_meth_ok (ci := []) (by decide +kernel) rfl ⟨rfl, rfl⟩ (am_rows_of (by decide +kernel) (am_words_of [185, 187, 189] (by decide +kernel) (by decide +kernel))) am_cs_nil (am_cv_of (by decide +kernel))
theorem calX8_fill {l : Launch} {dC : Nat → ClassId} {dI ad : Nat → Nat → Nat} {cy : Nat → ClassId} {R : Room} (h1 : rmX8_fill.frames + 1 ≤ R.frames) (h2 : 8 + (4 + 11) + rmX8_fill.locals ≤ R.locals) : am_Cal l dC dI ad cy R 0 0 cqX8_fill fX8_fill :=
  ⟨okX8_fill, am_inU 777 (by decide +kernel) (by decide +kernel), Nat.le_refl _, Nat.le_refl _, h1, h2, ⟨by decide, by decide, by decide +kernel⟩, ⟨by decide, rfl⟩, Or.inl ⟨_, _, rfl⟩⟩
abbrev rmX9_demandArgument : Room := { frames := 6, cells := 0, slots := 0, locals := 120 }
def cqX9_demandArgument : am_C := (yX9_demandArgument, .code yX9_demandArgument cX9_demandArgument 1 none, rmX9_demandArgument, none, 1, 1)
theorem okX9_demandArgument {l : Launch} {dC : Nat → ClassId} {dI ad : Nat → Nat → Nat} {cy : Nat → ClassId} : am_Ok l dC dI ad cy yX9_demandArgument (.code yX9_demandArgument cX9_demandArgument 1 none) rmX9_demandArgument fX9_demandArgument := by
  intro av M M2 r hav hF
  refine am_meth_ok (cs := []) (ci := []) (rt := 0) (nL := 1) (N := 3) (P := am_pD) (by decide +kernel) rfl ⟨rfl, rfl⟩ (am_rows_of (by decide +kernel) (am_words_of [] (by decide +kernel) (by decide +kernel))) am_cs_nil (am_cv_of (by decide +kernel)) av M M2 r hav ?_
  unfold fX9_demandArgument at hF
  split at hF
  · rename_i x
    split at hF
    · cases hF
    · rename_i hx
      cases hF
      show (if x = 0 then _ else _) = _
      rw [if_neg hx]
      rfl
  · cases hF
theorem calX9_demandArgument {l : Launch} {dC : Nat → ClassId} {dI ad : Nat → Nat → Nat} {cy : Nat → ClassId} {R : Room} (h1 : rmX9_demandArgument.frames + 1 ≤ R.frames) (h2 : 8 + (1 + 11) + rmX9_demandArgument.locals ≤ R.locals) : am_Cal l dC dI ad cy R 0 0 cqX9_demandArgument fX9_demandArgument :=
  ⟨okX9_demandArgument, am_inU 611 (by decide +kernel) (by decide +kernel), Nat.le_refl _, Nat.le_refl _, h1, h2, ⟨by decide, by decide, by decide +kernel⟩, trivial, Or.inl ⟨_, _, rfl⟩⟩
abbrev rmX9_isOrdered : Room := { frames := 1, cells := 0, slots := 0, locals := 20 }
def cqX9_isOrdered : am_C := (yX9_isOrdered, .code yX9_isOrdered cX9_isOrdered 3 (some .boolean), rmX9_isOrdered, some 9, 1, 3)
theorem okX9_isOrdered {l : Launch} {dC : Nat → ClassId} {dI ad : Nat → Nat → Nat} {cy : Nat → ClassId} : am_Ok l dC dI ad cy yX9_isOrdered (.code yX9_isOrdered cX9_isOrdered 3 (some .boolean)) rmX9_isOrdered fX9_isOrdered :=
  am_meth_ok (ci := [cqX4_isOpen]) (by decide +kernel) rfl ⟨rfl, rfl⟩ (am_rows_of (by decide +kernel) (am_words_of [318, 315, 680, 681, 682, 65, 315, 273] (by decide +kernel) (by decide +kernel))) (am_cs_cons (calX4_isOpen (by decide) (by decide)) am_cs_nil) (am_cv_of (by decide +kernel))
theorem calX9_isOrdered {l : Launch} {dC : Nat → ClassId} {dI ad : Nat → Nat → Nat} {cy : Nat → ClassId} {R : Room} (h1 : rmX9_isOrdered.frames + 1 ≤ R.frames) (h2 : 8 + (3 + 11) + rmX9_isOrdered.locals ≤ R.locals) : am_Cal l dC dI ad cy R 0 0 cqX9_isOrdered fX9_isOrdered :=
  ⟨okX9_isOrdered, am_inU 679 (by decide +kernel) (by decide +kernel), Nat.le_refl _, Nat.le_refl _, h1, h2, ⟨by decide, by decide, by decide +kernel⟩, ⟨by decide, rfl⟩, Or.inl ⟨_, _, rfl⟩⟩
abbrev rmX9_demandState : Room := { frames := 6, cells := 0, slots := 0, locals := 120 }
def cqX9_demandState : am_C := (yX9_demandState, .code yX9_demandState cX9_demandState 1 none, rmX9_demandState, none, 1, 1)
theorem okX9_demandState {l : Launch} {dC : Nat → ClassId} {dI ad : Nat → Nat → Nat} {cy : Nat → ClassId} : am_Ok l dC dI ad cy yX9_demandState (.code yX9_demandState cX9_demandState 1 none) rmX9_demandState fX9_demandState := by
  intro av M M2 r hav hF
  refine am_meth_ok (cs := []) (ci := []) (rt := 0) (nL := 1) (N := 3) (P := am_pD) (by decide +kernel) rfl ⟨rfl, rfl⟩ (am_rows_of (by decide +kernel) (am_words_of [] (by decide +kernel) (by decide +kernel))) am_cs_nil (am_cv_of (by decide +kernel)) av M M2 r hav ?_
  unfold fX9_demandState at hF
  split at hF
  · rename_i x
    split at hF
    · cases hF
    · rename_i hx
      cases hF
      show (if x = 0 then _ else _) = _
      rw [if_neg hx]
      rfl
  · cases hF
theorem calX9_demandState {l : Launch} {dC : Nat → ClassId} {dI ad : Nat → Nat → Nat} {cy : Nat → ClassId} {R : Room} (h1 : rmX9_demandState.frames + 1 ≤ R.frames) (h2 : 8 + (1 + 11) + rmX9_demandState.locals ≤ R.locals) : am_Cal l dC dI ad cy R 0 0 cqX9_demandState fX9_demandState :=
  ⟨okX9_demandState, am_inU 686 (by decide +kernel) (by decide +kernel), Nat.le_refl _, Nat.le_refl _, h1, h2, ⟨by decide, by decide, by decide +kernel⟩, trivial, Or.inl ⟨_, _, rfl⟩⟩
abbrev rmX9_define : Room := { frames := 7, cells := 0, slots := 0, locals := 140 }
def cqX9_define : am_C := (yX9_define, .code yX9_define cX9_define 5 none, rmX9_define, some 9, 3, 5)
theorem okX9_define {l : Launch} {dC : Nat → ClassId} {dI ad : Nat → Nat → Nat} {cy : Nat → ClassId} : am_Ok l dC dI ad cy yX9_define (.code yX9_define cX9_define 5 none) rmX9_define fX9_define :=
  am_meth_ok (ci := [cqX9_isWithin, cqX6_accepts, cqX9_demandArgument, cqX9_isOrdered, cqX9_demandState]) (by decide +kernel) rfl ⟨rfl, rfl⟩ (am_rows_of (by decide +kernel) (am_words_of [380, 56, 379, 603, 59, 602, 610, 56, 609, 676, 678, 19, 56, 685, 56, 684, 311, 164, 170] (by decide +kernel) (by decide +kernel))) (am_cs_cons (calX9_isWithin (by decide) (by decide)) (am_cs_cons (calX6_accepts (by decide) (by decide)) (am_cs_cons (calX9_demandArgument (by decide) (by decide)) (am_cs_cons (calX9_isOrdered (by decide) (by decide)) (am_cs_cons (calX9_demandState (by decide) (by decide)) am_cs_nil))))) (am_cv_of (by decide +kernel))
theorem calX9_define {l : Launch} {dC : Nat → ClassId} {dI ad : Nat → Nat → Nat} {cy : Nat → ClassId} {R : Room} (h1 : rmX9_define.frames + 1 ≤ R.frames) (h2 : 8 + (5 + 11) + rmX9_define.locals ≤ R.locals) : am_Cal l dC dI ad cy R 0 0 cqX9_define fX9_define :=
  ⟨okX9_define, am_inU 601 (by decide +kernel) (by decide +kernel), Nat.le_refl _, Nat.le_refl _, h1, h2, ⟨by decide, by decide, by decide +kernel⟩, ⟨by decide, rfl⟩, Or.inl ⟨_, _, rfl⟩⟩
abbrev rmX9_curve : Room := { frames := 7, cells := 0, slots := 0, locals := 140 }
def cqX9_curve : am_C := (yX9_curve, .code yX9_curve cX9_curve 5 (some .int), rmX9_curve, some 9, 3, 5)
theorem okX9_curve {l : Launch} {dC : Nat → ClassId} {dI ad : Nat → Nat → Nat} {cy : Nat → ClassId} : am_Ok l dC dI ad cy yX9_curve (.code yX9_curve cX9_curve 5 (some .int)) rmX9_curve fX9_curve :=
  am_meth_ok (ci := [cqX9_isWithin, cqX0_accepts, cqX9_demandArgument, cqX9_isOrdered, cqX0_takes, cqX9_demandState, cqX0_add]) (by decide +kernel) rfl ⟨rfl, rfl⟩ (am_rows_of (by decide +kernel) (am_words_of [380, 56, 379, 710, 60, 709, 710, 60, 709, 610, 56, 609, 311, 676, 678, 19, 56, 166, 715, 716, 717, 60, 685, 56, 684, 166, 719, 720, 721, 60, 170, 166, 141] (by decide +kernel) (by decide +kernel))) (am_cs_cons (calX9_isWithin (by decide) (by decide)) (am_cs_cons (calX0_accepts (by decide) (by decide)) (am_cs_cons (calX9_demandArgument (by decide) (by decide)) (am_cs_cons (calX9_isOrdered (by decide) (by decide)) (am_cs_cons (calX0_takes (by decide) (by decide)) (am_cs_cons (calX9_demandState (by decide) (by decide)) (am_cs_cons (calX0_add (by decide) (by decide)) am_cs_nil))))))) (am_cv_of (by decide +kernel))
theorem calX9_curve {l : Launch} {dC : Nat → ClassId} {dI ad : Nat → Nat → Nat} {cy : Nat → ClassId} {R : Room} (h1 : rmX9_curve.frames + 1 ≤ R.frames) (h2 : 8 + (5 + 11) + rmX9_curve.locals ≤ R.locals) : am_Cal l dC dI ad cy R 0 0 cqX9_curve fX9_curve :=
  ⟨okX9_curve, am_inU 708 (by decide +kernel) (by decide +kernel), Nat.le_refl _, Nat.le_refl _, h1, h2, ⟨by decide, by decide, by decide +kernel⟩, ⟨by decide, rfl⟩, Or.inl ⟨_, _, rfl⟩⟩
abbrev rmX9_seal : Room := { frames := 7, cells := 0, slots := 0, locals := 140 }
def cqX9_seal : am_C := (yX9_seal, .code yX9_seal cX9_seal 3 (some .boolean), rmX9_seal, some 9, 1, 3)
theorem okX9_seal {l : Launch} {dC : Nat → ClassId} {dI ad : Nat → Nat → Nat} {cy : Nat → ClassId} : am_Ok l dC dI ad cy yX9_seal (.code yX9_seal cX9_seal 3 (some .boolean)) rmX9_seal fX9_seal :=
  am_meth_ok (ci := [cqX9_isWithin, cqX9_demandArgument, cqX6_isComplete]) (by decide +kernel) rfl ⟨rfl, rfl⟩ (am_rows_of (by decide +kernel) (am_words_of [380, 56, 379, 610, 56, 609, 311, 730, 731, 732, 59, 170, 170] (by decide +kernel) (by decide +kernel))) (am_cs_cons (calX9_isWithin (by decide) (by decide)) (am_cs_cons (calX9_demandArgument (by decide) (by decide)) (am_cs_cons (calX6_isComplete (by decide) (by decide)) am_cs_nil))) (am_cv_of (by decide +kernel))
theorem calX9_seal {l : Launch} {dC : Nat → ClassId} {dI ad : Nat → Nat → Nat} {cy : Nat → ClassId} {R : Room} (h1 : rmX9_seal.frames + 1 ≤ R.frames) (h2 : 8 + (3 + 11) + rmX9_seal.locals ≤ R.locals) : am_Cal l dC dI ad cy R 0 0 cqX9_seal fX9_seal :=
  ⟨okX9_seal, am_inU 729 (by decide +kernel) (by decide +kernel), Nat.le_refl _, Nat.le_refl _, h1, h2, ⟨by decide, by decide, by decide +kernel⟩, ⟨by decide, rfl⟩, Or.inl ⟨_, _, rfl⟩⟩
abbrev rmX9_slotOf : Room := { frames := 0, cells := 0, slots := 0, locals := 0 }
def cqX9_slotOf : am_C := (yX9_slotOf, .code yX9_slotOf cX9_slotOf 3 (some .int), rmX9_slotOf, some 9, 1, 3)
theorem okX9_slotOf {l : Launch} {dC : Nat → ClassId} {dI ad : Nat → Nat → Nat} {cy : Nat → ClassId} : am_Ok l dC dI ad cy yX9_slotOf (.code yX9_slotOf cX9_slotOf 3 (some .int)) rmX9_slotOf fX9_slotOf :=
  am_meth_ok (ci := []) (by decide +kernel) rfl ⟨rfl, rfl⟩ (am_rows_of (by decide +kernel) (am_words_of [312, 186] (by decide +kernel) (by decide +kernel))) am_cs_nil (am_cv_of (by decide +kernel))
theorem calX9_slotOf {l : Launch} {dC : Nat → ClassId} {dI ad : Nat → Nat → Nat} {cy : Nat → ClassId} {R : Room} (h1 : rmX9_slotOf.frames + 1 ≤ R.frames) (h2 : 8 + (3 + 11) + rmX9_slotOf.locals ≤ R.locals) : am_Cal l dC dI ad cy R 0 0 cqX9_slotOf fX9_slotOf :=
  ⟨okX9_slotOf, am_inU 519 (by decide +kernel) (by decide +kernel), Nat.le_refl _, Nat.le_refl _, h1, h2, ⟨by decide, by decide, by decide +kernel⟩, ⟨by decide, rfl⟩, Or.inl ⟨_, _, rfl⟩⟩
abbrev rmX9_rack : Room := { frames := 7, cells := 0, slots := 0, locals := 140 }
def cqX9_rack : am_C := (yX9_rack, .code yX9_rack cX9_rack 5 none, rmX9_rack, some 9, 4, 5)
theorem okX9_rack {l : Launch} {dC : Nat → ClassId} {dI ad : Nat → Nat → Nat} {cy : Nat → ClassId} : am_Ok l dC dI ad cy yX9_rack (.code yX9_rack cX9_rack 5 none) rmX9_rack fX9_rack :=
  am_meth_ok (ci := [cqX9_isWithin, cqX9_demandArgument, cqX8_isEmpty, cqX9_slotOf, cqX9_demandState, cqX8_fill]) (by decide +kernel) rfl ⟨rfl, rfl⟩ (am_rows_of (by decide +kernel) (am_words_of [380, 56, 379, 768, 380, 56, 379, 610, 56, 609, 380, 56, 379, 769, 380, 56, 379, 610, 56, 609, 312, 770, 771, 772, 62, 516, 518, 11, 56, 685, 56, 684, 312, 774, 775, 776, 62] (by decide +kernel) (by decide +kernel))) (am_cs_cons (calX9_isWithin (by decide) (by decide)) (am_cs_cons (calX9_demandArgument (by decide) (by decide)) (am_cs_cons (calX8_isEmpty (by decide) (by decide)) (am_cs_cons (calX9_slotOf (by decide) (by decide)) (am_cs_cons (calX9_demandState (by decide) (by decide)) (am_cs_cons (calX8_fill (by decide) (by decide)) am_cs_nil)))))) (am_cv_of (by decide +kernel))
theorem calX9_rack {l : Launch} {dC : Nat → ClassId} {dI ad : Nat → Nat → Nat} {cy : Nat → ClassId} {R : Room} (h1 : rmX9_rack.frames + 1 ≤ R.frames) (h2 : 8 + (5 + 11) + rmX9_rack.locals ≤ R.locals) : am_Cal l dC dI ad cy R 0 0 cqX9_rack fX9_rack :=
  ⟨okX9_rack, am_inU 767 (by decide +kernel) (by decide +kernel), Nat.le_refl _, Nat.le_refl _, h1, h2, ⟨by decide, by decide, by decide +kernel⟩, ⟨by decide, rfl⟩, Or.inl ⟨_, _, rfl⟩⟩
abbrev rmX9_demandElement : Room := { frames := 6, cells := 0, slots := 0, locals := 120 }
def cqX9_demandElement : am_C := (yX9_demandElement, .code yX9_demandElement cX9_demandElement 1 none, rmX9_demandElement, none, 1, 1)
theorem okX9_demandElement {l : Launch} {dC : Nat → ClassId} {dI ad : Nat → Nat → Nat} {cy : Nat → ClassId} : am_Ok l dC dI ad cy yX9_demandElement (.code yX9_demandElement cX9_demandElement 1 none) rmX9_demandElement fX9_demandElement := by
  intro av M M2 r hav hF
  refine am_meth_ok (cs := []) (ci := []) (rt := 0) (nL := 1) (N := 3) (P := am_pD) (by decide +kernel) rfl ⟨rfl, rfl⟩ (am_rows_of (by decide +kernel) (am_words_of [] (by decide +kernel) (by decide +kernel))) am_cs_nil (am_cv_of (by decide +kernel)) av M M2 r hav ?_
  unfold fX9_demandElement at hF
  split at hF
  · rename_i x
    split at hF
    · cases hF
    · rename_i hx
      cases hF
      show (if x = 0 then _ else _) = _
      rw [if_neg hx]
      rfl
  · cases hF
theorem calX9_demandElement {l : Launch} {dC : Nat → ClassId} {dI ad : Nat → Nat → Nat} {cy : Nat → ClassId} {R : Room} (h1 : rmX9_demandElement.frames + 1 ≤ R.frames) (h2 : 8 + (1 + 11) + rmX9_demandElement.locals ≤ R.locals) : am_Cal l dC dI ad cy R 0 0 cqX9_demandElement fX9_demandElement :=
  ⟨okX9_demandElement, am_inU 788 (by decide +kernel) (by decide +kernel), Nat.le_refl _, Nat.le_refl _, h1, h2, ⟨by decide, by decide, by decide +kernel⟩, trivial, Or.inl ⟨_, _, rfl⟩⟩
abbrev rmX9_isAwaited : Room := { frames := 1, cells := 0, slots := 0, locals := 20 }
def cqX9_isAwaited : am_C := (yX9_isAwaited, .code yX9_isAwaited cX9_isAwaited 3 (some .boolean), rmX9_isAwaited, some 9, 1, 3)
theorem okX9_isAwaited {l : Launch} {dC : Nat → ClassId} {dI ad : Nat → Nat → Nat} {cy : Nat → ClassId} : am_Ok l dC dI ad cy yX9_isAwaited (.code yX9_isAwaited cX9_isAwaited 3 (some .boolean)) rmX9_isAwaited fX9_isAwaited :=
  am_meth_ok (ci := [cqX4_isOpen]) (by decide +kernel) rfl ⟨rfl, rfl⟩ (am_rows_of (by decide +kernel) (am_words_of [318, 315, 680, 681, 682, 65, 315, 271] (by decide +kernel) (by decide +kernel))) (am_cs_cons (calX4_isOpen (by decide) (by decide)) am_cs_nil) (am_cv_of (by decide +kernel))
theorem calX9_isAwaited {l : Launch} {dC : Nat → ClassId} {dI ad : Nat → Nat → Nat} {cy : Nat → ClassId} {R : Room} (h1 : rmX9_isAwaited.frames + 1 ≤ R.frames) (h2 : 8 + (3 + 11) + rmX9_isAwaited.locals ≤ R.locals) : am_Cal l dC dI ad cy R 0 0 cqX9_isAwaited fX9_isAwaited :=
  ⟨okX9_isAwaited, am_inU 807 (by decide +kernel) (by decide +kernel), Nat.le_refl _, Nat.le_refl _, h1, h2, ⟨by decide, by decide, by decide +kernel⟩, ⟨by decide, rfl⟩, Or.inl ⟨_, _, rfl⟩⟩
abbrev rmX9_removeRack : Room := { frames := 7, cells := 0, slots := 0, locals := 140 }
def cqX9_removeRack : am_C := (yX9_removeRack, .code yX9_removeRack cX9_removeRack 2 (some .int), rmX9_removeRack, some 9, 1, 2)
theorem okX9_removeRack {l : Launch} {dC : Nat → ClassId} {dI ad : Nat → Nat → Nat} {cy : Nat → ClassId} : am_Ok l dC dI ad cy yX9_removeRack (.code yX9_removeRack cX9_removeRack 2 (some .int)) rmX9_removeRack fX9_removeRack :=
  am_meth_ok (ci := [cqX9_isWithin, cqX9_demandArgument, cqX8_isEmpty, cqX9_demandElement, cqX9_isAwaited, cqX9_demandState]) (by decide +kernel) rfl ⟨rfl, rfl⟩ (am_rows_of (by decide +kernel) (am_words_of [380, 56, 379, 610, 56, 609, 312, 770, 771, 772, 62, 787, 56, 786, 312, 186, 804, 806, 25, 56, 685, 56, 684, 312, 186, 312, 190] (by decide +kernel) (by decide +kernel))) (am_cs_cons (calX9_isWithin (by decide) (by decide)) (am_cs_cons (calX9_demandArgument (by decide) (by decide)) (am_cs_cons (calX8_isEmpty (by decide) (by decide)) (am_cs_cons (calX9_demandElement (by decide) (by decide)) (am_cs_cons (calX9_isAwaited (by decide) (by decide)) (am_cs_cons (calX9_demandState (by decide) (by decide)) am_cs_nil)))))) (am_cv_of (by decide +kernel))
theorem calX9_removeRack {l : Launch} {dC : Nat → ClassId} {dI ad : Nat → Nat → Nat} {cy : Nat → ClassId} {R : Room} (h1 : rmX9_removeRack.frames + 1 ≤ R.frames) (h2 : 8 + (2 + 11) + rmX9_removeRack.locals ≤ R.locals) : am_Cal l dC dI ad cy R 0 0 cqX9_removeRack fX9_removeRack :=
  ⟨okX9_removeRack, am_inU 785 (by decide +kernel) (by decide +kernel), Nat.le_refl _, Nat.le_refl _, h1, h2, ⟨by decide, by decide, by decide +kernel⟩, ⟨by decide, rfl⟩, Or.inl ⟨_, _, rfl⟩⟩
abbrev rmX9_reagent : Room := { frames := 7, cells := 0, slots := 0, locals := 140 }
def cqX9_reagent : am_C := (yX9_reagent, .code yX9_reagent cX9_reagent 5 none, rmX9_reagent, some 9, 4, 5)
theorem okX9_reagent {l : Launch} {dC : Nat → ClassId} {dI ad : Nat → Nat → Nat} {cy : Nat → ClassId} : am_Ok l dC dI ad cy yX9_reagent (.code yX9_reagent cX9_reagent 5 none) rmX9_reagent fX9_reagent :=
  am_meth_ok (ci := [cqX9_isWithin, cqX9_demandArgument, cqX9_demandState, cqX5_fill]) (by decide +kernel) rfl ⟨rfl, rfl⟩ (am_rows_of (by decide +kernel) (am_words_of [380, 56, 379, 380, 56, 379, 610, 56, 609, 769, 380, 56, 379, 610, 56, 609, 313, 207, 685, 56, 684, 313, 815, 816, 817, 63] (by decide +kernel) (by decide +kernel))) (am_cs_cons (calX9_isWithin (by decide) (by decide)) (am_cs_cons (calX9_demandArgument (by decide) (by decide)) (am_cs_cons (calX9_demandState (by decide) (by decide)) (am_cs_cons (calX5_fill (by decide) (by decide)) am_cs_nil)))) (am_cv_of (by decide +kernel))
theorem calX9_reagent {l : Launch} {dC : Nat → ClassId} {dI ad : Nat → Nat → Nat} {cy : Nat → ClassId} {R : Room} (h1 : rmX9_reagent.frames + 1 ≤ R.frames) (h2 : 8 + (5 + 11) + rmX9_reagent.locals ≤ R.locals) : am_Cal l dC dI ad cy R 0 0 cqX9_reagent fX9_reagent :=
  ⟨okX9_reagent, am_inU 814 (by decide +kernel) (by decide +kernel), Nat.le_refl _, Nat.le_refl _, h1, h2, ⟨by decide, by decide, by decide +kernel⟩, ⟨by decide, rfl⟩, Or.inl ⟨_, _, rfl⟩⟩
abbrev rmX9_forbid : Room := { frames := 7, cells := 0, slots := 0, locals := 140 }
def cqX9_forbid : am_C := (yX9_forbid, .code yX9_forbid cX9_forbid 3 (some .boolean), rmX9_forbid, some 9, 2, 3)
theorem okX9_forbid {l : Launch} {dC : Nat → ClassId} {dI ad : Nat → Nat → Nat} {cy : Nat → ClassId} : am_Ok l dC dI ad cy yX9_forbid (.code yX9_forbid cX9_forbid 3 (some .boolean)) rmX9_forbid fX9_forbid :=
  am_meth_ok (ci := [cqX9_isWithin, cqX9_demandArgument, cqX7_turnSuccession]) (by decide +kernel) rfl ⟨rfl, rfl⟩ (am_rows_of (by decide +kernel) (am_words_of [380, 56, 379, 380, 56, 379, 610, 56, 609, 316, 826, 827, 828, 57] (by decide +kernel) (by decide +kernel))) (am_cs_cons (calX9_isWithin (by decide) (by decide)) (am_cs_cons (calX9_demandArgument (by decide) (by decide)) (am_cs_cons (calX7_turnSuccession (by decide) (by decide)) am_cs_nil))) (am_cv_of (by decide +kernel))
theorem calX9_forbid {l : Launch} {dC : Nat → ClassId} {dI ad : Nat → Nat → Nat} {cy : Nat → ClassId} {R : Room} (h1 : rmX9_forbid.frames + 1 ≤ R.frames) (h2 : 8 + (3 + 11) + rmX9_forbid.locals ≤ R.locals) : am_Cal l dC dI ad cy R 0 0 cqX9_forbid fX9_forbid :=
  ⟨okX9_forbid, am_inU 825 (by decide +kernel) (by decide +kernel), Nat.le_refl _, Nat.le_refl _, h1, h2, ⟨by decide, by decide, by decide +kernel⟩, ⟨by decide, rfl⟩, Or.inl ⟨_, _, rfl⟩⟩
abbrev rmX9_order : Room := { frames := 7, cells := 0, slots := 0, locals := 140 }
def cqX9_order : am_C := (yX9_order, .code yX9_order cX9_order 5 (some .int), rmX9_order, some 9, 3, 5)
theorem okX9_order {l : Launch} {dC : Nat → ClassId} {dI ad : Nat → Nat → Nat} {cy : Nat → ClassId} : am_Ok l dC dI ad cy yX9_order (.code yX9_order cX9_order 5 (some .int)) rmX9_order fX9_order :=
  am_meth_ok (ci := [cqX9_isWithin, cqX9_demandArgument, cqX9_demandState, cqX4_place]) (by decide +kernel) rfl ⟨rfl, rfl⟩ (am_rows_of (by decide +kernel) (am_words_of [768, 380, 56, 379, 380, 56, 379, 610, 56, 609, 311, 170, 318, 685, 56, 684, 318, 315, 837, 838, 839, 65, 318] (by decide +kernel) (by decide +kernel))) (am_cs_cons (calX9_isWithin (by decide) (by decide)) (am_cs_cons (calX9_demandArgument (by decide) (by decide)) (am_cs_cons (calX9_demandState (by decide) (by decide)) (am_cs_cons (calX4_place (by decide) (by decide)) am_cs_nil)))) (am_cv_of (by decide +kernel))
theorem calX9_order {l : Launch} {dC : Nat → ClassId} {dI ad : Nat → Nat → Nat} {cy : Nat → ClassId} {R : Room} (h1 : rmX9_order.frames + 1 ≤ R.frames) (h2 : 8 + (5 + 11) + rmX9_order.locals ≤ R.locals) : am_Cal l dC dI ad cy R 0 0 cqX9_order fX9_order :=
  ⟨okX9_order, am_inU 836 (by decide +kernel) (by decide +kernel), Nat.le_refl _, Nat.le_refl _, h1, h2, ⟨by decide, by decide, by decide +kernel⟩, ⟨by decide, rfl⟩, Or.inl ⟨_, _, rfl⟩⟩
abbrev rmX9_clock : Room := { frames := 7, cells := 0, slots := 0, locals := 140 }
def cqX9_clock : am_C := (yX9_clock, .code yX9_clock cX9_clock 2 none, rmX9_clock, some 9, 1, 2)
theorem okX9_clock {l : Launch} {dC : Nat → ClassId} {dI ad : Nat → Nat → Nat} {cy : Nat → ClassId} : am_Ok l dC dI ad cy yX9_clock (.code yX9_clock cX9_clock 2 none) rmX9_clock fX9_clock :=
  am_meth_ok (ci := [cqX9_demandArgument]) (by decide +kernel) rfl ⟨rfl, rfl⟩ (am_rows_of (by decide +kernel) (am_words_of [319, 610, 56, 609, 319] (by decide +kernel) (by decide +kernel))) (am_cs_cons (calX9_demandArgument (by decide) (by decide)) am_cs_nil) (am_cv_of (by decide +kernel))
theorem calX9_clock {l : Launch} {dC : Nat → ClassId} {dI ad : Nat → Nat → Nat} {cy : Nat → ClassId} {R : Room} (h1 : rmX9_clock.frames + 1 ≤ R.frames) (h2 : 8 + (2 + 11) + rmX9_clock.locals ≤ R.locals) : am_Cal l dC dI ad cy R 0 0 cqX9_clock fX9_clock :=
  ⟨okX9_clock, am_inU 847 (by decide +kernel) (by decide +kernel), Nat.le_refl _, Nat.le_refl _, h1, h2, ⟨by decide, by decide, by decide +kernel⟩, ⟨by decide, rfl⟩, Or.inl ⟨_, _, rfl⟩⟩
abbrev rmX9_light : Room := { frames := 7, cells := 0, slots := 0, locals := 140 }
def cqX9_light : am_C := (yX9_light, .code yX9_light cX9_light 2 none, rmX9_light, some 9, 1, 2)
theorem okX9_light {l : Launch} {dC : Nat → ClassId} {dI ad : Nat → Nat → Nat} {cy : Nat → ClassId} : am_Ok l dC dI ad cy yX9_light (.code yX9_light cX9_light 2 none) rmX9_light fX9_light :=
  am_meth_ok (ci := [cqX9_isWithin, cqX9_demandArgument]) (by decide +kernel) rfl ⟨rfl, rfl⟩ (am_rows_of (by decide +kernel) (am_words_of [126, 380, 56, 379, 610, 56, 609, 320] (by decide +kernel) (by decide +kernel))) (am_cs_cons (calX9_isWithin (by decide) (by decide)) (am_cs_cons (calX9_demandArgument (by decide) (by decide)) am_cs_nil)) (am_cv_of (by decide +kernel))
theorem calX9_light {l : Launch} {dC : Nat → ClassId} {dI ad : Nat → Nat → Nat} {cy : Nat → ClassId} {R : Room} (h1 : rmX9_light.frames + 1 ≤ R.frames) (h2 : 8 + (2 + 11) + rmX9_light.locals ≤ R.locals) : am_Cal l dC dI ad cy R 0 0 cqX9_light fX9_light :=
  ⟨okX9_light, am_inU 854 (by decide +kernel) (by decide +kernel), Nat.le_refl _, Nat.le_refl _, h1, h2, ⟨by decide, by decide, by decide +kernel⟩, ⟨by decide, rfl⟩, Or.inl ⟨_, _, rfl⟩⟩
abbrev rmX9_spoil : Room := { frames := 7, cells := 0, slots := 0, locals := 140 }
def cqX9_spoil : am_C := (yX9_spoil, .code yX9_spoil cX9_spoil 2 none, rmX9_spoil, some 9, 1, 2)
theorem okX9_spoil {l : Launch} {dC : Nat → ClassId} {dI ad : Nat → Nat → Nat} {cy : Nat → ClassId} : am_Ok l dC dI ad cy yX9_spoil (.code yX9_spoil cX9_spoil 2 none) rmX9_spoil fX9_spoil :=
  am_meth_ok (ci := [cqX9_isWithin, cqX9_demandArgument]) (by decide +kernel) rfl ⟨rfl, rfl⟩ (am_rows_of (by decide +kernel) (am_words_of [380, 56, 379, 610, 56, 609, 321, 322] (by decide +kernel) (by decide +kernel))) (am_cs_cons (calX9_isWithin (by decide) (by decide)) (am_cs_cons (calX9_demandArgument (by decide) (by decide)) am_cs_nil)) (am_cv_of (by decide +kernel))
theorem calX9_spoil {l : Launch} {dC : Nat → ClassId} {dI ad : Nat → Nat → Nat} {cy : Nat → ClassId} {R : Room} (h1 : rmX9_spoil.frames + 1 ≤ R.frames) (h2 : 8 + (2 + 11) + rmX9_spoil.locals ≤ R.locals) : am_Cal l dC dI ad cy R 0 0 cqX9_spoil fX9_spoil :=
  ⟨okX9_spoil, am_inU 861 (by decide +kernel) (by decide +kernel), Nat.le_refl _, Nat.le_refl _, h1, h2, ⟨by decide, by decide, by decide +kernel⟩, ⟨by decide, rfl⟩, Or.inl ⟨_, _, rfl⟩⟩
abbrev rmX9_turnDisc : Room := { frames := 2, cells := 0, slots := 0, locals := 42 }
def cqX9_turnDisc : am_C := (yX9_turnDisc, .code yX9_turnDisc cX9_turnDisc 2 none, rmX9_turnDisc, some 9, 0, 2)
theorem okX9_turnDisc {l : Launch} {dC : Nat → ClassId} {dI ad : Nat → Nat → Nat} {cy : Nat → ClassId} : am_Ok l dC dI ad cy yX9_turnDisc (.code yX9_turnDisc cX9_turnDisc 2 none) rmX9_turnDisc fX9_turnDisc :=
  am_meth_ok (ci := [cqX1_turn, cqX7_turn]) (by decide +kernel) rfl ⟨rfl, rfl⟩ (am_rows_of (by decide +kernel) (am_words_of [314, 359, 360, 361, 64, 316, 363, 364, 365, 57] (by decide +kernel) (by decide +kernel))) (am_cs_cons (calX1_turn (by decide) (by decide)) (am_cs_cons (calX7_turn (by decide) (by decide)) am_cs_nil)) (am_cv_of (by decide +kernel))
theorem calX9_turnDisc {l : Launch} {dC : Nat → ClassId} {dI ad : Nat → Nat → Nat} {cy : Nat → ClassId} {R : Room} (h1 : rmX9_turnDisc.frames + 1 ≤ R.frames) (h2 : 8 + (2 + 11) + rmX9_turnDisc.locals ≤ R.locals) : am_Cal l dC dI ad cy R 0 0 cqX9_turnDisc fX9_turnDisc :=
  ⟨okX9_turnDisc, am_inU 358 (by decide +kernel) (by decide +kernel), Nat.le_refl _, Nat.le_refl _, h1, h2, ⟨by decide, by decide, by decide +kernel⟩, ⟨by decide, rfl⟩, Or.inl ⟨_, _, rfl⟩⟩
abbrev rmX9_breakOff : Room := { frames := 2, cells := 0, slots := 0, locals := 43 }
def cqX9_breakOff : am_C := (yX9_breakOff, .code yX9_breakOff cX9_breakOff 5 none, rmX9_breakOff, some 9, 2, 5)
theorem okX9_breakOff {l : Launch} {dC : Nat → ClassId} {dI ad : Nat → Nat → Nat} {cy : Nat → ClassId} : am_Ok l dC dI ad cy yX9_breakOff (.code yX9_breakOff cX9_breakOff 5 none) rmX9_breakOff fX9_breakOff :=
  am_meth_ok (ci := [cqX9_isWithin, cqX7_cancel, cqX4_breakOff, cqX1_sendToWash]) (by decide +kernel) rfl ⟨rfl, rfl⟩ (am_rows_of (by decide +kernel) (am_words_of [314, 233, 229, 380, 56, 379, 313, 229, 207, 231, 207, 316, 386, 387, 388, 57, 235, 318, 380, 56, 379, 315, 235, 390, 391, 392, 65, 402, 403, 404, 64] (by decide +kernel) (by decide +kernel))) (am_cs_cons (calX9_isWithin (by decide) (by decide)) (am_cs_cons (calX7_cancel (by decide) (by decide)) (am_cs_cons (calX4_breakOff (by decide) (by decide)) (am_cs_cons (calX1_sendToWash (by decide) (by decide)) am_cs_nil)))) (am_cv_of (by decide +kernel))
theorem calX9_breakOff {l : Launch} {dC : Nat → ClassId} {dI ad : Nat → Nat → Nat} {cy : Nat → ClassId} {R : Room} (h1 : rmX9_breakOff.frames + 1 ≤ R.frames) (h2 : 8 + (5 + 11) + rmX9_breakOff.locals ≤ R.locals) : am_Cal l dC dI ad cy R 0 0 cqX9_breakOff fX9_breakOff :=
  ⟨okX9_breakOff, am_inU 385 (by decide +kernel) (by decide +kernel), Nat.le_refl _, Nat.le_refl _, h1, h2, ⟨by decide, by decide, by decide +kernel⟩, ⟨by decide, rfl⟩, Or.inl ⟨_, _, rfl⟩⟩
abbrev rmX9_giveNextDose : Room := { frames := 1, cells := 0, slots := 0, locals := 22 }
def cqX9_giveNextDose : am_C := (yX9_giveNextDose, .code yX9_giveNextDose cX9_giveNextDose 5 none, rmX9_giveNextDose, some 9, 1, 5)
theorem okX9_giveNextDose {l : Launch} {dC : Nat → ClassId} {dI ad : Nat → Nat → Nat} {cy : Nat → ClassId} : am_Ok l dC dI ad cy yX9_giveNextDose (.code yX9_giveNextDose cX9_giveNextDose 5 none) rmX9_giveNextDose fX9_giveNextDose :=
  am_meth_ok (ci := [cqX9_isWithin]) (by decide +kernel) rfl ⟨rfl, rfl⟩ (am_rows_of (by decide +kernel) (am_words_of [233, 229, 380, 56, 379, 231, 313, 229, 207, 207, 205, 205, 243, 243, 233] (by decide +kernel) (by decide +kernel))) (am_cs_cons (calX9_isWithin (by decide) (by decide)) am_cs_nil) (am_cv_of (by decide +kernel))
theorem calX9_giveNextDose {l : Launch} {dC : Nat → ClassId} {dI ad : Nat → Nat → Nat} {cy : Nat → ClassId} {R : Room} (h1 : rmX9_giveNextDose.frames + 1 ≤ R.frames) (h2 : 8 + (5 + 11) + rmX9_giveNextDose.locals ≤ R.locals) : am_Cal l dC dI ad cy R 0 0 cqX9_giveNextDose fX9_giveNextDose :=
  ⟨okX9_giveNextDose, am_inU 409 (by decide +kernel) (by decide +kernel), Nat.le_refl _, Nat.le_refl _, h1, h2, ⟨by decide, by decide, by decide +kernel⟩, ⟨by decide, rfl⟩, Or.inl ⟨_, _, rfl⟩⟩
abbrev rmX9_giveReagent : Room := { frames := 3, cells := 0, slots := 0, locals := 67 }
def cqX9_giveReagent : am_C := (yX9_giveReagent, .code yX9_giveReagent cX9_giveReagent 2 none, rmX9_giveReagent, some 9, 0, 2)
theorem okX9_giveReagent {l : Launch} {dC : Nat → ClassId} {dI ad : Nat → Nat → Nat} {cy : Nat → ClassId} : am_Ok l dC dI ad cy yX9_giveReagent (.code yX9_giveReagent cX9_giveReagent 2 none) rmX9_giveReagent fX9_giveReagent :=
  am_meth_ok (ci := [cqX7_userNow, cqX9_isWithin, cqX9_breakOff, cqX9_giveNextDose]) (by decide +kernel) rfl ⟨rfl, rfl⟩ (am_rows_of (by decide +kernel) (am_words_of [316, 375, 376, 377, 57, 380, 56, 379, 322, 322, 382, 384, 3, 56, 314, 406, 408, 4, 56] (by decide +kernel) (by decide +kernel))) (am_cs_cons (calX7_userNow (by decide) (by decide)) (am_cs_cons (calX9_isWithin (by decide) (by decide)) (am_cs_cons (calX9_breakOff (by decide) (by decide)) (am_cs_cons (calX9_giveNextDose (by decide) (by decide)) am_cs_nil)))) (am_cv_of (by decide +kernel))
theorem calX9_giveReagent {l : Launch} {dC : Nat → ClassId} {dI ad : Nat → Nat → Nat} {cy : Nat → ClassId} {R : Room} (h1 : rmX9_giveReagent.frames + 1 ≤ R.frames) (h2 : 8 + (2 + 11) + rmX9_giveReagent.locals ≤ R.locals) : am_Cal l dC dI ad cy R 0 0 cqX9_giveReagent fX9_giveReagent :=
  ⟨okX9_giveReagent, am_inU 374 (by decide +kernel) (by decide +kernel), Nat.le_refl _, Nat.le_refl _, h1, h2, ⟨by decide, by decide, by decide +kernel⟩, ⟨by decide, rfl⟩, Or.inl ⟨_, _, rfl⟩⟩
abbrev rmX9_absorbanceOf : Room := { frames := 0, cells := 0, slots := 0, locals := 0 }
def cqX9_absorbanceOf : am_C := (yX9_absorbanceOf, .code yX9_absorbanceOf cX9_absorbanceOf 6 (some .int), rmX9_absorbanceOf, none, 1, 6)
theorem okX9_absorbanceOf {l : Launch} {dC : Nat → ClassId} {dI ad : Nat → Nat → Nat} {cy : Nat → ClassId} : am_Ok l dC dI ad cy yX9_absorbanceOf (.code yX9_absorbanceOf cX9_absorbanceOf 6 (some .int)) rmX9_absorbanceOf fX9_absorbanceOf :=
  am_meth_ok (ci := []) (by decide +kernel) rfl ⟨rfl, rfl⟩ (am_rows_of (by decide +kernel) (am_words_of [417, 418, 419] (by decide +kernel) (by decide +kernel))) am_cs_nil (am_cv_of (by decide +kernel))
theorem calX9_absorbanceOf {l : Launch} {dC : Nat → ClassId} {dI ad : Nat → Nat → Nat} {cy : Nat → ClassId} {R : Room} (h1 : rmX9_absorbanceOf.frames + 1 ≤ R.frames) (h2 : 8 + (6 + 11) + rmX9_absorbanceOf.locals ≤ R.locals) : am_Cal l dC dI ad cy R 0 0 cqX9_absorbanceOf fX9_absorbanceOf :=
  ⟨okX9_absorbanceOf, am_inU 416 (by decide +kernel) (by decide +kernel), Nat.le_refl _, Nat.le_refl _, h1, h2, ⟨by decide, by decide, by decide +kernel⟩, trivial, Or.inl ⟨_, _, rfl⟩⟩
abbrev rmX9_cuvetteOf : Room := { frames := 1, cells := 0, slots := 0, locals := 22 }
def cqX9_cuvetteOf : am_C := (yX9_cuvetteOf, .code yX9_cuvetteOf cX9_cuvetteOf 2 (some (.object "SampleAnalyser$Cuvette")), rmX9_cuvetteOf, some 9, 1, 2)
theorem okX9_cuvetteOf {l : Launch} {dC : Nat → ClassId} {dI ad : Nat → Nat → Nat} {cy : Nat → ClassId} : am_Ok l dC dI ad cy yX9_cuvetteOf (.code yX9_cuvetteOf cX9_cuvetteOf 2 (some (.object "SampleAnalyser$Cuvette"))) rmX9_cuvetteOf fX9_cuvetteOf :=
  am_meth_ok (ci := [cqX9_isWithin]) (by decide +kernel) ⟨_, rfl⟩ ⟨rfl, rfl⟩ (am_rows_of (by decide +kernel) (am_words_of [285, 380, 56, 379, 314, 285] (by decide +kernel) (by decide +kernel))) (am_cs_cons (calX9_isWithin (by decide) (by decide)) am_cs_nil) (am_cv_of (by decide +kernel))
theorem calX9_cuvetteOf {l : Launch} {dC : Nat → ClassId} {dI ad : Nat → Nat → Nat} {cy : Nat → ClassId} {R : Room} (h1 : rmX9_cuvetteOf.frames + 1 ≤ R.frames) (h2 : 8 + (2 + 11) + rmX9_cuvetteOf.locals ≤ R.locals) : am_Cal l dC dI ad cy R 0 0 cqX9_cuvetteOf fX9_cuvetteOf :=
  ⟨okX9_cuvetteOf, am_inU 423 (by decide +kernel) (by decide +kernel), Nat.le_refl _, Nat.le_refl _, h1, h2, ⟨by decide, by decide, by decide +kernel⟩, ⟨by decide, rfl⟩, Or.inl ⟨_, _, rfl⟩⟩
abbrev rmX9_takeReadings : Room := { frames := 2, cells := 0, slots := 0, locals := 43 }
def cqX9_takeReadings : am_C := (yX9_takeReadings, .code yX9_takeReadings cX9_takeReadings 4 none, rmX9_takeReadings, some 9, 0, 4)
theorem okX9_takeReadings {l : Launch} {dC : Nat → ClassId} {dI ad : Nat → Nat → Nat} {cy : Nat → ClassId} : am_Ok l dC dI ad cy yX9_takeReadings (.code yX9_takeReadings cX9_takeReadings 4 none) rmX9_takeReadings fX9_takeReadings :=
  am_meth_ok (ci := [cqX9_absorbanceOf, cqX9_cuvetteOf, cqX6_isReadAt, cqX1_addReading]) (by decide +kernel) rfl ⟨rfl, rfl⟩ (am_rows_of (by decide +kernel) (am_words_of [320, 415, 56, 414, 318, 315, 420, 422, 6, 56, 311, 315, 273, 239, 424, 425, 426, 59, 429, 430, 431, 64] (by decide +kernel) (by decide +kernel))) (am_cs_cons (calX9_absorbanceOf (by decide) (by decide)) (am_cs_cons (calX9_cuvetteOf (by decide) (by decide)) (am_cs_cons (calX6_isReadAt (by decide) (by decide)) (am_cs_cons (calX1_addReading (by decide) (by decide)) am_cs_nil)))) (am_cv_of (by decide +kernel))
theorem calX9_takeReadings {l : Launch} {dC : Nat → ClassId} {dI ad : Nat → Nat → Nat} {cy : Nat → ClassId} {R : Room} (h1 : rmX9_takeReadings.frames + 1 ≤ R.frames) (h2 : 8 + (4 + 11) + rmX9_takeReadings.locals ≤ R.locals) : am_Cal l dC dI ad cy R 0 0 cqX9_takeReadings fX9_takeReadings :=
  ⟨okX9_takeReadings, am_inU 413 (by decide +kernel) (by decide +kernel), Nat.le_refl _, Nat.le_refl _, h1, h2, ⟨by decide, by decide, by decide +kernel⟩, ⟨by decide, rfl⟩, Or.inl ⟨_, _, rfl⟩⟩
abbrev rmJ9_min_f86c9 : Room := { frames := 0, cells := 0, slots := 0, locals := 0 }
def cqJ9_min_f86c9 : am_C := (yJ9_min_f86c9, .code yJ9_min_f86c9 cJ9_min_f86c9 4 (some .long), rmJ9_min_f86c9, none, 2, 4)
theorem okJ9_min_f86c9 {l : Launch} {dC : Nat → ClassId} {dI ad : Nat → Nat → Nat} {cy : Nat → ClassId} : am_Ok l dC dI ad cy yJ9_min_f86c9 (.code yJ9_min_f86c9 cJ9_min_f86c9 4 (some .long)) rmJ9_min_f86c9 fJ9_min_f86c9 :=
  am_meth_ok (ci := []) (by decide +kernel) rfl ⟨rfl, rfl⟩ (am_rows_of (by decide +kernel) (am_words_of [] (by decide +kernel) (by decide +kernel))) am_cs_nil (am_cv_of (by decide +kernel))
theorem calJ9_min_f86c9 {l : Launch} {dC : Nat → ClassId} {dI ad : Nat → Nat → Nat} {cy : Nat → ClassId} {R : Room} (h1 : rmJ9_min_f86c9.frames + 1 ≤ R.frames) (h2 : 8 + (4 + 11) + rmJ9_min_f86c9.locals ≤ R.locals) : am_Cal l dC dI ad cy R 0 0 cqJ9_min_f86c9 fJ9_min_f86c9 :=
  ⟨okJ9_min_f86c9, am_inU 475 (by decide +kernel) (by decide +kernel), Nat.le_refl _, Nat.le_refl _, h1, h2, ⟨by decide, by decide, by decide +kernel⟩, trivial, Or.inl ⟨_, _, rfl⟩⟩
abbrev rmJ9_max_f86c9 : Room := { frames := 0, cells := 0, slots := 0, locals := 0 }
def cqJ9_max_f86c9 : am_C := (yJ9_max_f86c9, .code yJ9_max_f86c9 cJ9_max_f86c9 4 (some .long), rmJ9_max_f86c9, none, 2, 4)
theorem okJ9_max_f86c9 {l : Launch} {dC : Nat → ClassId} {dI ad : Nat → Nat → Nat} {cy : Nat → ClassId} : am_Ok l dC dI ad cy yJ9_max_f86c9 (.code yJ9_max_f86c9 cJ9_max_f86c9 4 (some .long)) rmJ9_max_f86c9 fJ9_max_f86c9 :=
  am_meth_ok (ci := []) (by decide +kernel) rfl ⟨rfl, rfl⟩ (am_rows_of (by decide +kernel) (am_words_of [] (by decide +kernel) (by decide +kernel))) am_cs_nil (am_cv_of (by decide +kernel))
theorem calJ9_max_f86c9 {l : Launch} {dC : Nat → ClassId} {dI ad : Nat → Nat → Nat} {cy : Nat → ClassId} {R : Room} (h1 : rmJ9_max_f86c9.frames + 1 ≤ R.frames) (h2 : 8 + (4 + 11) + rmJ9_max_f86c9.locals ≤ R.locals) : am_Cal l dC dI ad cy R 0 0 cqJ9_max_f86c9 fJ9_max_f86c9 :=
  ⟨okJ9_max_f86c9, am_inU 478 (by decide +kernel) (by decide +kernel), Nat.le_refl _, Nat.le_refl _, h1, h2, ⟨by decide, by decide, by decide +kernel⟩, trivial, Or.inl ⟨_, _, rfl⟩⟩
abbrev rmX9_limited : Room := { frames := 1, cells := 0, slots := 0, locals := 23 }
def cqX9_limited : am_C := (yX9_limited, .code yX9_limited cX9_limited 2 (some .int), rmX9_limited, none, 1, 2)
theorem okX9_limited {l : Launch} {dC : Nat → ClassId} {dI ad : Nat → Nat → Nat} {cy : Nat → ClassId} : am_Ok l dC dI ad cy yX9_limited (.code yX9_limited cX9_limited 2 (some .int)) rmX9_limited fX9_limited :=
  am_meth_ok (ci := [cqJ9_min_f86c9, cqJ9_max_f86c9]) (by decide +kernel) rfl ⟨rfl, rfl⟩ (am_rows_of (by decide +kernel) (am_words_of [471, 472, 474, 73, 473, 477, 73, 476] (by decide +kernel) (by decide +kernel))) (am_cs_cons (calJ9_min_f86c9 (by decide) (by decide)) (am_cs_cons (calJ9_max_f86c9 (by decide) (by decide)) am_cs_nil)) (am_cv_of (by decide +kernel))
theorem calX9_limited {l : Launch} {dC : Nat → ClassId} {dI ad : Nat → Nat → Nat} {cy : Nat → ClassId} {R : Room} (h1 : rmX9_limited.frames + 1 ≤ R.frames) (h2 : 8 + (2 + 11) + rmX9_limited.locals ≤ R.locals) : am_Cal l dC dI ad cy R 0 0 cqX9_limited fX9_limited :=
  ⟨okX9_limited, am_inU 470 (by decide +kernel) (by decide +kernel), Nat.le_refl _, Nat.le_refl _, h1, h2, ⟨by decide, by decide, by decide +kernel⟩, trivial, Or.inl ⟨_, _, rfl⟩⟩
abbrev rmX9_judge : Room := { frames := 4, cells := 0, slots := 0, locals := 101 }
def cqX9_judge : am_C := (yX9_judge, .code yX9_judge cX9_judge 12 none, rmX9_judge, some 9, 2, 12)
theorem okX9_judge {l : Launch} {dC : Nat → ClassId} {dI ad : Nat → Nat → Nat} {cy : Nat → ClassId} : am_Ok l dC dI ad cy yX9_judge (.code yX9_judge cX9_judge 12 none) rmX9_judge fX9_judge :=
  am_meth_ok (ci := [cqX6_formulaOf, cqX6_valueAt, cqX9_limited, cqX6_limitFlags, cqX4_runFlags, cqX1_sendToWash, cqX6_asksAgain, cqX6_dilutes, cqX4_waitAgain, cqX4_release, cqX3_append, cqX2_append]) (by decide +kernel) rfl ⟨rfl, rfl⟩ (am_rows_of (by decide +kernel) (am_words_of [315, 311, 273, 237, 225, 227, 445, 446, 447, 59, 283, 459, 460, 461, 59, 469, 56, 468, 479, 480, 481, 59, 483, 484, 485, 65, 402, 403, 404, 64, 281, 487, 488, 489, 59, 491, 492, 493, 59, 495, 395, 396, 65, 496, 497, 498, 65, 317, 500, 501, 502, 58, 168, 504, 505, 506, 61] (by decide +kernel) (by decide +kernel))) (am_cs_cons (calX6_formulaOf (by decide) (by decide)) (am_cs_cons (calX6_valueAt (by decide) (by decide)) (am_cs_cons (calX9_limited (by decide) (by decide)) (am_cs_cons (calX6_limitFlags (by decide) (by decide)) (am_cs_cons (calX4_runFlags (by decide) (by decide)) (am_cs_cons (calX1_sendToWash (by decide) (by decide)) (am_cs_cons (calX6_asksAgain (by decide) (by decide)) (am_cs_cons (calX6_dilutes (by decide) (by decide)) (am_cs_cons (calX4_waitAgain (by decide) (by decide)) (am_cs_cons (calX4_release (by decide) (by decide)) (am_cs_cons (calX3_append (by decide) (by decide)) (am_cs_cons (calX2_append (by decide) (by decide)) am_cs_nil)))))))))))) (am_cv_of (by decide +kernel))
theorem calX9_judge {l : Launch} {dC : Nat → ClassId} {dI ad : Nat → Nat → Nat} {cy : Nat → ClassId} {R : Room} (h1 : rmX9_judge.frames + 1 ≤ R.frames) (h2 : 8 + (12 + 11) + rmX9_judge.locals ≤ R.locals) : am_Cal l dC dI ad cy R 0 0 cqX9_judge fX9_judge :=
  ⟨okX9_judge, am_inU 444 (by decide +kernel) (by decide +kernel), Nat.le_refl _, Nat.le_refl _, h1, h2, ⟨by decide, by decide, by decide +kernel⟩, ⟨by decide, rfl⟩, Or.inl ⟨_, _, rfl⟩⟩
abbrev rmX9_judgeEndedRuns : Room := { frames := 5, cells := 0, slots := 0, locals := 132 }
def cqX9_judgeEndedRuns : am_C := (yX9_judgeEndedRuns, .code yX9_judgeEndedRuns cX9_judgeEndedRuns 3 none, rmX9_judgeEndedRuns, some 9, 0, 3)
theorem okX9_judgeEndedRuns {l : Launch} {dC : Nat → ClassId} {dI ad : Nat → Nat → Nat} {cy : Nat → ClassId} : am_Ok l dC dI ad cy yX9_judgeEndedRuns (.code yX9_judgeEndedRuns cX9_judgeEndedRuns 3 none) rmX9_judgeEndedRuns fX9_judgeEndedRuns :=
  am_meth_ok (ci := [cqX9_cuvetteOf, cqX6_isOverAt, cqX9_judge]) (by decide +kernel) rfl ⟨rfl, rfl⟩ (am_rows_of (by decide +kernel) (am_words_of [318, 315, 420, 422, 6, 56, 311, 315, 273, 239, 437, 438, 439, 59, 441, 443, 8, 56] (by decide +kernel) (by decide +kernel))) (am_cs_cons (calX9_cuvetteOf (by decide) (by decide)) (am_cs_cons (calX6_isOverAt (by decide) (by decide)) (am_cs_cons (calX9_judge (by decide) (by decide)) am_cs_nil))) (am_cv_of (by decide +kernel))
theorem calX9_judgeEndedRuns {l : Launch} {dC : Nat → ClassId} {dI ad : Nat → Nat → Nat} {cy : Nat → ClassId} {R : Room} (h1 : rmX9_judgeEndedRuns.frames + 1 ≤ R.frames) (h2 : 8 + (3 + 11) + rmX9_judgeEndedRuns.locals ≤ R.locals) : am_Cal l dC dI ad cy R 0 0 cqX9_judgeEndedRuns fX9_judgeEndedRuns :=
  ⟨okX9_judgeEndedRuns, am_inU 436 (by decide +kernel) (by decide +kernel), Nat.le_refl _, Nat.le_refl _, h1, h2, ⟨by decide, by decide, by decide +kernel⟩, ⟨by decide, rfl⟩, Or.inl ⟨_, _, rfl⟩⟩
abbrev rmX9_positionFor : Room := { frames := 1, cells := 0, slots := 0, locals := 23 }
def cqX9_positionFor : am_C := (yX9_positionFor, .code yX9_positionFor cX9_positionFor 8 (some .int), rmX9_positionFor, some 9, 3, 8)
theorem okX9_positionFor {l : Launch} {dC : Nat → ClassId} {dI ad : Nat → Nat → Nat} {cy : Nat → ClassId} : am_Ok l dC dI ad cy yX9_positionFor (.code yX9_positionFor cX9_positionFor 8 (some .int)) rmX9_positionFor fX9_positionFor :=
  am_meth_ok (ci := [cqX6_kindOf, cqX6_doseOf, cqX5_canGive]) (by decide +kernel) rfl ⟨rfl, rfl⟩ (am_rows_of (by decide +kernel) (am_words_of [529, 530, 531, 59, 533, 534, 535, 59, 533, 534, 535, 59, 313, 319, 537, 538, 539, 63, 313, 209, 313, 209] (by decide +kernel) (by decide +kernel))) (am_cs_cons (calX6_kindOf (by decide) (by decide)) (am_cs_cons (calX6_doseOf (by decide) (by decide)) (am_cs_cons (calX5_canGive (by decide) (by decide)) am_cs_nil))) (am_cv_of (by decide +kernel))
theorem calX9_positionFor {l : Launch} {dC : Nat → ClassId} {dI ad : Nat → Nat → Nat} {cy : Nat → ClassId} {R : Room} (h1 : rmX9_positionFor.frames + 1 ≤ R.frames) (h2 : 8 + (8 + 11) + rmX9_positionFor.locals ≤ R.locals) : am_Cal l dC dI ad cy R 0 0 cqX9_positionFor fX9_positionFor :=
  ⟨okX9_positionFor, am_inU 528 (by decide +kernel) (by decide +kernel), Nat.le_refl _, Nat.le_refl _, h1, h2, ⟨by decide, by decide, by decide +kernel⟩, ⟨by decide, rfl⟩, Or.inl ⟨_, _, rfl⟩⟩
abbrev rmX9_cleanCuvette : Room := { frames := 1, cells := 0, slots := 0, locals := 20 }
def cqX9_cleanCuvette : am_C := (yX9_cleanCuvette, .code yX9_cleanCuvette cX9_cleanCuvette 2 (some .int), rmX9_cleanCuvette, some 9, 0, 2)
theorem okX9_cleanCuvette {l : Launch} {dC : Nat → ClassId} {dI ad : Nat → Nat → Nat} {cy : Nat → ClassId} : am_Ok l dC dI ad cy yX9_cleanCuvette (.code yX9_cleanCuvette cX9_cleanCuvette 2 (some .int)) rmX9_cleanCuvette fX9_cleanCuvette :=
  am_meth_ok (ci := [cqX1_isClean]) (by decide +kernel) rfl ⟨rfl, rfl⟩ (am_rows_of (by decide +kernel) (am_words_of [314, 550, 551, 552, 64] (by decide +kernel) (by decide +kernel))) (am_cs_cons (calX1_isClean (by decide) (by decide)) am_cs_nil) (am_cv_of (by decide +kernel))
theorem calX9_cleanCuvette {l : Launch} {dC : Nat → ClassId} {dI ad : Nat → Nat → Nat} {cy : Nat → ClassId} {R : Room} (h1 : rmX9_cleanCuvette.frames + 1 ≤ R.frames) (h2 : 8 + (2 + 11) + rmX9_cleanCuvette.locals ≤ R.locals) : am_Cal l dC dI ad cy R 0 0 cqX9_cleanCuvette fX9_cleanCuvette :=
  ⟨okX9_cleanCuvette, am_inU 549 (by decide +kernel) (by decide +kernel), Nat.le_refl _, Nat.le_refl _, h1, h2, ⟨by decide, by decide, by decide +kernel⟩, ⟨by decide, rfl⟩, Or.inl ⟨_, _, rfl⟩⟩
abbrev rmX9_reserve : Room := { frames := 0, cells := 0, slots := 0, locals := 0 }
def cqX9_reserve : am_C := (yX9_reserve, .code yX9_reserve cX9_reserve 5 none, rmX9_reserve, some 9, 4, 5)
theorem okX9_reserve {l : Launch} {dC : Nat → ClassId} {dI ad : Nat → Nat → Nat} {cy : Nat → ClassId} : am_Ok l dC dI ad cy yX9_reserve (.code yX9_reserve cX9_reserve 5 none) rmX9_reserve fX9_reserve :=
  am_meth_ok (ci := []) (by decide +kernel) rfl ⟨rfl, rfl⟩ (am_rows_of (by decide +kernel) (am_words_of [229, 231, 313, 207, 207] (by decide +kernel) (by decide +kernel))) am_cs_nil (am_cv_of (by decide +kernel))
theorem calX9_reserve {l : Launch} {dC : Nat → ClassId} {dI ad : Nat → Nat → Nat} {cy : Nat → ClassId} {R : Room} (h1 : rmX9_reserve.frames + 1 ≤ R.frames) (h2 : 8 + (5 + 11) + rmX9_reserve.locals ≤ R.locals) : am_Cal l dC dI ad cy R 0 0 cqX9_reserve fX9_reserve :=
  ⟨okX9_reserve, am_inU 580 (by decide +kernel) (by decide +kernel), Nat.le_refl _, Nat.le_refl _, h1, h2, ⟨by decide, by decide, by decide +kernel⟩, ⟨by decide, rfl⟩, Or.inl ⟨_, _, rfl⟩⟩
abbrev rmX9_takeSample : Room := { frames := 3, cells := 0, slots := 0, locals := 67 }
def cqX9_takeSample : am_C := (yX9_takeSample, .code yX9_takeSample cX9_takeSample 4 none, rmX9_takeSample, some 9, 3, 4)
theorem okX9_takeSample {l : Launch} {dC : Nat → ClassId} {dI ad : Nat → Nat → Nat} {cy : Nat → ClassId} : am_Ok l dC dI ad cy yX9_takeSample (.code yX9_takeSample cX9_takeSample 4 none) rmX9_takeSample fX9_takeSample :=
  am_meth_ok (ci := [cqX9_breakOff]) (by decide +kernel) rfl ⟨rfl, rfl⟩ (am_rows_of (by decide +kernel) (am_words_of [321, 321, 382, 384, 3, 56, 190, 190, 314, 243] (by decide +kernel) (by decide +kernel))) (am_cs_cons (calX9_breakOff (by decide) (by decide)) am_cs_nil) (am_cv_of (by decide +kernel))
theorem calX9_takeSample {l : Launch} {dC : Nat → ClassId} {dI ad : Nat → Nat → Nat} {cy : Nat → ClassId} {R : Room} (h1 : rmX9_takeSample.frames + 1 ≤ R.frames) (h2 : 8 + (4 + 11) + rmX9_takeSample.locals ≤ R.locals) : am_Cal l dC dI ad cy R 0 0 cqX9_takeSample fX9_takeSample :=
  ⟨okX9_takeSample, am_inU 588 (by decide +kernel) (by decide +kernel), Nat.le_refl _, Nat.le_refl _, h1, h2, ⟨by decide, by decide, by decide +kernel⟩, ⟨by decide, rfl⟩, Or.inl ⟨_, _, rfl⟩⟩
abbrev rmX9_tryStart : Room := { frames := 4, cells := 0, slots := 0, locals := 90 }
def cqX9_tryStart : am_C := (yX9_tryStart, .code yX9_tryStart cX9_tryStart 8 (some .boolean), rmX9_tryStart, some 9, 1, 8)
theorem okX9_tryStart {l : Launch} {dC : Nat → ClassId} {dI ad : Nat → Nat → Nat} {cy : Nat → ClassId} : am_Ok l dC dI ad cy yX9_tryStart (.code yX9_tryStart cX9_tryStart 8 (some .boolean)) rmX9_tryStart fX9_tryStart :=
  am_meth_ok (ci := [cqX9_slotOf, cqX6_sampleVolume, cqX4_fail, cqX9_positionFor, cqX6_lacks, cqX9_cleanCuvette, cqX7_book, cqX1_start, cqX6_doseOf, cqX9_reserve, cqX4_startRun, cqX9_takeSample]) (by decide +kernel) rfl ⟨rfl, rfl⟩ (am_rows_of (by decide +kernel) (am_words_of [315, 311, 273, 271, 516, 518, 11, 56, 312, 190, 283, 520, 521, 522, 59, 524, 399, 400, 65, 525, 527, 12, 56, 525, 527, 12, 56, 541, 542, 543, 59, 541, 542, 543, 59, 524, 399, 400, 65, 546, 548, 13, 56, 316, 554, 555, 556, 57, 314, 312, 188, 573, 574, 575, 64, 314, 533, 534, 535, 59, 577, 579, 16, 56, 314, 533, 534, 535, 59, 577, 579, 16, 56, 581, 582, 583, 65, 312, 283, 520, 521, 522, 59, 585, 587, 17, 56] (by decide +kernel) (by decide +kernel))) (am_cs_cons (calX9_slotOf (by decide) (by decide)) (am_cs_cons (calX6_sampleVolume (by decide) (by decide)) (am_cs_cons (calX4_fail (by decide) (by decide)) (am_cs_cons (calX9_positionFor (by decide) (by decide)) (am_cs_cons (calX6_lacks (by decide) (by decide)) (am_cs_cons (calX9_cleanCuvette (by decide) (by decide)) (am_cs_cons (calX7_book (by decide) (by decide)) (am_cs_cons (calX1_start (by decide) (by decide)) (am_cs_cons (calX6_doseOf (by decide) (by decide)) (am_cs_cons (calX9_reserve (by decide) (by decide)) (am_cs_cons (calX4_startRun (by decide) (by decide)) (am_cs_cons (calX9_takeSample (by decide) (by decide)) am_cs_nil)))))))))))) (am_cv_of (by decide +kernel))
theorem calX9_tryStart {l : Launch} {dC : Nat → ClassId} {dI ad : Nat → Nat → Nat} {cy : Nat → ClassId} {R : Room} (h1 : rmX9_tryStart.frames + 1 ≤ R.frames) (h2 : 8 + (8 + 11) + rmX9_tryStart.locals ≤ R.locals) : am_Cal l dC dI ad cy R 0 0 cqX9_tryStart fX9_tryStart :=
  ⟨okX9_tryStart, am_inU 515 (by decide +kernel) (by decide +kernel), Nat.le_refl _, Nat.le_refl _, h1, h2, ⟨by decide, by decide, by decide +kernel⟩, ⟨by decide, rfl⟩, Or.inl ⟨_, _, rfl⟩⟩
abbrev rmX9_startFirst : Room := { frames := 5, cells := 0, slots := 0, locals := 117 }
def cqX9_startFirst : am_C := (yX9_startFirst, .code yX9_startFirst cX9_startFirst 3 (some .int), rmX9_startFirst, some 9, 1, 3)
theorem okX9_startFirst {l : Launch} {dC : Nat → ClassId} {dI ad : Nat → Nat → Nat} {cy : Nat → ClassId} : am_Ok l dC dI ad cy yX9_startFirst (.code yX9_startFirst cX9_startFirst 3 (some .int)) rmX9_startFirst fX9_startFirst :=
  am_meth_ok (ci := [cqX9_tryStart]) (by decide +kernel) rfl ⟨rfl, rfl⟩ (am_rows_of (by decide +kernel) (am_words_of [318, 315, 277, 315, 275, 512, 514, 10, 56] (by decide +kernel) (by decide +kernel))) (am_cs_cons (calX9_tryStart (by decide) (by decide)) am_cs_nil) (am_cv_of (by decide +kernel))
theorem calX9_startFirst {l : Launch} {dC : Nat → ClassId} {dI ad : Nat → Nat → Nat} {cy : Nat → ClassId} {R : Room} (h1 : rmX9_startFirst.frames + 1 ≤ R.frames) (h2 : 8 + (3 + 11) + rmX9_startFirst.locals ≤ R.locals) : am_Cal l dC dI ad cy R 0 0 cqX9_startFirst fX9_startFirst :=
  ⟨okX9_startFirst, am_inU 511 (by decide +kernel) (by decide +kernel), Nat.le_refl _, Nat.le_refl _, h1, h2, ⟨by decide, by decide, by decide +kernel⟩, ⟨by decide, rfl⟩, Or.inl ⟨_, _, rfl⟩⟩
abbrev rmX9_step : Room := { frames := 6, cells := 0, slots := 0, locals := 154 }
def cqX9_step : am_C := (yX9_step, .code yX9_step cX9_step 2 (some .int), rmX9_step, some 9, 0, 2)
theorem okX9_step {l : Launch} {dC : Nat → ClassId} {dI ad : Nat → Nat → Nat} {cy : Nat → ClassId} : am_Ok l dC dI ad cy yX9_step (.code yX9_step cX9_step 2 (some .int)) rmX9_step fX9_step :=
  am_meth_ok (ci := [cqX9_turnDisc, cqX9_giveReagent, cqX9_takeReadings, cqX9_judgeEndedRuns, cqX9_startFirst]) (by decide +kernel) rfl ⟨rfl, rfl⟩ (am_rows_of (by decide +kernel) (am_words_of [355, 357, 0, 56, 371, 373, 2, 56, 410, 412, 5, 56, 433, 435, 7, 56, 508, 510, 9, 56, 508, 510, 9, 56, 323, 323] (by decide +kernel) (by decide +kernel))) (am_cs_cons (calX9_turnDisc (by decide) (by decide)) (am_cs_cons (calX9_giveReagent (by decide) (by decide)) (am_cs_cons (calX9_takeReadings (by decide) (by decide)) (am_cs_cons (calX9_judgeEndedRuns (by decide) (by decide)) (am_cs_cons (calX9_startFirst (by decide) (by decide)) am_cs_nil))))) (am_cv_of (by decide +kernel))
theorem calX9_step {l : Launch} {dC : Nat → ClassId} {dI ad : Nat → Nat → Nat} {cy : Nat → ClassId} {R : Room} (h1 : rmX9_step.frames + 1 ≤ R.frames) (h2 : 8 + (2 + 11) + rmX9_step.locals ≤ R.locals) : am_Cal l dC dI ad cy R 0 0 cqX9_step fX9_step :=
  ⟨okX9_step, am_inU 354 (by decide +kernel) (by decide +kernel), Nat.le_refl _, Nat.le_refl _, h1, h2, ⟨by decide, by decide, by decide +kernel⟩, ⟨by decide, rfl⟩, Or.inl ⟨_, _, rfl⟩⟩
abbrev rmX9_idle : Room := { frames := 0, cells := 0, slots := 0, locals := 0 }
def cqX9_idle : am_C := (yX9_idle, .code yX9_idle cX9_idle 1 (some .int), rmX9_idle, some 9, 0, 1)
theorem okX9_idle {l : Launch} {dC : Nat → ClassId} {dI ad : Nat → Nat → Nat} {cy : Nat → ClassId} : am_Ok l dC dI ad cy yX9_idle (.code yX9_idle cX9_idle 1 (some .int)) rmX9_idle fX9_idle :=
  am_meth_ok (ci := []) (by decide +kernel) rfl ⟨rfl, rfl⟩ (am_rows_of (by decide +kernel) (am_words_of [323] (by decide +kernel) (by decide +kernel))) am_cs_nil (am_cv_of (by decide +kernel))
theorem calX9_idle {l : Launch} {dC : Nat → ClassId} {dI ad : Nat → Nat → Nat} {cy : Nat → ClassId} {R : Room} (h1 : rmX9_idle.frames + 1 ≤ R.frames) (h2 : 8 + (1 + 11) + rmX9_idle.locals ≤ R.locals) : am_Cal l dC dI ad cy R 0 0 cqX9_idle fX9_idle :=
  ⟨okX9_idle, am_inU 592 (by decide +kernel) (by decide +kernel), Nat.le_refl _, Nat.le_refl _, h1, h2, ⟨by decide, by decide, by decide +kernel⟩, ⟨by decide, rfl⟩, Or.inl ⟨_, _, rfl⟩⟩
abbrev rmX9_state : Room := { frames := 7, cells := 0, slots := 0, locals := 140 }
def cqX9_state : am_C := (yX9_state, .code yX9_state cX9_state 5 (some .int), rmX9_state, some 9, 2, 5)
theorem okX9_state {l : Launch} {dC : Nat → ClassId} {dI ad : Nat → Nat → Nat} {cy : Nat → ClassId} : am_Ok l dC dI ad cy yX9_state (.code yX9_state cX9_state 5 (some .int)) rmX9_state fX9_state :=
  am_meth_ok (ci := [cqX9_isWithin, cqX9_demandArgument, cqX9_cuvetteOf]) (by decide +kernel) rfl ⟨rfl, rfl⟩ (am_rows_of (by decide +kernel) (am_words_of [318, 380, 56, 379, 380, 56, 379, 610, 56, 609, 315, 420, 422, 6, 56, 277, 279, 281, 285, 239, 287, 289] (by decide +kernel) (by decide +kernel))) (am_cs_cons (calX9_isWithin (by decide) (by decide)) (am_cs_cons (calX9_demandArgument (by decide) (by decide)) (am_cs_cons (calX9_cuvetteOf (by decide) (by decide)) am_cs_nil))) (am_cv_of (by decide +kernel))
theorem calX9_state {l : Launch} {dC : Nat → ClassId} {dI ad : Nat → Nat → Nat} {cy : Nat → ClassId} {R : Room} (h1 : rmX9_state.frames + 1 ≤ R.frames) (h2 : 8 + (5 + 11) + rmX9_state.locals ≤ R.locals) : am_Cal l dC dI ad cy R 0 0 cqX9_state fX9_state :=
  ⟨okX9_state, am_inU 868 (by decide +kernel) (by decide +kernel), Nat.le_refl _, Nat.le_refl _, h1, h2, ⟨by decide, by decide, by decide +kernel⟩, ⟨by decide, rfl⟩, Or.inl ⟨_, _, rfl⟩⟩
abbrev rmX9_cuvette : Room := { frames := 7, cells := 0, slots := 0, locals := 140 }
def cqX9_cuvette : am_C := (yX9_cuvette, .code yX9_cuvette cX9_cuvette 4 (some .int), rmX9_cuvette, some 9, 2, 4)
theorem okX9_cuvette {l : Launch} {dC : Nat → ClassId} {dI ad : Nat → Nat → Nat} {cy : Nat → ClassId} : am_Ok l dC dI ad cy yX9_cuvette (.code yX9_cuvette cX9_cuvette 4 (some .int)) rmX9_cuvette fX9_cuvette :=
  am_meth_ok (ci := [cqX9_isWithin, cqX9_demandArgument]) (by decide +kernel) rfl ⟨rfl, rfl⟩ (am_rows_of (by decide +kernel) (am_words_of [380, 56, 379, 380, 56, 379, 610, 56, 609, 314, 235, 241, 243] (by decide +kernel) (by decide +kernel))) (am_cs_cons (calX9_isWithin (by decide) (by decide)) (am_cs_cons (calX9_demandArgument (by decide) (by decide)) am_cs_nil)) (am_cv_of (by decide +kernel))
theorem calX9_cuvette {l : Launch} {dC : Nat → ClassId} {dI ad : Nat → Nat → Nat} {cy : Nat → ClassId} {R : Room} (h1 : rmX9_cuvette.frames + 1 ≤ R.frames) (h2 : 8 + (4 + 11) + rmX9_cuvette.locals ≤ R.locals) : am_Cal l dC dI ad cy R 0 0 cqX9_cuvette fX9_cuvette :=
  ⟨okX9_cuvette, am_inU 875 (by decide +kernel) (by decide +kernel), Nat.le_refl _, Nat.le_refl _, h1, h2, ⟨by decide, by decide, by decide +kernel⟩, ⟨by decide, rfl⟩, Or.inl ⟨_, _, rfl⟩⟩
abbrev rmX9_volume : Room := { frames := 7, cells := 0, slots := 0, locals := 140 }
def cqX9_volume : am_C := (yX9_volume, .code yX9_volume cX9_volume 3 (some .int), rmX9_volume, some 9, 2, 3)
theorem okX9_volume {l : Launch} {dC : Nat → ClassId} {dI ad : Nat → Nat → Nat} {cy : Nat → ClassId} : am_Ok l dC dI ad cy yX9_volume (.code yX9_volume cX9_volume 3 (some .int)) rmX9_volume fX9_volume :=
  am_meth_ok (ci := [cqX9_isWithin, cqX9_demandArgument, cqX8_isEmpty, cqX9_demandElement, cqX5_isEmpty]) (by decide +kernel) rfl ⟨rfl, rfl⟩ (am_rows_of (by decide +kernel) (am_words_of [380, 56, 379, 380, 56, 379, 610, 56, 609, 312, 770, 771, 772, 62, 787, 56, 786, 312, 190, 313, 883, 884, 885, 63, 787, 56, 786, 313, 205, 313, 207] (by decide +kernel) (by decide +kernel))) (am_cs_cons (calX9_isWithin (by decide) (by decide)) (am_cs_cons (calX9_demandArgument (by decide) (by decide)) (am_cs_cons (calX8_isEmpty (by decide) (by decide)) (am_cs_cons (calX9_demandElement (by decide) (by decide)) (am_cs_cons (calX5_isEmpty (by decide) (by decide)) am_cs_nil))))) (am_cv_of (by decide +kernel))
theorem calX9_volume {l : Launch} {dC : Nat → ClassId} {dI ad : Nat → Nat → Nat} {cy : Nat → ClassId} {R : Room} (h1 : rmX9_volume.frames + 1 ≤ R.frames) (h2 : 8 + (3 + 11) + rmX9_volume.locals ≤ R.locals) : am_Cal l dC dI ad cy R 0 0 cqX9_volume fX9_volume :=
  ⟨okX9_volume, am_inU 882 (by decide +kernel) (by decide +kernel), Nat.le_refl _, Nat.le_refl _, h1, h2, ⟨by decide, by decide, by decide +kernel⟩, ⟨by decide, rfl⟩, Or.inl ⟨_, _, rfl⟩⟩
abbrev rmX9_demandIndex : Room := { frames := 6, cells := 0, slots := 0, locals := 120 }
def cqX9_demandIndex : am_C := (yX9_demandIndex, .code yX9_demandIndex cX9_demandIndex 1 none, rmX9_demandIndex, none, 1, 1)
theorem okX9_demandIndex {l : Launch} {dC : Nat → ClassId} {dI ad : Nat → Nat → Nat} {cy : Nat → ClassId} : am_Ok l dC dI ad cy yX9_demandIndex (.code yX9_demandIndex cX9_demandIndex 1 none) rmX9_demandIndex fX9_demandIndex := by
  intro av M M2 r hav hF
  refine am_meth_ok (cs := []) (ci := []) (rt := 0) (nL := 1) (N := 3) (P := am_pD) (by decide +kernel) rfl ⟨rfl, rfl⟩ (am_rows_of (by decide +kernel) (am_words_of [] (by decide +kernel) (by decide +kernel))) am_cs_nil (am_cv_of (by decide +kernel)) av M M2 r hav ?_
  unfold fX9_demandIndex at hF
  split at hF
  · rename_i x
    split at hF
    · cases hF
    · rename_i hx
      cases hF
      show (if x = 0 then _ else _) = _
      rw [if_neg hx]
      rfl
  · cases hF
theorem calX9_demandIndex {l : Launch} {dC : Nat → ClassId} {dI ad : Nat → Nat → Nat} {cy : Nat → ClassId} {R : Room} (h1 : rmX9_demandIndex.frames + 1 ≤ R.frames) (h2 : 8 + (1 + 11) + rmX9_demandIndex.locals ≤ R.locals) : am_Cal l dC dI ad cy R 0 0 cqX9_demandIndex fX9_demandIndex :=
  ⟨okX9_demandIndex, am_inU 897 (by decide +kernel) (by decide +kernel), Nat.le_refl _, Nat.le_refl _, h1, h2, ⟨by decide, by decide, by decide +kernel⟩, trivial, Or.inl ⟨_, _, rfl⟩⟩
abbrev rmX9_trend : Room := { frames := 7, cells := 0, slots := 0, locals := 140 }
def cqX9_trend : am_C := (yX9_trend, .code yX9_trend cX9_trend 4 (some .int), rmX9_trend, some 9, 2, 4)
theorem okX9_trend {l : Launch} {dC : Nat → ClassId} {dI ad : Nat → Nat → Nat} {cy : Nat → ClassId} : am_Ok l dC dI ad cy yX9_trend (.code yX9_trend cX9_trend 4 (some .int)) rmX9_trend fX9_trend :=
  am_meth_ok (ci := [cqX9_isWithin, cqX9_demandArgument, cqX9_demandIndex, cqX2_fromLatest]) (by decide +kernel) rfl ⟨rfl, rfl⟩ (am_rows_of (by decide +kernel) (am_words_of [380, 56, 379, 610, 56, 609, 311, 168, 157, 380, 56, 379, 896, 56, 895, 913, 914, 915, 61] (by decide +kernel) (by decide +kernel))) (am_cs_cons (calX9_isWithin (by decide) (by decide)) (am_cs_cons (calX9_demandArgument (by decide) (by decide)) (am_cs_cons (calX9_demandIndex (by decide) (by decide)) (am_cs_cons (calX2_fromLatest (by decide) (by decide)) am_cs_nil)))) (am_cv_of (by decide +kernel))
theorem calX9_trend {l : Launch} {dC : Nat → ClassId} {dI ad : Nat → Nat → Nat} {cy : Nat → ClassId} {R : Room} (h1 : rmX9_trend.frames + 1 ≤ R.frames) (h2 : 8 + (4 + 11) + rmX9_trend.locals ≤ R.locals) : am_Cal l dC dI ad cy R 0 0 cqX9_trend fX9_trend :=
  ⟨okX9_trend, am_inU 894 (by decide +kernel) (by decide +kernel), Nat.le_refl _, Nat.le_refl _, h1, h2, ⟨by decide, by decide, by decide +kernel⟩, ⟨by decide, rfl⟩, Or.inl ⟨_, _, rfl⟩⟩
abbrev rmX9_rules : Room := { frames := 7, cells := 0, slots := 0, locals := 140 }
def cqX9_rules : am_C := (yX9_rules, .code yX9_rules cX9_rules 2 (some .int), rmX9_rules, some 9, 1, 2)
theorem okX9_rules {l : Launch} {dC : Nat → ClassId} {dI ad : Nat → Nat → Nat} {cy : Nat → ClassId} : am_Ok l dC dI ad cy yX9_rules (.code yX9_rules cX9_rules 2 (some .int)) rmX9_rules fX9_rules :=
  am_meth_ok (ci := [cqX9_isWithin, cqX9_demandArgument, cqX6_brokenRules]) (by decide +kernel) rfl ⟨rfl, rfl⟩ (am_rows_of (by decide +kernel) (am_words_of [380, 56, 379, 610, 56, 609, 311, 925, 926, 927, 59] (by decide +kernel) (by decide +kernel))) (am_cs_cons (calX9_isWithin (by decide) (by decide)) (am_cs_cons (calX9_demandArgument (by decide) (by decide)) (am_cs_cons (calX6_brokenRules (by decide) (by decide)) am_cs_nil))) (am_cv_of (by decide +kernel))
theorem calX9_rules {l : Launch} {dC : Nat → ClassId} {dI ad : Nat → Nat → Nat} {cy : Nat → ClassId} {R : Room} (h1 : rmX9_rules.frames + 1 ≤ R.frames) (h2 : 8 + (2 + 11) + rmX9_rules.locals ≤ R.locals) : am_Cal l dC dI ad cy R 0 0 cqX9_rules fX9_rules :=
  ⟨okX9_rules, am_inU 924 (by decide +kernel) (by decide +kernel), Nat.le_refl _, Nat.le_refl _, h1, h2, ⟨by decide, by decide, by decide +kernel⟩, ⟨by decide, rfl⟩, Or.inl ⟨_, _, rfl⟩⟩
abbrev rmX9_host : Room := { frames := 7, cells := 0, slots := 0, locals := 140 }
def cqX9_host : am_C := (yX9_host, .code yX9_host cX9_host 2 (some .int), rmX9_host, some 9, 1, 2)
theorem okX9_host {l : Launch} {dC : Nat → ClassId} {dI ad : Nat → Nat → Nat} {cy : Nat → ClassId} : am_Ok l dC dI ad cy yX9_host (.code yX9_host cX9_host 2 (some .int)) rmX9_host fX9_host :=
  am_meth_ok (ci := [cqX9_isWithin, cqX9_demandIndex]) (by decide +kernel) rfl ⟨rfl, rfl⟩ (am_rows_of (by decide +kernel) (am_words_of [317, 120, 380, 56, 379, 896, 56, 895, 317, 118] (by decide +kernel) (by decide +kernel))) (am_cs_cons (calX9_isWithin (by decide) (by decide)) (am_cs_cons (calX9_demandIndex (by decide) (by decide)) am_cs_nil)) (am_cv_of (by decide +kernel))
theorem calX9_host {l : Launch} {dC : Nat → ClassId} {dI ad : Nat → Nat → Nat} {cy : Nat → ClassId} {R : Room} (h1 : rmX9_host.frames + 1 ≤ R.frames) (h2 : 8 + (2 + 11) + rmX9_host.locals ≤ R.locals) : am_Cal l dC dI ad cy R 0 0 cqX9_host fX9_host :=
  ⟨okX9_host, am_inU 946 (by decide +kernel) (by decide +kernel), Nat.le_refl _, Nat.le_refl _, h1, h2, ⟨by decide, by decide, by decide +kernel⟩, ⟨by decide, rfl⟩, Or.inl ⟨_, _, rfl⟩⟩
abbrev rmX9_took : Room := { frames := 7, cells := 0, slots := 0, locals := 140 }
def cqX9_took : am_C := (yX9_took, .code yX9_took cX9_took 2 (some .int), rmX9_took, some 9, 1, 2)
theorem okX9_took {l : Launch} {dC : Nat → ClassId} {dI ad : Nat → Nat → Nat} {cy : Nat → ClassId} : am_Ok l dC dI ad cy yX9_took (.code yX9_took cX9_took 2 (some .int)) rmX9_took fX9_took :=
  am_meth_ok (ci := [cqX9_isWithin, cqX9_demandArgument, cqX3_dropFirst]) (by decide +kernel) rfl ⟨rfl, rfl⟩ (am_rows_of (by decide +kernel) (am_words_of [317, 120, 380, 56, 379, 610, 56, 609, 317, 954, 955, 956, 58, 317, 120] (by decide +kernel) (by decide +kernel))) (am_cs_cons (calX9_isWithin (by decide) (by decide)) (am_cs_cons (calX9_demandArgument (by decide) (by decide)) (am_cs_cons (calX3_dropFirst (by decide) (by decide)) am_cs_nil))) (am_cv_of (by decide +kernel))
theorem calX9_took {l : Launch} {dC : Nat → ClassId} {dI ad : Nat → Nat → Nat} {cy : Nat → ClassId} {R : Room} (h1 : rmX9_took.frames + 1 ≤ R.frames) (h2 : 8 + (2 + 11) + rmX9_took.locals ≤ R.locals) : am_Cal l dC dI ad cy R 0 0 cqX9_took fX9_took :=
  ⟨okX9_took, am_inU 953 (by decide +kernel) (by decide +kernel), Nat.le_refl _, Nat.le_refl _, h1, h2, ⟨by decide, by decide, by decide +kernel⟩, ⟨by decide, rfl⟩, Or.inl ⟨_, _, rfl⟩⟩
abbrev rmX10_thrown : Room := { frames := 0, cells := 0, slots := 0, locals := 0 }
def cqX10_thrown : am_C := (yX10_thrown, .code yX10_thrown cX10_thrown 1 (some .int), rmX10_thrown, some 10, 0, 1)
theorem okX10_thrown {l : Launch} {dC : Nat → ClassId} {dI ad : Nat → Nat → Nat} {cy : Nat → ClassId} : am_Ok l dC dI ad cy yX10_thrown (.code yX10_thrown cX10_thrown 1 (some .int)) rmX10_thrown fX10_thrown :=
  am_meth_ok (ci := []) (by decide +kernel) rfl ⟨rfl, rfl⟩ (am_rows_of (by decide +kernel) (am_words_of [1010] (by decide +kernel) (by decide +kernel))) am_cs_nil (am_cv_of (by decide +kernel))
theorem calX10_thrown {l : Launch} {dC : Nat → ClassId} {dI ad : Nat → Nat → Nat} {cy : Nat → ClassId} {R : Room} (h1 : rmX10_thrown.frames + 1 ≤ R.frames) (h2 : 8 + (1 + 11) + rmX10_thrown.locals ≤ R.locals) : am_Cal l dC dI ad cy R 0 0 cqX10_thrown fX10_thrown :=
  ⟨okX10_thrown, am_inU 1113 (by decide +kernel) (by decide +kernel), Nat.le_refl _, Nat.le_refl _, h1, h2, ⟨by decide, by decide, by decide +kernel⟩, ⟨by decide, rfl⟩, Or.inl ⟨_, _, rfl⟩⟩
abbrev rmX10_within : Room := { frames := 0, cells := 0, slots := 0, locals := 0 }
def cqX10_within : am_C := (yX10_within, .code yX10_within cX10_within 3 (some .boolean), rmX10_within, none, 3, 3)
theorem okX10_within {l : Launch} {dC : Nat → ClassId} {dI ad : Nat → Nat → Nat} {cy : Nat → ClassId} : am_Ok l dC dI ad cy yX10_within (.code yX10_within cX10_within 3 (some .boolean)) rmX10_within fX10_within :=
  am_meth_ok (ci := []) (by decide +kernel) rfl ⟨rfl, rfl⟩ (am_rows_of (by decide +kernel) (am_words_of [] (by decide +kernel) (by decide +kernel))) am_cs_nil (am_cv_of (by decide +kernel))
theorem calX10_within {l : Launch} {dC : Nat → ClassId} {dI ad : Nat → Nat → Nat} {cy : Nat → ClassId} {R : Room} (h1 : rmX10_within.frames + 1 ≤ R.frames) (h2 : 8 + (3 + 11) + rmX10_within.locals ≤ R.locals) : am_Cal l dC dI ad cy R 0 0 cqX10_within fX10_within :=
  ⟨okX10_within, am_inU 1123 (by decide +kernel) (by decide +kernel), Nat.le_refl _, Nat.le_refl _, h1, h2, ⟨by decide, by decide, by decide +kernel⟩, trivial, Or.inl ⟨_, _, rfl⟩⟩
abbrev rmX10_isTest : Room := { frames := 1, cells := 0, slots := 0, locals := 22 }
def cqX10_isTest : am_C := (yX10_isTest, .code yX10_isTest cX10_isTest 1 (some .boolean), rmX10_isTest, none, 1, 1)
theorem okX10_isTest {l : Launch} {dC : Nat → ClassId} {dI ad : Nat → Nat → Nat} {cy : Nat → ClassId} : am_Ok l dC dI ad cy yX10_isTest (.code yX10_isTest cX10_isTest 1 (some .boolean)) rmX10_isTest fX10_isTest :=
  am_meth_ok (ci := [cqX10_within]) (by decide +kernel) rfl ⟨rfl, rfl⟩ (am_rows_of (by decide +kernel) (am_words_of [1122, 66, 1121] (by decide +kernel) (by decide +kernel))) (am_cs_cons (calX10_within (by decide) (by decide)) am_cs_nil) (am_cv_of (by decide +kernel))
theorem calX10_isTest {l : Launch} {dC : Nat → ClassId} {dI ad : Nat → Nat → Nat} {cy : Nat → ClassId} {R : Room} (h1 : rmX10_isTest.frames + 1 ≤ R.frames) (h2 : 8 + (1 + 11) + rmX10_isTest.locals ≤ R.locals) : am_Cal l dC dI ad cy R 0 0 cqX10_isTest fX10_isTest :=
  ⟨okX10_isTest, am_inU 1120 (by decide +kernel) (by decide +kernel), Nat.le_refl _, Nat.le_refl _, h1, h2, ⟨by decide, by decide, by decide +kernel⟩, trivial, Or.inl ⟨_, _, rfl⟩⟩
abbrev rmX10_of : Room := { frames := 0, cells := 0, slots := 0, locals := 0 }
def cqX10_of : am_C := (yX10_of, .code yX10_of cX10_of 3 (some .int), rmX10_of, some 10, 2, 3)
theorem okX10_of {l : Launch} {dC : Nat → ClassId} {dI ad : Nat → Nat → Nat} {cy : Nat → ClassId} : am_Ok l dC dI ad cy yX10_of (.code yX10_of cX10_of 3 (some .int)) rmX10_of fX10_of :=
  am_meth_ok (ci := []) (by decide +kernel) rfl ⟨rfl, rfl⟩ (am_rows_of (by decide +kernel) (am_words_of [965] (by decide +kernel) (by decide +kernel))) am_cs_nil (am_cv_of (by decide +kernel))
theorem calX10_of {l : Launch} {dC : Nat → ClassId} {dI ad : Nat → Nat → Nat} {cy : Nat → ClassId} {R : Room} (h1 : rmX10_of.frames + 1 ≤ R.frames) (h2 : 8 + (3 + 11) + rmX10_of.locals ≤ R.locals) : am_Cal l dC dI ad cy R 0 0 cqX10_of fX10_of :=
  ⟨okX10_of, am_inU 1144 (by decide +kernel) (by decide +kernel), Nat.le_refl _, Nat.le_refl _, h1, h2, ⟨by decide, by decide, by decide +kernel⟩, ⟨by decide, rfl⟩, Or.inl ⟨_, _, rfl⟩⟩
abbrev rmX10_pending : Room := { frames := 0, cells := 0, slots := 0, locals := 0 }
def cqX10_pending : am_C := (yX10_pending, .code yX10_pending cX10_pending 3 (some .boolean), rmX10_pending, some 10, 1, 3)
theorem okX10_pending {l : Launch} {dC : Nat → ClassId} {dI ad : Nat → Nat → Nat} {cy : Nat → ClassId} : am_Ok l dC dI ad cy yX10_pending (.code yX10_pending cX10_pending 3 (some .boolean)) rmX10_pending fX10_pending :=
  am_meth_ok (ci := []) (by decide +kernel) rfl ⟨rfl, rfl⟩ (am_rows_of (by decide +kernel) (am_words_of [979, 981, 983] (by decide +kernel) (by decide +kernel))) am_cs_nil (am_cv_of (by decide +kernel))
theorem calX10_pending {l : Launch} {dC : Nat → ClassId} {dI ad : Nat → Nat → Nat} {cy : Nat → ClassId} {R : Room} (h1 : rmX10_pending.frames + 1 ≤ R.frames) (h2 : 8 + (3 + 11) + rmX10_pending.locals ≤ R.locals) : am_Cal l dC dI ad cy R 0 0 cqX10_pending fX10_pending :=
  ⟨okX10_pending, am_inU 1131 (by decide +kernel) (by decide +kernel), Nat.le_refl _, Nat.le_refl _, h1, h2, ⟨by decide, by decide, by decide +kernel⟩, ⟨by decide, rfl⟩, Or.inl ⟨_, _, rfl⟩⟩
abbrev rmX10_fits : Room := { frames := 1, cells := 0, slots := 0, locals := 22 }
def cqX10_fits : am_C := (yX10_fits, .code yX10_fits cX10_fits 2 (some .boolean), rmX10_fits, none, 2, 2)
theorem okX10_fits {l : Launch} {dC : Nat → ClassId} {dI ad : Nat → Nat → Nat} {cy : Nat → ClassId} : am_Ok l dC dI ad cy yX10_fits (.code yX10_fits cX10_fits 2 (some .boolean)) rmX10_fits fX10_fits :=
  am_meth_ok (ci := [cqX10_within]) (by decide +kernel) rfl ⟨rfl, rfl⟩ (am_rows_of (by decide +kernel) (am_words_of [1122, 66, 1121, 1122, 66, 1121, 1122, 66, 1121, 1122, 66, 1121, 1122, 66, 1121, 1122, 66, 1121, 1127, 1122, 66, 1121] (by decide +kernel) (by decide +kernel))) (am_cs_cons (calX10_within (by decide) (by decide)) am_cs_nil) (am_cv_of (by decide +kernel))
theorem calX10_fits {l : Launch} {dC : Nat → ClassId} {dI ad : Nat → Nat → Nat} {cy : Nat → ClassId} {R : Room} (h1 : rmX10_fits.frames + 1 ≤ R.frames) (h2 : 8 + (2 + 11) + rmX10_fits.locals ≤ R.locals) : am_Cal l dC dI ad cy R 0 0 cqX10_fits fX10_fits :=
  ⟨okX10_fits, am_inU 1126 (by decide +kernel) (by decide +kernel), Nat.le_refl _, Nat.le_refl _, h1, h2, ⟨by decide, by decide, by decide +kernel⟩, trivial, Or.inl ⟨_, _, rfl⟩⟩
abbrev rmX10_define : Room := { frames := 2, cells := 0, slots := 0, locals := 43 }
def cqX10_define : am_C := (yX10_define, .code yX10_define cX10_define 4 none, rmX10_define, some 10, 3, 4)
theorem okX10_define {l : Launch} {dC : Nat → ClassId} {dI ad : Nat → Nat → Nat} {cy : Nat → ClassId} : am_Ok l dC dI ad cy yX10_define (.code yX10_define cX10_define 4 none) rmX10_define fX10_define :=
  am_meth_ok (ci := [cqX10_isTest, cqX10_within, cqX10_fits, cqX10_pending]) (by decide +kernel) rfl ⟨rfl, rfl⟩ (am_rows_of (by decide +kernel) (am_words_of [1119, 66, 1118, 1122, 66, 1121, 1125, 66, 1124, 1128, 1130, 26, 66, 1010, 1010, 965, 966] (by decide +kernel) (by decide +kernel))) (am_cs_cons (calX10_isTest (by decide) (by decide)) (am_cs_cons (calX10_within (by decide) (by decide)) (am_cs_cons (calX10_fits (by decide) (by decide)) (am_cs_cons (calX10_pending (by decide) (by decide)) am_cs_nil)))) (am_cv_of (by decide +kernel))
theorem calX10_define {l : Launch} {dC : Nat → ClassId} {dI ad : Nat → Nat → Nat} {cy : Nat → ClassId} {R : Room} (h1 : rmX10_define.frames + 1 ≤ R.frames) (h2 : 8 + (4 + 11) + rmX10_define.locals ≤ R.locals) : am_Cal l dC dI ad cy R 0 0 cqX10_define fX10_define :=
  ⟨okX10_define, am_inU 1117 (by decide +kernel) (by decide +kernel), Nat.le_refl _, Nat.le_refl _, h1, h2, ⟨by decide, by decide, by decide +kernel⟩, ⟨by decide, rfl⟩, Or.inl ⟨_, _, rfl⟩⟩
abbrev rmX10_curve : Room := { frames := 2, cells := 0, slots := 0, locals := 42 }
def cqX10_curve : am_C := (yX10_curve, .code yX10_curve cX10_curve 5 (some .int), rmX10_curve, some 10, 3, 5)
theorem okX10_curve {l : Launch} {dC : Nat → ClassId} {dI ad : Nat → Nat → Nat} {cy : Nat → ClassId} : am_Ok l dC dI ad cy yX10_curve (.code yX10_curve cX10_curve 5 (some .int)) rmX10_curve fX10_curve :=
  am_meth_ok (ci := [cqX10_isTest, cqX10_within, cqX10_pending]) (by decide +kernel) rfl ⟨rfl, rfl⟩ (am_rows_of (by decide +kernel) (am_words_of [1119, 66, 1118, 1136, 1127, 1122, 66, 1121, 1136, 1127, 1122, 66, 1121, 1128, 1130, 26, 66, 969, 969, 967, 969, 1010, 1010, 969, 967, 969, 969, 967, 969, 968, 969, 969, 966, 969] (by decide +kernel) (by decide +kernel))) (am_cs_cons (calX10_isTest (by decide) (by decide)) (am_cs_cons (calX10_within (by decide) (by decide)) (am_cs_cons (calX10_pending (by decide) (by decide)) am_cs_nil))) (am_cv_of (by decide +kernel))
theorem calX10_curve {l : Launch} {dC : Nat → ClassId} {dI ad : Nat → Nat → Nat} {cy : Nat → ClassId} {R : Room} (h1 : rmX10_curve.frames + 1 ≤ R.frames) (h2 : 8 + (5 + 11) + rmX10_curve.locals ≤ R.locals) : am_Cal l dC dI ad cy R 0 0 cqX10_curve fX10_curve :=
  ⟨okX10_curve, am_inU 1135 (by decide +kernel) (by decide +kernel), Nat.le_refl _, Nat.le_refl _, h1, h2, ⟨by decide, by decide, by decide +kernel⟩, ⟨by decide, rfl⟩, Or.inl ⟨_, _, rfl⟩⟩
abbrev rmX10_reagentGood : Room := { frames := 1, cells := 0, slots := 0, locals := 22 }
def cqX10_reagentGood : am_C := (yX10_reagentGood, .code yX10_reagentGood cX10_reagentGood 3 (some .boolean), rmX10_reagentGood, some 10, 2, 3)
theorem okX10_reagentGood {l : Launch} {dC : Nat → ClassId} {dI ad : Nat → Nat → Nat} {cy : Nat → ClassId} : am_Ok l dC dI ad cy yX10_reagentGood (.code yX10_reagentGood cX10_reagentGood 3 (some .boolean)) rmX10_reagentGood fX10_reagentGood :=
  am_meth_ok (ci := [cqX10_of]) (by decide +kernel) rfl ⟨rfl, rfl⟩ (am_rows_of (by decide +kernel) (am_words_of [1141, 1143, 27, 66, 1141, 1143, 27, 66, 1141, 1143, 27, 66, 1141, 1143, 27, 66, 1141, 1143, 27, 66] (by decide +kernel) (by decide +kernel))) (am_cs_cons (calX10_of (by decide) (by decide)) am_cs_nil) (am_cv_of (by decide +kernel))
theorem calX10_reagentGood {l : Launch} {dC : Nat → ClassId} {dI ad : Nat → Nat → Nat} {cy : Nat → ClassId} {R : Room} (h1 : rmX10_reagentGood.frames + 1 ≤ R.frames) (h2 : 8 + (3 + 11) + rmX10_reagentGood.locals ≤ R.locals) : am_Cal l dC dI ad cy R 0 0 cqX10_reagentGood fX10_reagentGood :=
  ⟨okX10_reagentGood, am_inU 1148 (by decide +kernel) (by decide +kernel), Nat.le_refl _, Nat.le_refl _, h1, h2, ⟨by decide, by decide, by decide +kernel⟩, ⟨by decide, rfl⟩, Or.inl ⟨_, _, rfl⟩⟩
abbrev rmX10_curveGood : Room := { frames := 0, cells := 0, slots := 0, locals := 0 }
def cqX10_curveGood : am_C := (yX10_curveGood, .code yX10_curveGood cX10_curveGood 5 (some .boolean), rmX10_curveGood, some 10, 1, 5)
theorem okX10_curveGood {l : Launch} {dC : Nat → ClassId} {dI ad : Nat → Nat → Nat} {cy : Nat → ClassId} : am_Ok l dC dI ad cy yX10_curveGood (.code yX10_curveGood cX10_curveGood 5 (some .boolean)) rmX10_curveGood fX10_curveGood :=
  am_meth_ok (ci := []) (by decide +kernel) rfl ⟨rfl, rfl⟩ (am_rows_of (by decide +kernel) (am_words_of [969, 969, 969, 968, 968, 968, 968] (by decide +kernel) (by decide +kernel))) am_cs_nil (am_cv_of (by decide +kernel))
theorem calX10_curveGood {l : Launch} {dC : Nat → ClassId} {dI ad : Nat → Nat → Nat} {cy : Nat → ClassId} {R : Room} (h1 : rmX10_curveGood.frames + 1 ≤ R.frames) (h2 : 8 + (5 + 11) + rmX10_curveGood.locals ≤ R.locals) : am_Cal l dC dI ad cy R 0 0 cqX10_curveGood fX10_curveGood :=
  ⟨okX10_curveGood, am_inU 1152 (by decide +kernel) (by decide +kernel), Nat.le_refl _, Nat.le_refl _, h1, h2, ⟨by decide, by decide, by decide +kernel⟩, ⟨by decide, rfl⟩, Or.inl ⟨_, _, rfl⟩⟩
abbrev rmX10_seal : Room := { frames := 2, cells := 0, slots := 0, locals := 44 }
def cqX10_seal : am_C := (yX10_seal, .code yX10_seal cX10_seal 4 (some .boolean), rmX10_seal, some 10, 1, 4)
theorem okX10_seal {l : Launch} {dC : Nat → ClassId} {dI ad : Nat → Nat → Nat} {cy : Nat → ClassId} : am_Ok l dC dI ad cy yX10_seal (.code yX10_seal cX10_seal 4 (some .boolean)) rmX10_seal fX10_seal :=
  am_meth_ok (ci := [cqX10_isTest, cqX10_of, cqX10_reagentGood, cqX10_curveGood]) (by decide +kernel) rfl ⟨rfl, rfl⟩ (am_rows_of (by decide +kernel) (am_words_of [1119, 66, 1118, 1010, 1010, 1141, 1143, 27, 66, 1145, 1147, 28, 66, 1145, 1147, 28, 66, 1149, 1151, 29, 66, 1141, 1143, 27, 66, 1141, 1143, 27, 66, 1141, 1143, 27, 66, 1141, 1143, 27, 66, 1141, 1143, 27, 66, 1141, 1143, 27, 66, 1141, 1143, 27, 66, 1141, 1143, 27, 66, 1141, 1143, 27, 66, 1141, 1143, 27, 66, 1141, 1143, 27, 66, 1141, 1143, 27, 66, 1141, 1143, 27, 66, 966] (by decide +kernel) (by decide +kernel))) (am_cs_cons (calX10_isTest (by decide) (by decide)) (am_cs_cons (calX10_of (by decide) (by decide)) (am_cs_cons (calX10_reagentGood (by decide) (by decide)) (am_cs_cons (calX10_curveGood (by decide) (by decide)) am_cs_nil)))) (am_cv_of (by decide +kernel))
theorem calX10_seal {l : Launch} {dC : Nat → ClassId} {dI ad : Nat → Nat → Nat} {cy : Nat → ClassId} {R : Room} (h1 : rmX10_seal.frames + 1 ≤ R.frames) (h2 : 8 + (4 + 11) + rmX10_seal.locals ≤ R.locals) : am_Cal l dC dI ad cy R 0 0 cqX10_seal fX10_seal :=
  ⟨okX10_seal, am_inU 1140 (by decide +kernel) (by decide +kernel), Nat.le_refl _, Nat.le_refl _, h1, h2, ⟨by decide, by decide, by decide +kernel⟩, ⟨by decide, rfl⟩, Or.inl ⟨_, _, rfl⟩⟩
abbrev rmX10_slotOf : Room := { frames := 0, cells := 0, slots := 0, locals := 0 }
def cqX10_slotOf : am_C := (yX10_slotOf, .code yX10_slotOf cX10_slotOf 3 (some .int), rmX10_slotOf, some 10, 1, 3)
theorem okX10_slotOf {l : Launch} {dC : Nat → ClassId} {dI ad : Nat → Nat → Nat} {cy : Nat → ClassId} : am_Ok l dC dI ad cy yX10_slotOf (.code yX10_slotOf cX10_slotOf 3 (some .int)) rmX10_slotOf fX10_slotOf :=
  am_meth_ok (ci := []) (by decide +kernel) rfl ⟨rfl, rfl⟩ (am_rows_of (by decide +kernel) (am_words_of [972] (by decide +kernel) (by decide +kernel))) am_cs_nil (am_cv_of (by decide +kernel))
theorem calX10_slotOf {l : Launch} {dC : Nat → ClassId} {dI ad : Nat → Nat → Nat} {cy : Nat → ClassId} {R : Room} (h1 : rmX10_slotOf.frames + 1 ≤ R.frames) (h2 : 8 + (3 + 11) + rmX10_slotOf.locals ≤ R.locals) : am_Cal l dC dI ad cy R 0 0 cqX10_slotOf fX10_slotOf :=
  ⟨okX10_slotOf, am_inU 1162 (by decide +kernel) (by decide +kernel), Nat.le_refl _, Nat.le_refl _, h1, h2, ⟨by decide, by decide, by decide +kernel⟩, ⟨by decide, rfl⟩, Or.inl ⟨_, _, rfl⟩⟩
abbrev rmX10_rack : Room := { frames := 1, cells := 0, slots := 0, locals := 22 }
def cqX10_rack : am_C := (yX10_rack, .code yX10_rack cX10_rack 6 none, rmX10_rack, some 10, 4, 6)
theorem okX10_rack {l : Launch} {dC : Nat → ClassId} {dI ad : Nat → Nat → Nat} {cy : Nat → ClassId} : am_Ok l dC dI ad cy yX10_rack (.code yX10_rack cX10_rack 6 none) rmX10_rack fX10_rack :=
  am_meth_ok (ci := [cqX10_within, cqX10_slotOf]) (by decide +kernel) rfl ⟨rfl, rfl⟩ (am_rows_of (by decide +kernel) (am_words_of [1122, 66, 1121, 1157, 1122, 66, 1121, 1122, 66, 1121, 1158, 1122, 66, 1121, 972, 1159, 1161, 30, 66, 1010, 1010, 972, 973, 974] (by decide +kernel) (by decide +kernel))) (am_cs_cons (calX10_within (by decide) (by decide)) (am_cs_cons (calX10_slotOf (by decide) (by decide)) am_cs_nil)) (am_cv_of (by decide +kernel))
theorem calX10_rack {l : Launch} {dC : Nat → ClassId} {dI ad : Nat → Nat → Nat} {cy : Nat → ClassId} {R : Room} (h1 : rmX10_rack.frames + 1 ≤ R.frames) (h2 : 8 + (6 + 11) + rmX10_rack.locals ≤ R.locals) : am_Cal l dC dI ad cy R 0 0 cqX10_rack fX10_rack :=
  ⟨okX10_rack, am_inU 1156 (by decide +kernel) (by decide +kernel), Nat.le_refl _, Nat.le_refl _, h1, h2, ⟨by decide, by decide, by decide +kernel⟩, ⟨by decide, rfl⟩, Or.inl ⟨_, _, rfl⟩⟩
abbrev rmX10_removeRack : Room := { frames := 1, cells := 0, slots := 0, locals := 22 }
def cqX10_removeRack : am_C := (yX10_removeRack, .code yX10_removeRack cX10_removeRack 3 (some .int), rmX10_removeRack, some 10, 1, 3)
theorem okX10_removeRack {l : Launch} {dC : Nat → ClassId} {dI ad : Nat → Nat → Nat} {cy : Nat → ClassId} : am_Ok l dC dI ad cy yX10_removeRack (.code yX10_removeRack cX10_removeRack 3 (some .int)) rmX10_removeRack fX10_removeRack :=
  am_meth_ok (ci := [cqX10_within]) (by decide +kernel) rfl ⟨rfl, rfl⟩ (am_rows_of (by decide +kernel) (am_words_of [1122, 66, 1121, 972, 1010, 979, 1010, 980, 972, 983, 1010, 1010, 972, 974] (by decide +kernel) (by decide +kernel))) (am_cs_cons (calX10_within (by decide) (by decide)) am_cs_nil) (am_cv_of (by decide +kernel))
theorem calX10_removeRack {l : Launch} {dC : Nat → ClassId} {dI ad : Nat → Nat → Nat} {cy : Nat → ClassId} {R : Room} (h1 : rmX10_removeRack.frames + 1 ≤ R.frames) (h2 : 8 + (3 + 11) + rmX10_removeRack.locals ≤ R.locals) : am_Cal l dC dI ad cy R 0 0 cqX10_removeRack fX10_removeRack :=
  ⟨okX10_removeRack, am_inU 1166 (by decide +kernel) (by decide +kernel), Nat.le_refl _, Nat.le_refl _, h1, h2, ⟨by decide, by decide, by decide +kernel⟩, ⟨by decide, rfl⟩, Or.inl ⟨_, _, rfl⟩⟩
end
section
abbrev rmX10_reserved : Room := { frames := 0, cells := 0, slots := 0, locals := 0 }
def cqX10_reserved : am_C := (yX10_reserved, .code yX10_reserved cX10_reserved 4 (some .int), rmX10_reserved, some 10, 1, 4)
theorem okX10_reserved {l : Launch} {dC : Nat → ClassId} {dI ad : Nat → Nat → Nat} {cy : Nat → ClassId} : am_Ok l dC dI ad cy yX10_reserved (.code yX10_reserved cX10_reserved 4 (some .int)) rmX10_reserved fX10_reserved :=
  am_meth_ok (ci := []) (by decide +kernel) rfl ⟨rfl, rfl⟩ (am_rows_of (by decide +kernel) (am_words_of [1001, 998, 999] (by decide +kernel) (by decide +kernel))) am_cs_nil (am_cv_of (by decide +kernel))
theorem calX10_reserved {l : Launch} {dC : Nat → ClassId} {dI ad : Nat → Nat → Nat} {cy : Nat → ClassId} {R : Room} (h1 : rmX10_reserved.frames + 1 ≤ R.frames) (h2 : 8 + (4 + 11) + rmX10_reserved.locals ≤ R.locals) : am_Cal l dC dI ad cy R 0 0 cqX10_reserved fX10_reserved :=
  ⟨okX10_reserved, am_inU 1174 (by decide +kernel) (by decide +kernel), Nat.le_refl _, Nat.le_refl _, h1, h2, ⟨by decide, by decide, by decide +kernel⟩, ⟨by decide, rfl⟩, Or.inl ⟨_, _, rfl⟩⟩
abbrev rmX10_reagent : Room := { frames := 1, cells := 0, slots := 0, locals := 23 }
def cqX10_reagent : am_C := (yX10_reagent, .code yX10_reagent cX10_reagent 6 none, rmX10_reagent, some 10, 4, 6)
theorem okX10_reagent {l : Launch} {dC : Nat → ClassId} {dI ad : Nat → Nat → Nat} {cy : Nat → ClassId} : am_Ok l dC dI ad cy yX10_reagent (.code yX10_reagent cX10_reagent 6 none) rmX10_reagent fX10_reagent :=
  am_meth_ok (ci := [cqX10_within, cqX10_reserved]) (by decide +kernel) rfl ⟨rfl, rfl⟩ (am_rows_of (by decide +kernel) (am_words_of [1122, 66, 1121, 1122, 66, 1121, 1158, 1122, 66, 1121, 1171, 1173, 31, 66, 1010, 1010, 975, 976, 977] (by decide +kernel) (by decide +kernel))) (am_cs_cons (calX10_within (by decide) (by decide)) (am_cs_cons (calX10_reserved (by decide) (by decide)) am_cs_nil)) (am_cv_of (by decide +kernel))
theorem calX10_reagent {l : Launch} {dC : Nat → ClassId} {dI ad : Nat → Nat → Nat} {cy : Nat → ClassId} {R : Room} (h1 : rmX10_reagent.frames + 1 ≤ R.frames) (h2 : 8 + (6 + 11) + rmX10_reagent.locals ≤ R.locals) : am_Cal l dC dI ad cy R 0 0 cqX10_reagent fX10_reagent :=
  ⟨okX10_reagent, am_inU 1170 (by decide +kernel) (by decide +kernel), Nat.le_refl _, Nat.le_refl _, h1, h2, ⟨by decide, by decide, by decide +kernel⟩, ⟨by decide, rfl⟩, Or.inl ⟨_, _, rfl⟩⟩
abbrev rmX10_forbid : Room := { frames := 1, cells := 0, slots := 0, locals := 22 }
def cqX10_forbid : am_C := (yX10_forbid, .code yX10_forbid cX10_forbid 3 (some .boolean), rmX10_forbid, some 10, 2, 3)
theorem okX10_forbid {l : Launch} {dC : Nat → ClassId} {dI ad : Nat → Nat → Nat} {cy : Nat → ClassId} : am_Ok l dC dI ad cy yX10_forbid (.code yX10_forbid cX10_forbid 3 (some .boolean)) rmX10_forbid fX10_forbid :=
  am_meth_ok (ci := [cqX10_within]) (by decide +kernel) rfl ⟨rfl, rfl⟩ (am_rows_of (by decide +kernel) (am_words_of [1122, 66, 1121, 1122, 66, 1121, 1010, 1010, 978, 978, 978] (by decide +kernel) (by decide +kernel))) (am_cs_cons (calX10_within (by decide) (by decide)) am_cs_nil) (am_cv_of (by decide +kernel))
theorem calX10_forbid {l : Launch} {dC : Nat → ClassId} {dI ad : Nat → Nat → Nat} {cy : Nat → ClassId} {R : Room} (h1 : rmX10_forbid.frames + 1 ≤ R.frames) (h2 : 8 + (3 + 11) + rmX10_forbid.locals ≤ R.locals) : am_Cal l dC dI ad cy R 0 0 cqX10_forbid fX10_forbid :=
  ⟨okX10_forbid, am_inU 1178 (by decide +kernel) (by decide +kernel), Nat.le_refl _, Nat.le_refl _, h1, h2, ⟨by decide, by decide, by decide +kernel⟩, ⟨by decide, rfl⟩, Or.inl ⟨_, _, rfl⟩⟩
abbrev rmX10_order : Room := { frames := 2, cells := 0, slots := 0, locals := 42 }
def cqX10_order : am_C := (yX10_order, .code yX10_order cX10_order 4 (some .int), rmX10_order, some 10, 3, 4)
theorem okX10_order {l : Launch} {dC : Nat → ClassId} {dI ad : Nat → Nat → Nat} {cy : Nat → ClassId} : am_Ok l dC dI ad cy yX10_order (.code yX10_order cX10_order 4 (some .int)) rmX10_order fX10_order :=
  am_meth_ok (ci := [cqX10_within, cqX10_isTest]) (by decide +kernel) rfl ⟨rfl, rfl⟩ (am_rows_of (by decide +kernel) (am_words_of [1157, 1122, 66, 1121, 1119, 66, 1118, 966, 979, 1010, 1010, 980, 979, 981, 979, 982, 979, 986, 979, 979, 979, 979] (by decide +kernel) (by decide +kernel))) (am_cs_cons (calX10_within (by decide) (by decide)) (am_cs_cons (calX10_isTest (by decide) (by decide)) am_cs_nil)) (am_cv_of (by decide +kernel))
theorem calX10_order {l : Launch} {dC : Nat → ClassId} {dI ad : Nat → Nat → Nat} {cy : Nat → ClassId} {R : Room} (h1 : rmX10_order.frames + 1 ≤ R.frames) (h2 : 8 + (4 + 11) + rmX10_order.locals ≤ R.locals) : am_Cal l dC dI ad cy R 0 0 cqX10_order fX10_order :=
  ⟨okX10_order, am_inU 1182 (by decide +kernel) (by decide +kernel), Nat.le_refl _, Nat.le_refl _, h1, h2, ⟨by decide, by decide, by decide +kernel⟩, ⟨by decide, rfl⟩, Or.inl ⟨_, _, rfl⟩⟩
abbrev rmX10_clock : Room := { frames := 0, cells := 0, slots := 0, locals := 0 }
def cqX10_clock : am_C := (yX10_clock, .code yX10_clock cX10_clock 2 none, rmX10_clock, some 10, 1, 2)
theorem okX10_clock {l : Launch} {dC : Nat → ClassId} {dI ad : Nat → Nat → Nat} {cy : Nat → ClassId} : am_Ok l dC dI ad cy yX10_clock (.code yX10_clock cX10_clock 2 none) rmX10_clock fX10_clock :=
  am_meth_ok (ci := []) (by decide +kernel) rfl ⟨rfl, rfl⟩ (am_rows_of (by decide +kernel) (am_words_of [1006, 1010, 1010, 1006] (by decide +kernel) (by decide +kernel))) am_cs_nil (am_cv_of (by decide +kernel))
theorem calX10_clock {l : Launch} {dC : Nat → ClassId} {dI ad : Nat → Nat → Nat} {cy : Nat → ClassId} {R : Room} (h1 : rmX10_clock.frames + 1 ≤ R.frames) (h2 : 8 + (2 + 11) + rmX10_clock.locals ≤ R.locals) : am_Cal l dC dI ad cy R 0 0 cqX10_clock fX10_clock :=
  ⟨okX10_clock, am_inU 1186 (by decide +kernel) (by decide +kernel), Nat.le_refl _, Nat.le_refl _, h1, h2, ⟨by decide, by decide, by decide +kernel⟩, ⟨by decide, rfl⟩, Or.inl ⟨_, _, rfl⟩⟩
abbrev rmX10_light : Room := { frames := 1, cells := 0, slots := 0, locals := 22 }
def cqX10_light : am_C := (yX10_light, .code yX10_light cX10_light 2 none, rmX10_light, some 10, 1, 2)
theorem okX10_light {l : Launch} {dC : Nat → ClassId} {dI ad : Nat → Nat → Nat} {cy : Nat → ClassId} : am_Ok l dC dI ad cy yX10_light (.code yX10_light cX10_light 2 none) rmX10_light fX10_light :=
  am_meth_ok (ci := [cqX10_within]) (by decide +kernel) rfl ⟨rfl, rfl⟩ (am_rows_of (by decide +kernel) (am_words_of [964, 1122, 66, 1121, 1010, 1010, 1009] (by decide +kernel) (by decide +kernel))) (am_cs_cons (calX10_within (by decide) (by decide)) am_cs_nil) (am_cv_of (by decide +kernel))
theorem calX10_light {l : Launch} {dC : Nat → ClassId} {dI ad : Nat → Nat → Nat} {cy : Nat → ClassId} {R : Room} (h1 : rmX10_light.frames + 1 ≤ R.frames) (h2 : 8 + (2 + 11) + rmX10_light.locals ≤ R.locals) : am_Cal l dC dI ad cy R 0 0 cqX10_light fX10_light :=
  ⟨okX10_light, am_inU 1190 (by decide +kernel) (by decide +kernel), Nat.le_refl _, Nat.le_refl _, h1, h2, ⟨by decide, by decide, by decide +kernel⟩, ⟨by decide, rfl⟩, Or.inl ⟨_, _, rfl⟩⟩
abbrev rmX10_spoil : Room := { frames := 1, cells := 0, slots := 0, locals := 22 }
def cqX10_spoil : am_C := (yX10_spoil, .code yX10_spoil cX10_spoil 2 none, rmX10_spoil, some 10, 1, 2)
theorem okX10_spoil {l : Launch} {dC : Nat → ClassId} {dI ad : Nat → Nat → Nat} {cy : Nat → ClassId} : am_Ok l dC dI ad cy yX10_spoil (.code yX10_spoil cX10_spoil 2 none) rmX10_spoil fX10_spoil :=
  am_meth_ok (ci := [cqX10_within]) (by decide +kernel) rfl ⟨rfl, rfl⟩ (am_rows_of (by decide +kernel) (am_words_of [1122, 66, 1121, 1010, 1011, 1012] (by decide +kernel) (by decide +kernel))) (am_cs_cons (calX10_within (by decide) (by decide)) am_cs_nil) (am_cv_of (by decide +kernel))
theorem calX10_spoil {l : Launch} {dC : Nat → ClassId} {dI ad : Nat → Nat → Nat} {cy : Nat → ClassId} {R : Room} (h1 : rmX10_spoil.frames + 1 ≤ R.frames) (h2 : 8 + (2 + 11) + rmX10_spoil.locals ≤ R.locals) : am_Cal l dC dI ad cy R 0 0 cqX10_spoil fX10_spoil :=
  ⟨okX10_spoil, am_inU 1194 (by decide +kernel) (by decide +kernel), Nat.le_refl _, Nat.le_refl _, h1, h2, ⟨by decide, by decide, by decide +kernel⟩, ⟨by decide, rfl⟩, Or.inl ⟨_, _, rfl⟩⟩
abbrev rmX10_copyBook : Room := { frames := 0, cells := 0, slots := 0, locals := 0 }
def cqX10_copyBook : am_C := (yX10_copyBook, .code yX10_copyBook cX10_copyBook 3 none, rmX10_copyBook, some 10, 2, 3)
theorem okX10_copyBook {l : Launch} {dC : Nat → ClassId} {dI ad : Nat → Nat → Nat} {cy : Nat → ClassId} : am_Ok l dC dI ad cy yX10_copyBook (.code yX10_copyBook cX10_copyBook 3 none) rmX10_copyBook fX10_copyBook :=
  am_meth_ok (ci := []) (by decide +kernel) rfl ⟨rfl, rfl⟩ (am_rows_of (by decide +kernel) (am_words_of [996, 996, 997, 997, 998, 998, 999, 999, 1000, 1000] (by decide +kernel) (by decide +kernel))) am_cs_nil (am_cv_of (by decide +kernel))
theorem calX10_copyBook {l : Launch} {dC : Nat → ClassId} {dI ad : Nat → Nat → Nat} {cy : Nat → ClassId} {R : Room} (h1 : rmX10_copyBook.frames + 1 ≤ R.frames) (h2 : 8 + (3 + 11) + rmX10_copyBook.locals ≤ R.locals) : am_Cal l dC dI ad cy R 0 0 cqX10_copyBook fX10_copyBook :=
  ⟨okX10_copyBook, am_inU 1222 (by decide +kernel) (by decide +kernel), Nat.le_refl _, Nat.le_refl _, h1, h2, ⟨by decide, by decide, by decide +kernel⟩, ⟨by decide, rfl⟩, Or.inl ⟨_, _, rfl⟩⟩
abbrev rmX10_cancel : Room := { frames := 1, cells := 0, slots := 0, locals := 22 }
def cqX10_cancel : am_C := (yX10_cancel, .code yX10_cancel cX10_cancel 4 none, rmX10_cancel, some 10, 1, 4)
theorem okX10_cancel {l : Launch} {dC : Nat → ClassId} {dI ad : Nat → Nat → Nat} {cy : Nat → ClassId} : am_Ok l dC dI ad cy yX10_cancel (.code yX10_cancel cX10_cancel 4 none) rmX10_cancel fX10_cancel :=
  am_meth_ok (ci := [cqX10_copyBook]) (by decide +kernel) rfl ⟨rfl, rfl⟩ (am_rows_of (by decide +kernel) (am_words_of [1001, 1000, 1219, 1221, 37, 66, 1001] (by decide +kernel) (by decide +kernel))) (am_cs_cons (calX10_copyBook (by decide) (by decide)) am_cs_nil) (am_cv_of (by decide +kernel))
theorem calX10_cancel {l : Launch} {dC : Nat → ClassId} {dI ad : Nat → Nat → Nat} {cy : Nat → ClassId} {R : Room} (h1 : rmX10_cancel.frames + 1 ≤ R.frames) (h2 : 8 + (4 + 11) + rmX10_cancel.locals ≤ R.locals) : am_Cal l dC dI ad cy R 0 0 cqX10_cancel fX10_cancel :=
  ⟨okX10_cancel, am_inU 1218 (by decide +kernel) (by decide +kernel), Nat.le_refl _, Nat.le_refl _, h1, h2, ⟨by decide, by decide, by decide +kernel⟩, ⟨by decide, rfl⟩, Or.inl ⟨_, _, rfl⟩⟩
abbrev rmX10_nextUse : Room := { frames := 0, cells := 0, slots := 0, locals := 0 }
def cqX10_nextUse : am_C := (yX10_nextUse, .code yX10_nextUse cX10_nextUse 4 (some .int), rmX10_nextUse, some 10, 1, 4)
theorem okX10_nextUse {l : Launch} {dC : Nat → ClassId} {dI ad : Nat → Nat → Nat} {cy : Nat → ClassId} : am_Ok l dC dI ad cy yX10_nextUse (.code yX10_nextUse cX10_nextUse 4 (some .int)) rmX10_nextUse fX10_nextUse :=
  am_meth_ok (ci := []) (by decide +kernel) rfl ⟨rfl, rfl⟩ (am_rows_of (by decide +kernel) (am_words_of [1001, 996, 996, 996] (by decide +kernel) (by decide +kernel))) am_cs_nil (am_cv_of (by decide +kernel))
theorem calX10_nextUse {l : Launch} {dC : Nat → ClassId} {dI ad : Nat → Nat → Nat} {cy : Nat → ClassId} {R : Room} (h1 : rmX10_nextUse.frames + 1 ≤ R.frames) (h2 : 8 + (4 + 11) + rmX10_nextUse.locals ≤ R.locals) : am_Cal l dC dI ad cy R 0 0 cqX10_nextUse fX10_nextUse :=
  ⟨okX10_nextUse, am_inU 1300 (by decide +kernel) (by decide +kernel), Nat.le_refl _, Nat.le_refl _, h1, h2, ⟨by decide, by decide, by decide +kernel⟩, ⟨by decide, rfl⟩, Or.inl ⟨_, _, rfl⟩⟩
abbrev rmX10_follows : Room := { frames := 1, cells := 0, slots := 0, locals := 23 }
def cqX10_follows : am_C := (yX10_follows, .code yX10_follows cX10_follows 4 (some .boolean), rmX10_follows, some 10, 2, 4)
theorem okX10_follows {l : Launch} {dC : Nat → ClassId} {dI ad : Nat → Nat → Nat} {cy : Nat → ClassId} : am_Ok l dC dI ad cy yX10_follows (.code yX10_follows cX10_follows 4 (some .boolean)) rmX10_follows fX10_follows :=
  am_meth_ok (ci := [cqX10_nextUse]) (by decide +kernel) rfl ⟨rfl, rfl⟩ (am_rows_of (by decide +kernel) (am_words_of [1297, 1299, 52, 66, 978, 997, 996] (by decide +kernel) (by decide +kernel))) (am_cs_cons (calX10_nextUse (by decide) (by decide)) am_cs_nil) (am_cv_of (by decide +kernel))
theorem calX10_follows {l : Launch} {dC : Nat → ClassId} {dI ad : Nat → Nat → Nat} {cy : Nat → ClassId} {R : Room} (h1 : rmX10_follows.frames + 1 ≤ R.frames) (h2 : 8 + (4 + 11) + rmX10_follows.locals ≤ R.locals) : am_Cal l dC dI ad cy R 0 0 cqX10_follows fX10_follows :=
  ⟨okX10_follows, am_inU 1296 (by decide +kernel) (by decide +kernel), Nat.le_refl _, Nat.le_refl _, h1, h2, ⟨by decide, by decide, by decide +kernel⟩, ⟨by decide, rfl⟩, Or.inl ⟨_, _, rfl⟩⟩
abbrev rmX10_allowed : Room := { frames := 2, cells := 0, slots := 0, locals := 46 }
def cqX10_allowed : am_C := (yX10_allowed, .code yX10_allowed cX10_allowed 3 (some .boolean), rmX10_allowed, some 10, 0, 3)
theorem okX10_allowed {l : Launch} {dC : Nat → ClassId} {dI ad : Nat → Nat → Nat} {cy : Nat → ClassId} : am_Ok l dC dI ad cy yX10_allowed (.code yX10_allowed cX10_allowed 3 (some .boolean)) rmX10_allowed fX10_allowed :=
  am_meth_ok (ci := [cqX10_follows]) (by decide +kernel) rfl ⟨rfl, rfl⟩ (am_rows_of (by decide +kernel) (am_words_of [1003, 1003, 1002, 1293, 1295, 51, 66, 1001, 996, 996, 997, 996, 1293, 1295, 51, 66] (by decide +kernel) (by decide +kernel))) (am_cs_cons (calX10_follows (by decide) (by decide)) am_cs_nil) (am_cv_of (by decide +kernel))
theorem calX10_allowed {l : Launch} {dC : Nat → ClassId} {dI ad : Nat → Nat → Nat} {cy : Nat → ClassId} {R : Room} (h1 : rmX10_allowed.frames + 1 ≤ R.frames) (h2 : 8 + (3 + 11) + rmX10_allowed.locals ≤ R.locals) : am_Cal l dC dI ad cy R 0 0 cqX10_allowed fX10_allowed :=
  ⟨okX10_allowed, am_inU 1292 (by decide +kernel) (by decide +kernel), Nat.le_refl _, Nat.le_refl _, h1, h2, ⟨by decide, by decide, by decide +kernel⟩, ⟨by decide, rfl⟩, Or.inl ⟨_, _, rfl⟩⟩
abbrev rmX10_placeFor : Room := { frames := 1, cells := 0, slots := 0, locals := 23 }
def cqX10_placeFor : am_C := (yX10_placeFor, .code yX10_placeFor cX10_placeFor 6 (some .int), rmX10_placeFor, some 10, 2, 6)
theorem okX10_placeFor {l : Launch} {dC : Nat → ClassId} {dI ad : Nat → Nat → Nat} {cy : Nat → ClassId} : am_Ok l dC dI ad cy yX10_placeFor (.code yX10_placeFor cX10_placeFor 6 (some .int)) rmX10_placeFor fX10_placeFor :=
  am_meth_ok (ci := [cqX10_reserved]) (by decide +kernel) rfl ⟨rfl, rfl⟩ (am_rows_of (by decide +kernel) (am_words_of [975, 1006, 977, 976, 1171, 1173, 31, 66, 977, 977] (by decide +kernel) (by decide +kernel))) (am_cs_cons (calX10_reserved (by decide) (by decide)) am_cs_nil) (am_cv_of (by decide +kernel))
theorem calX10_placeFor {l : Launch} {dC : Nat → ClassId} {dI ad : Nat → Nat → Nat} {cy : Nat → ClassId} {R : Room} (h1 : rmX10_placeFor.frames + 1 ≤ R.frames) (h2 : 8 + (6 + 11) + rmX10_placeFor.locals ≤ R.locals) : am_Cal l dC dI ad cy R 0 0 cqX10_placeFor fX10_placeFor :=
  ⟨okX10_placeFor, am_inU 1284 (by decide +kernel) (by decide +kernel), Nat.le_refl _, Nat.le_refl _, h1, h2, ⟨by decide, by decide, by decide +kernel⟩, ⟨by decide, rfl⟩, Or.inl ⟨_, _, rfl⟩⟩
abbrev rmX10_book : Room := { frames := 2, cells := 0, slots := 0, locals := 48 }
def cqX10_book : am_C := (yX10_book, .code yX10_book cX10_book 6 (some .boolean), rmX10_book, some 10, 1, 6)
theorem okX10_book {l : Launch} {dC : Nat → ClassId} {dI ad : Nat → Nat → Nat} {cy : Nat → ClassId} : am_Ok l dC dI ad cy yX10_book (.code yX10_book cX10_book 6 (some .boolean)) rmX10_book fX10_book :=
  am_meth_ok (ci := [cqX10_of, cqX10_placeFor]) (by decide +kernel) rfl ⟨rfl, rfl⟩ (am_rows_of (by decide +kernel) (am_words_of [981, 1141, 1143, 27, 66, 1141, 1143, 27, 66, 1281, 1283, 48, 66, 996, 1001, 1007, 1141, 1143, 27, 66, 997, 1001, 998, 1001, 999, 1001, 1141, 1143, 27, 66, 1000, 1001, 1001, 1001] (by decide +kernel) (by decide +kernel))) (am_cs_cons (calX10_of (by decide) (by decide)) (am_cs_cons (calX10_placeFor (by decide) (by decide)) am_cs_nil)) (am_cv_of (by decide +kernel))
theorem calX10_book {l : Launch} {dC : Nat → ClassId} {dI ad : Nat → Nat → Nat} {cy : Nat → ClassId} {R : Room} (h1 : rmX10_book.frames + 1 ≤ R.frames) (h2 : 8 + (6 + 11) + rmX10_book.locals ≤ R.locals) : am_Cal l dC dI ad cy R 0 0 cqX10_book fX10_book :=
  ⟨okX10_book, am_inU 1280 (by decide +kernel) (by decide +kernel), Nat.le_refl _, Nat.le_refl _, h1, h2, ⟨by decide, by decide, by decide +kernel⟩, ⟨by decide, rfl⟩, Or.inl ⟨_, _, rfl⟩⟩
abbrev rmX10_fail : Room := { frames := 0, cells := 0, slots := 0, locals := 0 }
def cqX10_fail : am_C := (yX10_fail, .code yX10_fail cX10_fail 3 none, rmX10_fail, some 10, 2, 3)
theorem okX10_fail {l : Launch} {dC : Nat → ClassId} {dI ad : Nat → Nat → Nat} {cy : Nat → ClassId} : am_Ok l dC dI ad cy yX10_fail (.code yX10_fail cX10_fail 3 none) rmX10_fail fX10_fail :=
  am_meth_ok (ci := []) (by decide +kernel) rfl ⟨rfl, rfl⟩ (am_rows_of (by decide +kernel) (am_words_of [983, 984] (by decide +kernel) (by decide +kernel))) am_cs_nil (am_cv_of (by decide +kernel))
theorem calX10_fail {l : Launch} {dC : Nat → ClassId} {dI ad : Nat → Nat → Nat} {cy : Nat → ClassId} {R : Room} (h1 : rmX10_fail.frames + 1 ≤ R.frames) (h2 : 8 + (3 + 11) + rmX10_fail.locals ≤ R.locals) : am_Cal l dC dI ad cy R 0 0 cqX10_fail fX10_fail :=
  ⟨okX10_fail, am_inU 1226 (by decide +kernel) (by decide +kernel), Nat.le_refl _, Nat.le_refl _, h1, h2, ⟨by decide, by decide, by decide +kernel⟩, ⟨by decide, rfl⟩, Or.inl ⟨_, _, rfl⟩⟩
abbrev rmX10_leave : Room := { frames := 2, cells := 0, slots := 0, locals := 45 }
def cqX10_leave : am_C := (yX10_leave, .code yX10_leave cX10_leave 2 none, rmX10_leave, some 10, 1, 2)
theorem okX10_leave {l : Launch} {dC : Nat → ClassId} {dI ad : Nat → Nat → Nat} {cy : Nat → ClassId} : am_Ok l dC dI ad cy yX10_leave (.code yX10_leave cX10_leave 2 none) rmX10_leave fX10_leave :=
  am_meth_ok (ci := [cqX10_cancel]) (by decide +kernel) rfl ⟨rfl, rfl⟩ (am_rows_of (by decide +kernel) (am_words_of [994, 986, 995, 986, 986, 1215, 1217, 36, 66] (by decide +kernel) (by decide +kernel))) (am_cs_cons (calX10_cancel (by decide) (by decide)) am_cs_nil) (am_cv_of (by decide +kernel))
theorem calX10_leave {l : Launch} {dC : Nat → ClassId} {dI ad : Nat → Nat → Nat} {cy : Nat → ClassId} {R : Room} (h1 : rmX10_leave.frames + 1 ≤ R.frames) (h2 : 8 + (2 + 11) + rmX10_leave.locals ≤ R.locals) : am_Cal l dC dI ad cy R 0 0 cqX10_leave fX10_leave :=
  ⟨okX10_leave, am_inU 1214 (by decide +kernel) (by decide +kernel), Nat.le_refl _, Nat.le_refl _, h1, h2, ⟨by decide, by decide, by decide +kernel⟩, ⟨by decide, rfl⟩, Or.inl ⟨_, _, rfl⟩⟩
abbrev rmX10_breaksOff : Room := { frames := 3, cells := 0, slots := 0, locals := 66 }
def cqX10_breaksOff : am_C := (yX10_breaksOff, .code yX10_breaksOff cX10_breaksOff 3 none, rmX10_breaksOff, some 10, 2, 3)
theorem okX10_breaksOff {l : Launch} {dC : Nat → ClassId} {dI ad : Nat → Nat → Nat} {cy : Nat → ClassId} : am_Ok l dC dI ad cy yX10_breaksOff (.code yX10_breaksOff cX10_breaksOff 3 none) rmX10_breaksOff fX10_breaksOff :=
  am_meth_ok (ci := [cqX10_leave, cqX10_fail]) (by decide +kernel) rfl ⟨rfl, rfl⟩ (am_rows_of (by decide +kernel) (am_words_of [1211, 1213, 35, 66, 985, 983, 1223, 1225, 38, 66] (by decide +kernel) (by decide +kernel))) (am_cs_cons (calX10_leave (by decide) (by decide)) (am_cs_cons (calX10_fail (by decide) (by decide)) am_cs_nil)) (am_cv_of (by decide +kernel))
theorem calX10_breaksOff {l : Launch} {dC : Nat → ClassId} {dI ad : Nat → Nat → Nat} {cy : Nat → ClassId} {R : Room} (h1 : rmX10_breaksOff.frames + 1 ≤ R.frames) (h2 : 8 + (3 + 11) + rmX10_breaksOff.locals ≤ R.locals) : am_Cal l dC dI ad cy R 0 0 cqX10_breaksOff fX10_breaksOff :=
  ⟨okX10_breaksOff, am_inU 1210 (by decide +kernel) (by decide +kernel), Nat.le_refl _, Nat.le_refl _, h1, h2, ⟨by decide, by decide, by decide +kernel⟩, ⟨by decide, rfl⟩, Or.inl ⟨_, _, rfl⟩⟩
abbrev rmX10_give : Room := { frames := 4, cells := 0, slots := 0, locals := 88 }
def cqX10_give : am_C := (yX10_give, .code yX10_give cX10_give 3 none, rmX10_give, some 10, 0, 3)
theorem okX10_give {l : Launch} {dC : Nat → ClassId} {dI ad : Nat → Nat → Nat} {cy : Nat → ClassId} : am_Ok l dC dI ad cy yX10_give (.code yX10_give cX10_give 3 none) rmX10_give fX10_give :=
  am_meth_ok (ci := [cqX10_breaksOff, cqX10_copyBook]) (by decide +kernel) rfl ⟨rfl, rfl⟩ (am_rows_of (by decide +kernel) (am_words_of [1001, 996, 1007, 1000, 1007, 1002, 997, 1003, 1012, 1012, 1207, 1209, 34, 66, 976, 998, 999, 995, 986, 999, 1001, 1001, 1001, 1219, 1221, 37, 66] (by decide +kernel) (by decide +kernel))) (am_cs_cons (calX10_breaksOff (by decide) (by decide)) (am_cs_cons (calX10_copyBook (by decide) (by decide)) am_cs_nil)) (am_cv_of (by decide +kernel))
theorem calX10_give {l : Launch} {dC : Nat → ClassId} {dI ad : Nat → Nat → Nat} {cy : Nat → ClassId} {R : Room} (h1 : rmX10_give.frames + 1 ≤ R.frames) (h2 : 8 + (3 + 11) + rmX10_give.locals ≤ R.locals) : am_Cal l dC dI ad cy R 0 0 cqX10_give fX10_give :=
  ⟨okX10_give, am_inU 1206 (by decide +kernel) (by decide +kernel), Nat.le_refl _, Nat.le_refl _, h1, h2, ⟨by decide, by decide, by decide +kernel⟩, ⟨by decide, rfl⟩, Or.inl ⟨_, _, rfl⟩⟩
abbrev rmX10_absorbance : Room := { frames := 0, cells := 0, slots := 0, locals := 0 }
def cqX10_absorbance : am_C := (yX10_absorbance, .code yX10_absorbance cX10_absorbance 6 (some .int), rmX10_absorbance, none, 1, 6)
theorem okX10_absorbance {l : Launch} {dC : Nat → ClassId} {dI ad : Nat → Nat → Nat} {cy : Nat → ClassId} : am_Ok l dC dI ad cy yX10_absorbance (.code yX10_absorbance cX10_absorbance 6 (some .int)) rmX10_absorbance fX10_absorbance :=
  am_meth_ok (ci := []) (by decide +kernel) rfl ⟨rfl, rfl⟩ (am_rows_of (by decide +kernel) (am_words_of [1234, 1235, 1236] (by decide +kernel) (by decide +kernel))) am_cs_nil (am_cv_of (by decide +kernel))
theorem calX10_absorbance {l : Launch} {dC : Nat → ClassId} {dI ad : Nat → Nat → Nat} {cy : Nat → ClassId} {R : Room} (h1 : rmX10_absorbance.frames + 1 ≤ R.frames) (h2 : 8 + (6 + 11) + rmX10_absorbance.locals ≤ R.locals) : am_Cal l dC dI ad cy R 0 0 cqX10_absorbance fX10_absorbance :=
  ⟨okX10_absorbance, am_inU 1233 (by decide +kernel) (by decide +kernel), Nat.le_refl _, Nat.le_refl _, h1, h2, ⟨by decide, by decide, by decide +kernel⟩, trivial, Or.inl ⟨_, _, rfl⟩⟩
abbrev rmX10_floor : Room := { frames := 0, cells := 0, slots := 0, locals := 0 }
def cqX10_floor : am_C := (yX10_floor, .code yX10_floor cX10_floor 6 (some .long), rmX10_floor, none, 2, 6)
theorem okX10_floor {l : Launch} {dC : Nat → ClassId} {dI ad : Nat → Nat → Nat} {cy : Nat → ClassId} : am_Ok l dC dI ad cy yX10_floor (.code yX10_floor cX10_floor 6 (some .long)) rmX10_floor fX10_floor :=
  am_meth_ok (ci := []) (by decide +kernel) rfl ⟨rfl, rfl⟩ (am_rows_of (by decide +kernel) (am_words_of [] (by decide +kernel) (by decide +kernel))) am_cs_nil (am_cv_of (by decide +kernel))
theorem calX10_floor {l : Launch} {dC : Nat → ClassId} {dI ad : Nat → Nat → Nat} {cy : Nat → ClassId} {R : Room} (h1 : rmX10_floor.frames + 1 ≤ R.frames) (h2 : 8 + (6 + 11) + rmX10_floor.locals ≤ R.locals) : am_Cal l dC dI ad cy R 0 0 cqX10_floor fX10_floor :=
  ⟨okX10_floor, am_inU 1251 (by decide +kernel) (by decide +kernel), Nat.le_refl _, Nat.le_refl _, h1, h2, ⟨by decide, by decide, by decide +kernel⟩, trivial, Or.inl ⟨_, _, rfl⟩⟩
abbrev rmX10_rounded : Room := { frames := 1, cells := 0, slots := 0, locals := 25 }
def cqX10_rounded : am_C := (yX10_rounded, .code yX10_rounded cX10_rounded 4 (some .long), rmX10_rounded, none, 2, 4)
theorem okX10_rounded {l : Launch} {dC : Nat → ClassId} {dI ad : Nat → Nat → Nat} {cy : Nat → ClassId} : am_Ok l dC dI ad cy yX10_rounded (.code yX10_rounded cX10_rounded 4 (some .long)) rmX10_rounded fX10_rounded :=
  am_meth_ok (ci := [cqX10_floor]) (by decide +kernel) rfl ⟨rfl, rfl⟩ (am_rows_of (by decide +kernel) (am_words_of [1236, 1236, 1250, 66, 1249, 1252, 1252, 1250, 66, 1249] (by decide +kernel) (by decide +kernel))) (am_cs_cons (calX10_floor (by decide) (by decide)) am_cs_nil) (am_cv_of (by decide +kernel))
theorem calX10_rounded {l : Launch} {dC : Nat → ClassId} {dI ad : Nat → Nat → Nat} {cy : Nat → ClassId} {R : Room} (h1 : rmX10_rounded.frames + 1 ≤ R.frames) (h2 : 8 + (4 + 11) + rmX10_rounded.locals ≤ R.locals) : am_Cal l dC dI ad cy R 0 0 cqX10_rounded fX10_rounded :=
  ⟨okX10_rounded, am_inU 1248 (by decide +kernel) (by decide +kernel), Nat.le_refl _, Nat.le_refl _, h1, h2, ⟨by decide, by decide, by decide +kernel⟩, trivial, Or.inl ⟨_, _, rfl⟩⟩
abbrev rmX10_resultOf : Room := { frames := 2, cells := 0, slots := 0, locals := 48 }
def cqX10_resultOf : am_C := (yX10_resultOf, .code yX10_resultOf cX10_resultOf 13 (some .long), rmX10_resultOf, some 10, 1, 13)
theorem okX10_resultOf {l : Launch} {dC : Nat → ClassId} {dI ad : Nat → Nat → Nat} {cy : Nat → ClassId} : am_Ok l dC dI ad cy yX10_resultOf (.code yX10_resultOf cX10_resultOf 13 (some .long)) rmX10_resultOf fX10_resultOf :=
  am_meth_ok (ci := [cqX10_of, cqX10_rounded]) (by decide +kernel) rfl ⟨rfl, rfl⟩ (am_rows_of (by decide +kernel) (am_words_of [991, 981, 1141, 1143, 27, 66, 990, 990, 990, 990, 990, 1245, 1247, 66, 1246] (by decide +kernel) (by decide +kernel))) (am_cs_cons (calX10_of (by decide) (by decide)) (am_cs_cons (calX10_rounded (by decide) (by decide)) am_cs_nil)) (am_cv_of (by decide +kernel))
theorem calX10_resultOf {l : Launch} {dC : Nat → ClassId} {dI ad : Nat → Nat → Nat} {cy : Nat → ClassId} {R : Room} (h1 : rmX10_resultOf.frames + 1 ≤ R.frames) (h2 : 8 + (13 + 11) + rmX10_resultOf.locals ≤ R.locals) : am_Cal l dC dI ad cy R 0 0 cqX10_resultOf fX10_resultOf :=
  ⟨okX10_resultOf, am_inU 1244 (by decide +kernel) (by decide +kernel), Nat.le_refl _, Nat.le_refl _, h1, h2, ⟨by decide, by decide, by decide +kernel⟩, ⟨by decide, rfl⟩, Or.inl ⟨_, _, rfl⟩⟩
abbrev rmX10_byCurve : Room := { frames := 2, cells := 0, slots := 0, locals := 48 }
def cqX10_byCurve : am_C := (yX10_byCurve, .code yX10_byCurve cX10_byCurve 9 (some .long), rmX10_byCurve, some 10, 2, 9)
theorem okX10_byCurve {l : Launch} {dC : Nat → ClassId} {dI ad : Nat → Nat → Nat} {cy : Nat → ClassId} : am_Ok l dC dI ad cy yX10_byCurve (.code yX10_byCurve cX10_byCurve 9 (some .long)) rmX10_byCurve fX10_byCurve :=
  am_meth_ok (ci := [cqX10_rounded]) (by decide +kernel) rfl ⟨rfl, rfl⟩ (am_rows_of (by decide +kernel) (am_words_of [969, 967, 967, 967, 968, 968, 968, 967, 1247, 66, 1246] (by decide +kernel) (by decide +kernel))) (am_cs_cons (calX10_rounded (by decide) (by decide)) am_cs_nil) (am_cv_of (by decide +kernel))
theorem calX10_byCurve {l : Launch} {dC : Nat → ClassId} {dI ad : Nat → Nat → Nat} {cy : Nat → ClassId} {R : Room} (h1 : rmX10_byCurve.frames + 1 ≤ R.frames) (h2 : 8 + (9 + 11) + rmX10_byCurve.locals ≤ R.locals) : am_Cal l dC dI ad cy R 0 0 cqX10_byCurve fX10_byCurve :=
  ⟨okX10_byCurve, am_inU 1256 (by decide +kernel) (by decide +kernel), Nat.le_refl _, Nat.le_refl _, h1, h2, ⟨by decide, by decide, by decide +kernel⟩, ⟨by decide, rfl⟩, Or.inl ⟨_, _, rfl⟩⟩
abbrev rmX10_release : Room := { frames := 0, cells := 0, slots := 0, locals := 0 }
def cqX10_release : am_C := (yX10_release, .code yX10_release cX10_release 4 none, rmX10_release, some 10, 3, 4)
theorem okX10_release {l : Launch} {dC : Nat → ClassId} {dI ad : Nat → Nat → Nat} {cy : Nat → ClassId} : am_Ok l dC dI ad cy yX10_release (.code yX10_release cX10_release 4 none) rmX10_release fX10_release :=
  am_meth_ok (ci := []) (by decide +kernel) rfl ⟨rfl, rfl⟩ (am_rows_of (by decide +kernel) (am_words_of [983, 992, 993, 1004, 1005, 1005, 1005] (by decide +kernel) (by decide +kernel))) am_cs_nil (am_cv_of (by decide +kernel))
theorem calX10_release {l : Launch} {dC : Nat → ClassId} {dI ad : Nat → Nat → Nat} {cy : Nat → ClassId} {R : Room} (h1 : rmX10_release.frames + 1 ≤ R.frames) (h2 : 8 + (4 + 11) + rmX10_release.locals ≤ R.locals) : am_Cal l dC dI ad cy R 0 0 cqX10_release fX10_release :=
  ⟨okX10_release, am_inU 1268 (by decide +kernel) (by decide +kernel), Nat.le_refl _, Nat.le_refl _, h1, h2, ⟨by decide, by decide, by decide +kernel⟩, ⟨by decide, rfl⟩, Or.inl ⟨_, _, rfl⟩⟩
abbrev rmX10_remember : Room := { frames := 0, cells := 0, slots := 0, locals := 0 }
def cqX10_remember : am_C := (yX10_remember, .code yX10_remember cX10_remember 4 none, rmX10_remember, some 10, 2, 4)
theorem okX10_remember {l : Launch} {dC : Nat → ClassId} {dI ad : Nat → Nat → Nat} {cy : Nat → ClassId} : am_Ok l dC dI ad cy yX10_remember (.code yX10_remember cX10_remember 4 none) rmX10_remember fX10_remember :=
  am_meth_ok (ci := []) (by decide +kernel) rfl ⟨rfl, rfl⟩ (am_rows_of (by decide +kernel) (am_words_of [971, 970, 970, 971, 970, 971, 971] (by decide +kernel) (by decide +kernel))) am_cs_nil (am_cv_of (by decide +kernel))
theorem calX10_remember {l : Launch} {dC : Nat → ClassId} {dI ad : Nat → Nat → Nat} {cy : Nat → ClassId} {R : Room} (h1 : rmX10_remember.frames + 1 ≤ R.frames) (h2 : 8 + (4 + 11) + rmX10_remember.locals ≤ R.locals) : am_Cal l dC dI ad cy R 0 0 cqX10_remember fX10_remember :=
  ⟨okX10_remember, am_inU 1264 (by decide +kernel) (by decide +kernel), Nat.le_refl _, Nat.le_refl _, h1, h2, ⟨by decide, by decide, by decide +kernel⟩, ⟨by decide, rfl⟩, Or.inl ⟨_, _, rfl⟩⟩
abbrev rmX10_judge : Room := { frames := 3, cells := 0, slots := 0, locals := 80 }
def cqX10_judge : am_C := (yX10_judge, .code yX10_judge cX10_judge 7 none, rmX10_judge, some 10, 1, 7)
theorem okX10_judge {l : Launch} {dC : Nat → ClassId} {dI ad : Nat → Nat → Nat} {cy : Nat → ClassId} : am_Ok l dC dI ad cy yX10_judge (.code yX10_judge cX10_judge 7 none) rmX10_judge fX10_judge :=
  am_meth_ok (ci := [cqX10_resultOf, cqX10_byCurve, cqX10_of, cqX10_leave, cqX10_remember, cqX10_release]) (by decide +kernel) rfl ⟨rfl, rfl⟩ (am_rows_of (by decide +kernel) (am_words_of [981, 1241, 1243, 41, 66, 1253, 1255, 42, 66, 988, 1141, 1143, 27, 66, 1257, 1258, 1259, 1260, 1141, 1143, 27, 66, 1141, 1143, 27, 66, 985, 988, 1211, 1213, 35, 66, 989, 1261, 1263, 43, 66, 1265, 1267, 44, 66, 985, 1141, 1143, 27, 66, 1141, 1143, 27, 66, 983, 988, 1141, 1143, 27, 66, 1265, 1267, 44, 66] (by decide +kernel) (by decide +kernel))) (am_cs_cons (calX10_resultOf (by decide) (by decide)) (am_cs_cons (calX10_byCurve (by decide) (by decide)) (am_cs_cons (calX10_of (by decide) (by decide)) (am_cs_cons (calX10_leave (by decide) (by decide)) (am_cs_cons (calX10_remember (by decide) (by decide)) (am_cs_cons (calX10_release (by decide) (by decide)) am_cs_nil)))))) (am_cv_of (by decide +kernel))
theorem calX10_judge {l : Launch} {dC : Nat → ClassId} {dI ad : Nat → Nat → Nat} {cy : Nat → ClassId} {R : Room} (h1 : rmX10_judge.frames + 1 ≤ R.frames) (h2 : 8 + (7 + 11) + rmX10_judge.locals ≤ R.locals) : am_Cal l dC dI ad cy R 0 0 cqX10_judge fX10_judge :=
  ⟨okX10_judge, am_inU 1240 (by decide +kernel) (by decide +kernel), Nat.le_refl _, Nat.le_refl _, h1, h2, ⟨by decide, by decide, by decide +kernel⟩, ⟨by decide, rfl⟩, Or.inl ⟨_, _, rfl⟩⟩
abbrev rmX10_goOn : Room := { frames := 0, cells := 0, slots := 0, locals := 0 }
def cqX10_goOn : am_C := (yX10_goOn, .code yX10_goOn cX10_goOn 2 none, rmX10_goOn, some 10, 0, 2)
theorem okX10_goOn {l : Launch} {dC : Nat → ClassId} {dI ad : Nat → Nat → Nat} {cy : Nat → ClassId} : am_Ok l dC dI ad cy yX10_goOn (.code yX10_goOn cX10_goOn 2 none) rmX10_goOn fX10_goOn :=
  am_meth_ok (ci := []) (by decide +kernel) rfl ⟨rfl, rfl⟩ (am_rows_of (by decide +kernel) (am_words_of [994, 994, 979, 983, 987] (by decide +kernel) (by decide +kernel))) am_cs_nil (am_cv_of (by decide +kernel))
theorem calX10_goOn {l : Launch} {dC : Nat → ClassId} {dI ad : Nat → Nat → Nat} {cy : Nat → ClassId} {R : Room} (h1 : rmX10_goOn.frames + 1 ≤ R.frames) (h2 : 8 + (2 + 11) + rmX10_goOn.locals ≤ R.locals) : am_Cal l dC dI ad cy R 0 0 cqX10_goOn fX10_goOn :=
  ⟨okX10_goOn, am_inU 1202 (by decide +kernel) (by decide +kernel), Nat.le_refl _, Nat.le_refl _, h1, h2, ⟨by decide, by decide, by decide +kernel⟩, ⟨by decide, rfl⟩, Or.inl ⟨_, _, rfl⟩⟩
abbrev rmX10_measure : Room := { frames := 1, cells := 0, slots := 0, locals := 25 }
def cqX10_measure : am_C := (yX10_measure, .code yX10_measure cX10_measure 2 none, rmX10_measure, some 10, 0, 2)
theorem okX10_measure {l : Launch} {dC : Nat → ClassId} {dI ad : Nat → Nat → Nat} {cy : Nat → ClassId} : am_Ok l dC dI ad cy yX10_measure (.code yX10_measure cX10_measure 2 none) rmX10_measure fX10_measure :=
  am_meth_ok (ci := [cqX10_of, cqX10_absorbance]) (by decide +kernel) rfl ⟨rfl, rfl⟩ (am_rows_of (by decide +kernel) (am_words_of [979, 983, 987, 981, 1141, 1143, 27, 66, 987, 981, 1141, 1143, 27, 66, 990, 991, 1009, 1232, 66, 1231, 991] (by decide +kernel) (by decide +kernel))) (am_cs_cons (calX10_of (by decide) (by decide)) (am_cs_cons (calX10_absorbance (by decide) (by decide)) am_cs_nil)) (am_cv_of (by decide +kernel))
theorem calX10_measure {l : Launch} {dC : Nat → ClassId} {dI ad : Nat → Nat → Nat} {cy : Nat → ClassId} {R : Room} (h1 : rmX10_measure.frames + 1 ≤ R.frames) (h2 : 8 + (2 + 11) + rmX10_measure.locals ≤ R.locals) : am_Cal l dC dI ad cy R 0 0 cqX10_measure fX10_measure :=
  ⟨okX10_measure, am_inU 1230 (by decide +kernel) (by decide +kernel), Nat.le_refl _, Nat.le_refl _, h1, h2, ⟨by decide, by decide, by decide +kernel⟩, ⟨by decide, rfl⟩, Or.inl ⟨_, _, rfl⟩⟩
abbrev rmX10_clean : Room := { frames := 0, cells := 0, slots := 0, locals := 0 }
def cqX10_clean : am_C := (yX10_clean, .code yX10_clean cX10_clean 4 (some .int), rmX10_clean, some 10, 0, 4)
theorem okX10_clean {l : Launch} {dC : Nat → ClassId} {dI ad : Nat → Nat → Nat} {cy : Nat → ClassId} : am_Ok l dC dI ad cy yX10_clean (.code yX10_clean cX10_clean 4 (some .int)) rmX10_clean fX10_clean :=
  am_meth_ok (ci := []) (by decide +kernel) rfl ⟨rfl, rfl⟩ (am_rows_of (by decide +kernel) (am_words_of [994, 979, 986] (by decide +kernel) (by decide +kernel))) am_cs_nil (am_cv_of (by decide +kernel))
theorem calX10_clean {l : Launch} {dC : Nat → ClassId} {dI ad : Nat → Nat → Nat} {cy : Nat → ClassId} {R : Room} (h1 : rmX10_clean.frames + 1 ≤ R.frames) (h2 : 8 + (4 + 11) + rmX10_clean.locals ≤ R.locals) : am_Cal l dC dI ad cy R 0 0 cqX10_clean fX10_clean :=
  ⟨okX10_clean, am_inU 1288 (by decide +kernel) (by decide +kernel), Nat.le_refl _, Nat.le_refl _, h1, h2, ⟨by decide, by decide, by decide +kernel⟩, ⟨by decide, rfl⟩, Or.inl ⟨_, _, rfl⟩⟩
abbrev rmX10_start : Room := { frames := 4, cells := 0, slots := 0, locals := 88 }
def cqX10_start : am_C := (yX10_start, .code yX10_start cX10_start 5 none, rmX10_start, some 10, 4, 5)
theorem okX10_start {l : Launch} {dC : Nat → ClassId} {dI ad : Nat → Nat → Nat} {cy : Nat → ClassId} : am_Ok l dC dI ad cy yX10_start (.code yX10_start cX10_start 5 none) rmX10_start fX10_start :=
  am_meth_ok (ci := [cqX10_breaksOff]) (by decide +kernel) rfl ⟨rfl, rfl⟩ (am_rows_of (by decide +kernel) (am_words_of [983, 985, 986, 987, 991, 989, 973, 1011, 1011, 1207, 1209, 34, 66, 974, 995] (by decide +kernel) (by decide +kernel))) (am_cs_cons (calX10_breaksOff (by decide) (by decide)) am_cs_nil) (am_cv_of (by decide +kernel))
theorem calX10_start {l : Launch} {dC : Nat → ClassId} {dI ad : Nat → Nat → Nat} {cy : Nat → ClassId} {R : Room} (h1 : rmX10_start.frames + 1 ≤ R.frames) (h2 : 8 + (5 + 11) + rmX10_start.locals ≤ R.locals) : am_Cal l dC dI ad cy R 0 0 cqX10_start fX10_start :=
  ⟨okX10_start, am_inU 1304 (by decide +kernel) (by decide +kernel), Nat.le_refl _, Nat.le_refl _, h1, h2, ⟨by decide, by decide, by decide +kernel⟩, ⟨by decide, rfl⟩, Or.inl ⟨_, _, rfl⟩⟩
abbrev rmX10_tries : Room := { frames := 5, cells := 0, slots := 0, locals := 112 }
def cqX10_tries : am_C := (yX10_tries, .code yX10_tries cX10_tries 6 (some .boolean), rmX10_tries, some 10, 1, 6)
theorem okX10_tries {l : Launch} {dC : Nat → ClassId} {dI ad : Nat → Nat → Nat} {cy : Nat → ClassId} : am_Ok l dC dI ad cy yX10_tries (.code yX10_tries cX10_tries 6 (some .boolean)) rmX10_tries fX10_tries :=
  am_meth_ok (ci := [cqX10_slotOf, cqX10_of, cqX10_fail, cqX10_book, cqX10_cancel, cqX10_clean, cqX10_allowed, cqX10_start]) (by decide +kernel) rfl ⟨rfl, rfl⟩ (am_rows_of (by decide +kernel) (am_words_of [980, 1159, 1161, 30, 66, 981, 988, 1141, 1143, 27, 66, 1141, 1143, 27, 66, 1141, 1143, 27, 66, 974, 1223, 1225, 38, 66, 1277, 1279, 47, 66, 1215, 1217, 36, 66, 1223, 1225, 38, 66, 1285, 1287, 49, 66, 1289, 1291, 50, 66, 1215, 1217, 36, 66, 1301, 1303, 53, 66] (by decide +kernel) (by decide +kernel))) (am_cs_cons (calX10_slotOf (by decide) (by decide)) (am_cs_cons (calX10_of (by decide) (by decide)) (am_cs_cons (calX10_fail (by decide) (by decide)) (am_cs_cons (calX10_book (by decide) (by decide)) (am_cs_cons (calX10_cancel (by decide) (by decide)) (am_cs_cons (calX10_clean (by decide) (by decide)) (am_cs_cons (calX10_allowed (by decide) (by decide)) (am_cs_cons (calX10_start (by decide) (by decide)) am_cs_nil)))))))) (am_cv_of (by decide +kernel))
theorem calX10_tries {l : Launch} {dC : Nat → ClassId} {dI ad : Nat → Nat → Nat} {cy : Nat → ClassId} {R : Room} (h1 : rmX10_tries.frames + 1 ≤ R.frames) (h2 : 8 + (6 + 11) + rmX10_tries.locals ≤ R.locals) : am_Cal l dC dI ad cy R 0 0 cqX10_tries fX10_tries :=
  ⟨okX10_tries, am_inU 1276 (by decide +kernel) (by decide +kernel), Nat.le_refl _, Nat.le_refl _, h1, h2, ⟨by decide, by decide, by decide +kernel⟩, ⟨by decide, rfl⟩, Or.inl ⟨_, _, rfl⟩⟩
abbrev rmX10_startOne : Room := { frames := 6, cells := 0, slots := 0, locals := 137 }
def cqX10_startOne : am_C := (yX10_startOne, .code yX10_startOne cX10_startOne 3 (some .int), rmX10_startOne, some 10, 0, 3)
theorem okX10_startOne {l : Launch} {dC : Nat → ClassId} {dI ad : Nat → Nat → Nat} {cy : Nat → ClassId} : am_Ok l dC dI ad cy yX10_startOne (.code yX10_startOne cX10_startOne 3 (some .int)) rmX10_startOne fX10_startOne :=
  am_meth_ok (ci := [cqX10_tries]) (by decide +kernel) rfl ⟨rfl, rfl⟩ (am_rows_of (by decide +kernel) (am_words_of [979, 983, 982, 1273, 1275, 46, 66] (by decide +kernel) (by decide +kernel))) (am_cs_cons (calX10_tries (by decide) (by decide)) am_cs_nil) (am_cv_of (by decide +kernel))
theorem calX10_startOne {l : Launch} {dC : Nat → ClassId} {dI ad : Nat → Nat → Nat} {cy : Nat → ClassId} {R : Room} (h1 : rmX10_startOne.frames + 1 ≤ R.frames) (h2 : 8 + (3 + 11) + rmX10_startOne.locals ≤ R.locals) : am_Cal l dC dI ad cy R 0 0 cqX10_startOne fX10_startOne :=
  ⟨okX10_startOne, am_inU 1272 (by decide +kernel) (by decide +kernel), Nat.le_refl _, Nat.le_refl _, h1, h2, ⟨by decide, by decide, by decide +kernel⟩, ⟨by decide, rfl⟩, Or.inl ⟨_, _, rfl⟩⟩
abbrev rmX10_step : Room := { frames := 7, cells := 0, slots := 0, locals := 159 }
def cqX10_step : am_C := (yX10_step, .code yX10_step cX10_step 2 (some .int), rmX10_step, some 10, 0, 2)
theorem okX10_step {l : Launch} {dC : Nat → ClassId} {dI ad : Nat → Nat → Nat} {cy : Nat → ClassId} : am_Ok l dC dI ad cy yX10_step (.code yX10_step cX10_step 2 (some .int)) rmX10_step fX10_step :=
  am_meth_ok (ci := [cqX10_goOn, cqX10_give, cqX10_measure, cqX10_of, cqX10_judge, cqX10_startOne]) (by decide +kernel) rfl ⟨rfl, rfl⟩ (am_rows_of (by decide +kernel) (am_words_of [1010, 1007, 1007, 1199, 1201, 32, 66, 1203, 1205, 33, 66, 1227, 1229, 39, 66, 979, 983, 987, 981, 1141, 1143, 27, 66, 1237, 1239, 40, 66, 1269, 1271, 45, 66, 1008, 1008] (by decide +kernel) (by decide +kernel))) (am_cs_cons (calX10_goOn (by decide) (by decide)) (am_cs_cons (calX10_give (by decide) (by decide)) (am_cs_cons (calX10_measure (by decide) (by decide)) (am_cs_cons (calX10_of (by decide) (by decide)) (am_cs_cons (calX10_judge (by decide) (by decide)) (am_cs_cons (calX10_startOne (by decide) (by decide)) am_cs_nil)))))) (am_cv_of (by decide +kernel))
theorem calX10_step {l : Launch} {dC : Nat → ClassId} {dI ad : Nat → Nat → Nat} {cy : Nat → ClassId} {R : Room} (h1 : rmX10_step.frames + 1 ≤ R.frames) (h2 : 8 + (2 + 11) + rmX10_step.locals ≤ R.locals) : am_Cal l dC dI ad cy R 0 0 cqX10_step fX10_step :=
  ⟨okX10_step, am_inU 1198 (by decide +kernel) (by decide +kernel), Nat.le_refl _, Nat.le_refl _, h1, h2, ⟨by decide, by decide, by decide +kernel⟩, ⟨by decide, rfl⟩, Or.inl ⟨_, _, rfl⟩⟩
abbrev rmX10_idle : Room := { frames := 0, cells := 0, slots := 0, locals := 0 }
def cqX10_idle : am_C := (yX10_idle, .code yX10_idle cX10_idle 1 (some .int), rmX10_idle, some 10, 0, 1)
theorem okX10_idle {l : Launch} {dC : Nat → ClassId} {dI ad : Nat → Nat → Nat} {cy : Nat → ClassId} : am_Ok l dC dI ad cy yX10_idle (.code yX10_idle cX10_idle 1 (some .int)) rmX10_idle fX10_idle :=
  am_meth_ok (ci := []) (by decide +kernel) rfl ⟨rfl, rfl⟩ (am_rows_of (by decide +kernel) (am_words_of [1010, 1008] (by decide +kernel) (by decide +kernel))) am_cs_nil (am_cv_of (by decide +kernel))
theorem calX10_idle {l : Launch} {dC : Nat → ClassId} {dI ad : Nat → Nat → Nat} {cy : Nat → ClassId} {R : Room} (h1 : rmX10_idle.frames + 1 ≤ R.frames) (h2 : 8 + (1 + 11) + rmX10_idle.locals ≤ R.locals) : am_Cal l dC dI ad cy R 0 0 cqX10_idle fX10_idle :=
  ⟨okX10_idle, am_inU 1308 (by decide +kernel) (by decide +kernel), Nat.le_refl _, Nat.le_refl _, h1, h2, ⟨by decide, by decide, by decide +kernel⟩, ⟨by decide, rfl⟩, Or.inl ⟨_, _, rfl⟩⟩
abbrev rmX10_state : Room := { frames := 1, cells := 0, slots := 0, locals := 22 }
def cqX10_state : am_C := (yX10_state, .code yX10_state cX10_state 3 (some .int), rmX10_state, some 10, 2, 3)
theorem okX10_state {l : Launch} {dC : Nat → ClassId} {dI ad : Nat → Nat → Nat} {cy : Nat → ClassId} : am_Ok l dC dI ad cy yX10_state (.code yX10_state cX10_state 3 (some .int)) rmX10_state fX10_state :=
  am_meth_ok (ci := [cqX10_within]) (by decide +kernel) rfl ⟨rfl, rfl⟩ (am_rows_of (by decide +kernel) (am_words_of [979, 1122, 66, 1121, 1010, 1010, 983, 984, 985, 986, 983, 987, 992, 993] (by decide +kernel) (by decide +kernel))) (am_cs_cons (calX10_within (by decide) (by decide)) am_cs_nil) (am_cv_of (by decide +kernel))
theorem calX10_state {l : Launch} {dC : Nat → ClassId} {dI ad : Nat → Nat → Nat} {cy : Nat → ClassId} {R : Room} (h1 : rmX10_state.frames + 1 ≤ R.frames) (h2 : 8 + (3 + 11) + rmX10_state.locals ≤ R.locals) : am_Cal l dC dI ad cy R 0 0 cqX10_state fX10_state :=
  ⟨okX10_state, am_inU 1312 (by decide +kernel) (by decide +kernel), Nat.le_refl _, Nat.le_refl _, h1, h2, ⟨by decide, by decide, by decide +kernel⟩, ⟨by decide, rfl⟩, Or.inl ⟨_, _, rfl⟩⟩
abbrev rmX10_cuvette : Room := { frames := 1, cells := 0, slots := 0, locals := 22 }
def cqX10_cuvette : am_C := (yX10_cuvette, .code yX10_cuvette cX10_cuvette 4 (some .int), rmX10_cuvette, some 10, 2, 4)
theorem okX10_cuvette {l : Launch} {dC : Nat → ClassId} {dI ad : Nat → Nat → Nat} {cy : Nat → ClassId} : am_Ok l dC dI ad cy yX10_cuvette (.code yX10_cuvette cX10_cuvette 4 (some .int)) rmX10_cuvette fX10_cuvette :=
  am_meth_ok (ci := [cqX10_within]) (by decide +kernel) rfl ⟨rfl, rfl⟩ (am_rows_of (by decide +kernel) (am_words_of [1122, 66, 1121, 1122, 66, 1121, 1010, 1010, 994, 995, 979, 986] (by decide +kernel) (by decide +kernel))) (am_cs_cons (calX10_within (by decide) (by decide)) am_cs_nil) (am_cv_of (by decide +kernel))
theorem calX10_cuvette {l : Launch} {dC : Nat → ClassId} {dI ad : Nat → Nat → Nat} {cy : Nat → ClassId} {R : Room} (h1 : rmX10_cuvette.frames + 1 ≤ R.frames) (h2 : 8 + (4 + 11) + rmX10_cuvette.locals ≤ R.locals) : am_Cal l dC dI ad cy R 0 0 cqX10_cuvette fX10_cuvette :=
  ⟨okX10_cuvette, am_inU 1316 (by decide +kernel) (by decide +kernel), Nat.le_refl _, Nat.le_refl _, h1, h2, ⟨by decide, by decide, by decide +kernel⟩, ⟨by decide, rfl⟩, Or.inl ⟨_, _, rfl⟩⟩
abbrev rmX10_volume : Room := { frames := 1, cells := 0, slots := 0, locals := 23 }
def cqX10_volume : am_C := (yX10_volume, .code yX10_volume cX10_volume 4 (some .int), rmX10_volume, some 10, 2, 4)
theorem okX10_volume {l : Launch} {dC : Nat → ClassId} {dI ad : Nat → Nat → Nat} {cy : Nat → ClassId} : am_Ok l dC dI ad cy yX10_volume (.code yX10_volume cX10_volume 4 (some .int)) rmX10_volume fX10_volume :=
  am_meth_ok (ci := [cqX10_within, cqX10_reserved]) (by decide +kernel) rfl ⟨rfl, rfl⟩ (am_rows_of (by decide +kernel) (am_words_of [1122, 66, 1121, 1122, 66, 1121, 972, 975, 1010, 1010, 974, 976, 1171, 1173, 31, 66] (by decide +kernel) (by decide +kernel))) (am_cs_cons (calX10_within (by decide) (by decide)) (am_cs_cons (calX10_reserved (by decide) (by decide)) am_cs_nil)) (am_cv_of (by decide +kernel))
theorem calX10_volume {l : Launch} {dC : Nat → ClassId} {dI ad : Nat → Nat → Nat} {cy : Nat → ClassId} {R : Room} (h1 : rmX10_volume.frames + 1 ≤ R.frames) (h2 : 8 + (4 + 11) + rmX10_volume.locals ≤ R.locals) : am_Cal l dC dI ad cy R 0 0 cqX10_volume fX10_volume :=
  ⟨okX10_volume, am_inU 1320 (by decide +kernel) (by decide +kernel), Nat.le_refl _, Nat.le_refl _, h1, h2, ⟨by decide, by decide, by decide +kernel⟩, ⟨by decide, rfl⟩, Or.inl ⟨_, _, rfl⟩⟩
abbrev rmX10_trend : Room := { frames := 2, cells := 0, slots := 0, locals := 42 }
def cqX10_trend : am_C := (yX10_trend, .code yX10_trend cX10_trend 3 (some .int), rmX10_trend, some 10, 2, 3)
theorem okX10_trend {l : Launch} {dC : Nat → ClassId} {dI ad : Nat → Nat → Nat} {cy : Nat → ClassId} : am_Ok l dC dI ad cy yX10_trend (.code yX10_trend cX10_trend 3 (some .int)) rmX10_trend fX10_trend :=
  am_meth_ok (ci := [cqX10_isTest]) (by decide +kernel) rfl ⟨rfl, rfl⟩ (am_rows_of (by decide +kernel) (am_words_of [1119, 66, 1118, 971, 1010, 1010, 970, 971] (by decide +kernel) (by decide +kernel))) (am_cs_cons (calX10_isTest (by decide) (by decide)) am_cs_nil) (am_cv_of (by decide +kernel))
theorem calX10_trend {l : Launch} {dC : Nat → ClassId} {dI ad : Nat → Nat → Nat} {cy : Nat → ClassId} {R : Room} (h1 : rmX10_trend.frames + 1 ≤ R.frames) (h2 : 8 + (3 + 11) + rmX10_trend.locals ≤ R.locals) : am_Cal l dC dI ad cy R 0 0 cqX10_trend fX10_trend :=
  ⟨okX10_trend, am_inU 1324 (by decide +kernel) (by decide +kernel), Nat.le_refl _, Nat.le_refl _, h1, h2, ⟨by decide, by decide, by decide +kernel⟩, ⟨by decide, rfl⟩, Or.inl ⟨_, _, rfl⟩⟩
abbrev rmX10_above : Room := { frames := 1, cells := 0, slots := 0, locals := 22 }
def cqX10_above : am_C := (yX10_above, .code yX10_above cX10_above 3 (some .long), rmX10_above, some 10, 2, 3)
theorem okX10_above {l : Launch} {dC : Nat → ClassId} {dI ad : Nat → Nat → Nat} {cy : Nat → ClassId} : am_Ok l dC dI ad cy yX10_above (.code yX10_above cX10_above 3 (some .long)) rmX10_above fX10_above :=
  am_meth_ok (ci := [cqX10_of]) (by decide +kernel) rfl ⟨rfl, rfl⟩ (am_rows_of (by decide +kernel) (am_words_of [970, 971, 1141, 1143, 27, 66] (by decide +kernel) (by decide +kernel))) (am_cs_cons (calX10_of (by decide) (by decide)) am_cs_nil) (am_cv_of (by decide +kernel))
theorem calX10_above {l : Launch} {dC : Nat → ClassId} {dI ad : Nat → Nat → Nat} {cy : Nat → ClassId} {R : Room} (h1 : rmX10_above.frames + 1 ≤ R.frames) (h2 : 8 + (3 + 11) + rmX10_above.locals ≤ R.locals) : am_Cal l dC dI ad cy R 0 0 cqX10_above fX10_above :=
  ⟨okX10_above, am_inU 1332 (by decide +kernel) (by decide +kernel), Nat.le_refl _, Nat.le_refl _, h1, h2, ⟨by decide, by decide, by decide +kernel⟩, ⟨by decide, rfl⟩, Or.inl ⟨_, _, rfl⟩⟩
abbrev rmX10_rules : Room := { frames := 2, cells := 0, slots := 0, locals := 44 }
def cqX10_rules : am_C := (yX10_rules, .code yX10_rules cX10_rules 10 (some .int), rmX10_rules, some 10, 1, 10)
theorem okX10_rules {l : Launch} {dC : Nat → ClassId} {dI ad : Nat → Nat → Nat} {cy : Nat → ClassId} : am_Ok l dC dI ad cy yX10_rules (.code yX10_rules cX10_rules 10 (some .int)) rmX10_rules fX10_rules :=
  am_meth_ok (ci := [cqX10_isTest, cqX10_of, cqX10_above]) (by decide +kernel) rfl ⟨rfl, rfl⟩ (am_rows_of (by decide +kernel) (am_words_of [1119, 66, 1118, 1010, 1010, 971, 1141, 1143, 27, 66, 1329, 1331, 54, 66, 1333, 1329, 1331, 54, 66, 1334, 971, 1329, 1331, 54, 66, 1236, 1329, 1331, 54, 66, 1252, 971, 1329, 1331, 54, 66, 1329, 1331, 54, 66] (by decide +kernel) (by decide +kernel))) (am_cs_cons (calX10_isTest (by decide) (by decide)) (am_cs_cons (calX10_of (by decide) (by decide)) (am_cs_cons (calX10_above (by decide) (by decide)) am_cs_nil))) (am_cv_of (by decide +kernel))
theorem calX10_rules {l : Launch} {dC : Nat → ClassId} {dI ad : Nat → Nat → Nat} {cy : Nat → ClassId} {R : Room} (h1 : rmX10_rules.frames + 1 ≤ R.frames) (h2 : 8 + (10 + 11) + rmX10_rules.locals ≤ R.locals) : am_Cal l dC dI ad cy R 0 0 cqX10_rules fX10_rules :=
  ⟨okX10_rules, am_inU 1328 (by decide +kernel) (by decide +kernel), Nat.le_refl _, Nat.le_refl _, h1, h2, ⟨by decide, by decide, by decide +kernel⟩, ⟨by decide, rfl⟩, Or.inl ⟨_, _, rfl⟩⟩
abbrev rmX10_host : Room := { frames := 0, cells := 0, slots := 0, locals := 0 }
def cqX10_host : am_C := (yX10_host, .code yX10_host cX10_host 2 (some .int), rmX10_host, some 10, 1, 2)
theorem okX10_host {l : Launch} {dC : Nat → ClassId} {dI ad : Nat → Nat → Nat} {cy : Nat → ClassId} : am_Ok l dC dI ad cy yX10_host (.code yX10_host cX10_host 2 (some .int)) rmX10_host fX10_host :=
  am_meth_ok (ci := []) (by decide +kernel) rfl ⟨rfl, rfl⟩ (am_rows_of (by decide +kernel) (am_words_of [1005, 1010, 1010, 1004] (by decide +kernel) (by decide +kernel))) am_cs_nil (am_cv_of (by decide +kernel))
theorem calX10_host {l : Launch} {dC : Nat → ClassId} {dI ad : Nat → Nat → Nat} {cy : Nat → ClassId} {R : Room} (h1 : rmX10_host.frames + 1 ≤ R.frames) (h2 : 8 + (2 + 11) + rmX10_host.locals ≤ R.locals) : am_Cal l dC dI ad cy R 0 0 cqX10_host fX10_host :=
  ⟨okX10_host, am_inU 1338 (by decide +kernel) (by decide +kernel), Nat.le_refl _, Nat.le_refl _, h1, h2, ⟨by decide, by decide, by decide +kernel⟩, ⟨by decide, rfl⟩, Or.inl ⟨_, _, rfl⟩⟩
abbrev rmX10_took : Room := { frames := 0, cells := 0, slots := 0, locals := 0 }
def cqX10_took : am_C := (yX10_took, .code yX10_took cX10_took 3 (some .int), rmX10_took, some 10, 1, 3)
theorem okX10_took {l : Launch} {dC : Nat → ClassId} {dI ad : Nat → Nat → Nat} {cy : Nat → ClassId} : am_Ok l dC dI ad cy yX10_took (.code yX10_took cX10_took 3 (some .int)) rmX10_took fX10_took :=
  am_meth_ok (ci := []) (by decide +kernel) rfl ⟨rfl, rfl⟩ (am_rows_of (by decide +kernel) (am_words_of [1005, 1010, 1010, 1005, 1004, 1004, 1005, 1005, 1005] (by decide +kernel) (by decide +kernel))) am_cs_nil (am_cv_of (by decide +kernel))
theorem calX10_took {l : Launch} {dC : Nat → ClassId} {dI ad : Nat → Nat → Nat} {cy : Nat → ClassId} {R : Room} (h1 : rmX10_took.frames + 1 ≤ R.frames) (h2 : 8 + (3 + 11) + rmX10_took.locals ≤ R.locals) : am_Cal l dC dI ad cy R 0 0 cqX10_took fX10_took :=
  ⟨okX10_took, am_inU 1342 (by decide +kernel) (by decide +kernel), Nat.le_refl _, Nat.le_refl _, h1, h2, ⟨by decide, by decide, by decide +kernel⟩, ⟨by decide, rfl⟩, Or.inl ⟨_, _, rfl⟩⟩
end
section
/-! ===== which meanings never throw ===== -/
theorem ntX9_isWithin : am_nt fX9_isWithin := am_meth_nt am_nt_nil
theorem ntX0_accepts : am_nt fX0_accepts := am_meth_nt (am_nt_cons ntX9_isWithin am_nt_nil)
theorem ntX0_takes : am_nt fX0_takes := am_meth_nt am_nt_nil
theorem ntX0_add : am_nt fX0_add := am_meth_nt am_nt_nil
theorem ntX0_isMonotone : am_nt fX0_isMonotone := am_meth_nt am_nt_nil
theorem ntX0_isComplete : am_nt fX0_isComplete := am_meth_nt (am_nt_cons ntX0_isMonotone am_nt_nil)
theorem ntJ9_floorDiv_f86c9 : am_nt fJ9_floorDiv_f86c9 := am_meth_nt am_nt_nil
theorem ntX9_rounded : am_nt fX9_rounded := am_meth_nt (am_nt_cons ntJ9_floorDiv_f86c9 am_nt_nil)
theorem ntX0_valueAt : am_nt fX0_valueAt := am_meth_nt (am_nt_cons ntX9_rounded am_nt_nil)
theorem ntX1_isClean : am_nt fX1_isClean := am_meth_nt am_nt_nil
theorem ntX1_turn : am_nt fX1_turn := am_meth_nt am_nt_nil
theorem ntX1_start : am_nt fX1_start := am_meth_nt am_nt_nil
theorem ntX1_addReading : am_nt fX1_addReading := am_meth_nt am_nt_nil
theorem ntX1_sendToWash : am_nt fX1_sendToWash := am_meth_nt am_nt_nil
theorem ntX2_append : am_nt fX2_append := am_meth_nt am_nt_nil
theorem ntX2_fromLatest : am_nt fX2_fromLatest := am_meth_nt (am_nt_cons ntX9_isWithin am_nt_nil)
theorem ntX2_above : am_nt fX2_above := am_meth_nt (am_nt_cons ntX2_fromLatest am_nt_nil)
theorem ntX2_below : am_nt fX2_below := am_meth_nt (am_nt_cons ntX2_fromLatest am_nt_nil)
theorem ntX3_append : am_nt fX3_append := am_meth_nt am_nt_nil
theorem ntX3_dropFirst : am_nt fX3_dropFirst := am_meth_nt am_nt_nil
theorem ntX4_place : am_nt fX4_place := am_meth_nt am_nt_nil
theorem ntX4_isOpen : am_nt fX4_isOpen := am_meth_nt am_nt_nil
theorem ntX4_startRun : am_nt fX4_startRun := am_meth_nt am_nt_nil
theorem ntX4_waitAgain : am_nt fX4_waitAgain := am_meth_nt am_nt_nil
theorem ntX4_fail : am_nt fX4_fail := am_meth_nt am_nt_nil
theorem ntX4_breakOff : am_nt fX4_breakOff := am_meth_nt (am_nt_cons ntX4_waitAgain (am_nt_cons ntX4_fail am_nt_nil))
theorem ntX4_release : am_nt fX4_release := am_meth_nt am_nt_nil
theorem ntX4_runFlags : am_nt fX4_runFlags := am_meth_nt am_nt_nil
theorem ntX5_isEmpty : am_nt fX5_isEmpty := am_meth_nt am_nt_nil
theorem ntX5_fill : am_nt fX5_fill := am_meth_nt am_nt_nil
theorem ntX5_canGive : am_nt fX5_canGive := am_meth_nt am_nt_nil
theorem ntX6_accepts : am_nt fX6_accepts := am_meth_nt (am_nt_cons ntX9_isWithin am_nt_nil)
theorem ntX6_kindOf : am_nt fX6_kindOf := am_meth_nt am_nt_nil
theorem ntX6_doseOf : am_nt fX6_doseOf := am_meth_nt am_nt_nil
theorem ntX6_ageOf : am_nt fX6_ageOf := am_meth_nt am_nt_nil
theorem ntX6_lacks : am_nt fX6_lacks := am_meth_nt (am_nt_cons ntX6_kindOf am_nt_nil)
theorem ntX6_sampleVolume : am_nt fX6_sampleVolume := am_meth_nt am_nt_nil
theorem ntX6_isReagentRight : am_nt fX6_isReagentRight := am_meth_nt (am_nt_cons ntX6_doseOf (am_nt_cons ntX6_ageOf am_nt_nil))
theorem ntX6_areReagentsRight : am_nt fX6_areReagentsRight := am_meth_nt (am_nt_cons ntX6_kindOf (am_nt_cons ntX6_isReagentRight (am_nt_cons ntX6_ageOf am_nt_nil)))
theorem ntX6_areReadingsRight : am_nt fX6_areReadingsRight := am_meth_nt (am_nt_cons ntX9_isWithin am_nt_nil)
theorem ntX6_dilutes : am_nt fX6_dilutes := am_meth_nt am_nt_nil
theorem ntX6_isDilutionRight : am_nt fX6_isDilutionRight := am_meth_nt (am_nt_cons ntX6_dilutes am_nt_nil)
theorem ntX6_isComplete : am_nt fX6_isComplete := am_meth_nt (am_nt_cons ntX6_areReagentsRight (am_nt_cons ntX6_areReadingsRight (am_nt_cons ntX6_isDilutionRight (am_nt_cons ntX0_isComplete am_nt_nil))))
theorem ntX6_isReadAt : am_nt fX6_isReadAt := am_meth_nt (am_nt_cons ntX9_isWithin am_nt_nil)
theorem ntX6_isOverAt : am_nt fX6_isOverAt := am_meth_nt am_nt_nil
theorem ntX6_asksAgain : am_nt fX6_asksAgain := am_meth_nt am_nt_nil
theorem ntX6_limitFlags : am_nt fX6_limitFlags := am_meth_nt am_nt_nil
theorem ntX6_valueAt : am_nt fX6_valueAt := am_meth_nt (am_nt_cons ntX0_valueAt am_nt_nil)
theorem ntX6_rateOf : am_nt fX6_rateOf := am_meth_nt (am_nt_cons ntX9_rounded am_nt_nil)
theorem ntX6_formulaOf : am_nt fX6_formulaOf := am_meth_nt (am_nt_cons ntX9_isWithin (am_nt_cons ntX6_rateOf am_nt_nil))
theorem ntX6_brokenRules : am_nt fX6_brokenRules := am_meth_nt (am_nt_cons ntX2_above (am_nt_cons ntX2_below am_nt_nil))
theorem ntX7_turnSuccession : am_nt fX7_turnSuccession := am_meth_nt am_nt_nil
theorem ntX7_clear : am_nt fX7_clear := am_meth_nt am_nt_nil
theorem ntX7_turn : am_nt fX7_turn := am_meth_nt (am_nt_cons ntX7_clear am_nt_nil)
theorem ntX7_userNow : am_nt fX7_userNow := am_meth_nt am_nt_nil
theorem ntX7_isFree : am_nt fX7_isFree := am_meth_nt (am_nt_cons ntX9_isWithin am_nt_nil)
theorem ntX7_hasForbiddenSuccession : am_nt fX7_hasForbiddenSuccession := am_meth_nt am_nt_nil
theorem ntX7_cancel : am_nt fX7_cancel := am_meth_nt (am_nt_cons ntX7_clear am_nt_nil)
theorem ntX7_book : am_nt fX7_book := am_meth_nt (am_nt_cons ntX6_kindOf (am_nt_cons ntX6_ageOf (am_nt_cons ntX7_isFree (am_nt_cons ntX7_hasForbiddenSuccession (am_nt_cons ntX7_cancel am_nt_nil)))))
theorem ntX8_isEmpty : am_nt fX8_isEmpty := am_meth_nt am_nt_nil
theorem ntX8_fill : am_nt fX8_fill := am_meth_nt am_nt_nil
theorem ntX9_isOrdered : am_nt fX9_isOrdered := am_meth_nt (am_nt_cons ntX4_isOpen am_nt_nil)
theorem ntX9_slotOf : am_nt fX9_slotOf := am_meth_nt am_nt_nil
theorem ntX9_isAwaited : am_nt fX9_isAwaited := am_meth_nt (am_nt_cons ntX4_isOpen am_nt_nil)
theorem ntX9_turnDisc : am_nt fX9_turnDisc := am_meth_nt (am_nt_cons ntX1_turn (am_nt_cons ntX7_turn am_nt_nil))
theorem ntX9_breakOff : am_nt fX9_breakOff := am_meth_nt (am_nt_cons ntX9_isWithin (am_nt_cons ntX7_cancel (am_nt_cons ntX4_breakOff (am_nt_cons ntX1_sendToWash am_nt_nil))))
theorem ntX9_giveNextDose : am_nt fX9_giveNextDose := am_meth_nt (am_nt_cons ntX9_isWithin am_nt_nil)
theorem ntX9_giveReagent : am_nt fX9_giveReagent := am_meth_nt (am_nt_cons ntX7_userNow (am_nt_cons ntX9_isWithin (am_nt_cons ntX9_breakOff (am_nt_cons ntX9_giveNextDose am_nt_nil))))
theorem ntX9_absorbanceOf : am_nt fX9_absorbanceOf := am_meth_nt am_nt_nil
theorem ntX9_cuvetteOf : am_nt fX9_cuvetteOf := am_meth_nt (am_nt_cons ntX9_isWithin am_nt_nil)
theorem ntX9_takeReadings : am_nt fX9_takeReadings := am_meth_nt (am_nt_cons ntX9_absorbanceOf (am_nt_cons ntX9_cuvetteOf (am_nt_cons ntX6_isReadAt (am_nt_cons ntX1_addReading am_nt_nil))))
theorem ntJ9_min_f86c9 : am_nt fJ9_min_f86c9 := am_meth_nt am_nt_nil
theorem ntJ9_max_f86c9 : am_nt fJ9_max_f86c9 := am_meth_nt am_nt_nil
theorem ntX9_limited : am_nt fX9_limited := am_meth_nt (am_nt_cons ntJ9_min_f86c9 (am_nt_cons ntJ9_max_f86c9 am_nt_nil))
theorem ntX9_judge : am_nt fX9_judge := am_meth_nt (am_nt_cons ntX6_formulaOf (am_nt_cons ntX6_valueAt (am_nt_cons ntX9_limited (am_nt_cons ntX6_limitFlags (am_nt_cons ntX4_runFlags (am_nt_cons ntX1_sendToWash (am_nt_cons ntX6_asksAgain (am_nt_cons ntX6_dilutes (am_nt_cons ntX4_waitAgain (am_nt_cons ntX4_release (am_nt_cons ntX3_append (am_nt_cons ntX2_append am_nt_nil))))))))))))
theorem ntX9_judgeEndedRuns : am_nt fX9_judgeEndedRuns := am_meth_nt (am_nt_cons ntX9_cuvetteOf (am_nt_cons ntX6_isOverAt (am_nt_cons ntX9_judge am_nt_nil)))
theorem ntX9_positionFor : am_nt fX9_positionFor := am_meth_nt (am_nt_cons ntX6_kindOf (am_nt_cons ntX6_doseOf (am_nt_cons ntX5_canGive am_nt_nil)))
theorem ntX9_cleanCuvette : am_nt fX9_cleanCuvette := am_meth_nt (am_nt_cons ntX1_isClean am_nt_nil)
theorem ntX9_reserve : am_nt fX9_reserve := am_meth_nt am_nt_nil
theorem ntX9_takeSample : am_nt fX9_takeSample := am_meth_nt (am_nt_cons ntX9_breakOff am_nt_nil)
theorem ntX9_tryStart : am_nt fX9_tryStart := am_meth_nt (am_nt_cons ntX9_slotOf (am_nt_cons ntX6_sampleVolume (am_nt_cons ntX4_fail (am_nt_cons ntX9_positionFor (am_nt_cons ntX6_lacks (am_nt_cons ntX9_cleanCuvette (am_nt_cons ntX7_book (am_nt_cons ntX1_start (am_nt_cons ntX6_doseOf (am_nt_cons ntX9_reserve (am_nt_cons ntX4_startRun (am_nt_cons ntX9_takeSample am_nt_nil))))))))))))
theorem ntX9_startFirst : am_nt fX9_startFirst := am_meth_nt (am_nt_cons ntX9_tryStart am_nt_nil)
theorem ntX9_step : am_nt fX9_step := am_meth_nt (am_nt_cons ntX9_turnDisc (am_nt_cons ntX9_giveReagent (am_nt_cons ntX9_takeReadings (am_nt_cons ntX9_judgeEndedRuns (am_nt_cons ntX9_startFirst am_nt_nil)))))
theorem ntX9_idle : am_nt fX9_idle := am_meth_nt am_nt_nil
theorem ntX10_thrown : am_nt fX10_thrown := am_meth_nt am_nt_nil
theorem ntX10_within : am_nt fX10_within := am_meth_nt am_nt_nil
theorem ntX10_isTest : am_nt fX10_isTest := am_meth_nt (am_nt_cons ntX10_within am_nt_nil)
theorem ntX10_of : am_nt fX10_of := am_meth_nt am_nt_nil
theorem ntX10_pending : am_nt fX10_pending := am_meth_nt am_nt_nil
theorem ntX10_fits : am_nt fX10_fits := am_meth_nt (am_nt_cons ntX10_within am_nt_nil)
theorem ntX10_define : am_nt fX10_define := am_meth_nt (am_nt_cons ntX10_isTest (am_nt_cons ntX10_within (am_nt_cons ntX10_fits (am_nt_cons ntX10_pending am_nt_nil))))
theorem ntX10_curve : am_nt fX10_curve := am_meth_nt (am_nt_cons ntX10_isTest (am_nt_cons ntX10_within (am_nt_cons ntX10_pending am_nt_nil)))
theorem ntX10_reagentGood : am_nt fX10_reagentGood := am_meth_nt (am_nt_cons ntX10_of am_nt_nil)
theorem ntX10_curveGood : am_nt fX10_curveGood := am_meth_nt am_nt_nil
theorem ntX10_seal : am_nt fX10_seal := am_meth_nt (am_nt_cons ntX10_isTest (am_nt_cons ntX10_of (am_nt_cons ntX10_reagentGood (am_nt_cons ntX10_curveGood am_nt_nil))))
theorem ntX10_slotOf : am_nt fX10_slotOf := am_meth_nt am_nt_nil
theorem ntX10_rack : am_nt fX10_rack := am_meth_nt (am_nt_cons ntX10_within (am_nt_cons ntX10_slotOf am_nt_nil))
theorem ntX10_removeRack : am_nt fX10_removeRack := am_meth_nt (am_nt_cons ntX10_within am_nt_nil)
theorem ntX10_reserved : am_nt fX10_reserved := am_meth_nt am_nt_nil
theorem ntX10_reagent : am_nt fX10_reagent := am_meth_nt (am_nt_cons ntX10_within (am_nt_cons ntX10_reserved am_nt_nil))
theorem ntX10_forbid : am_nt fX10_forbid := am_meth_nt (am_nt_cons ntX10_within am_nt_nil)
theorem ntX10_order : am_nt fX10_order := am_meth_nt (am_nt_cons ntX10_within (am_nt_cons ntX10_isTest am_nt_nil))
theorem ntX10_clock : am_nt fX10_clock := am_meth_nt am_nt_nil
theorem ntX10_light : am_nt fX10_light := am_meth_nt (am_nt_cons ntX10_within am_nt_nil)
theorem ntX10_spoil : am_nt fX10_spoil := am_meth_nt (am_nt_cons ntX10_within am_nt_nil)
theorem ntX10_copyBook : am_nt fX10_copyBook := am_meth_nt am_nt_nil
theorem ntX10_cancel : am_nt fX10_cancel := am_meth_nt (am_nt_cons ntX10_copyBook am_nt_nil)
theorem ntX10_nextUse : am_nt fX10_nextUse := am_meth_nt am_nt_nil
theorem ntX10_follows : am_nt fX10_follows := am_meth_nt (am_nt_cons ntX10_nextUse am_nt_nil)
theorem ntX10_allowed : am_nt fX10_allowed := am_meth_nt (am_nt_cons ntX10_follows am_nt_nil)
theorem ntX10_placeFor : am_nt fX10_placeFor := am_meth_nt (am_nt_cons ntX10_reserved am_nt_nil)
theorem ntX10_book : am_nt fX10_book := am_meth_nt (am_nt_cons ntX10_of (am_nt_cons ntX10_placeFor am_nt_nil))
theorem ntX10_fail : am_nt fX10_fail := am_meth_nt am_nt_nil
theorem ntX10_leave : am_nt fX10_leave := am_meth_nt (am_nt_cons ntX10_cancel am_nt_nil)
theorem ntX10_breaksOff : am_nt fX10_breaksOff := am_meth_nt (am_nt_cons ntX10_leave (am_nt_cons ntX10_fail am_nt_nil))
theorem ntX10_give : am_nt fX10_give := am_meth_nt (am_nt_cons ntX10_breaksOff (am_nt_cons ntX10_copyBook am_nt_nil))
theorem ntX10_absorbance : am_nt fX10_absorbance := am_meth_nt am_nt_nil
theorem ntX10_floor : am_nt fX10_floor := am_meth_nt am_nt_nil
theorem ntX10_rounded : am_nt fX10_rounded := am_meth_nt (am_nt_cons ntX10_floor am_nt_nil)
theorem ntX10_resultOf : am_nt fX10_resultOf := am_meth_nt (am_nt_cons ntX10_of (am_nt_cons ntX10_rounded am_nt_nil))
theorem ntX10_byCurve : am_nt fX10_byCurve := am_meth_nt (am_nt_cons ntX10_rounded am_nt_nil)
theorem ntX10_release : am_nt fX10_release := am_meth_nt am_nt_nil
theorem ntX10_remember : am_nt fX10_remember := am_meth_nt am_nt_nil
theorem ntX10_judge : am_nt fX10_judge := am_meth_nt (am_nt_cons ntX10_resultOf (am_nt_cons ntX10_byCurve (am_nt_cons ntX10_of (am_nt_cons ntX10_leave (am_nt_cons ntX10_remember (am_nt_cons ntX10_release am_nt_nil))))))
theorem ntX10_goOn : am_nt fX10_goOn := am_meth_nt am_nt_nil
theorem ntX10_measure : am_nt fX10_measure := am_meth_nt (am_nt_cons ntX10_of (am_nt_cons ntX10_absorbance am_nt_nil))
theorem ntX10_clean : am_nt fX10_clean := am_meth_nt am_nt_nil
theorem ntX10_start : am_nt fX10_start := am_meth_nt (am_nt_cons ntX10_breaksOff am_nt_nil)
theorem ntX10_tries : am_nt fX10_tries := am_meth_nt (am_nt_cons ntX10_slotOf (am_nt_cons ntX10_of (am_nt_cons ntX10_fail (am_nt_cons ntX10_book (am_nt_cons ntX10_cancel (am_nt_cons ntX10_clean (am_nt_cons ntX10_allowed (am_nt_cons ntX10_start am_nt_nil))))))))
theorem ntX10_startOne : am_nt fX10_startOne := am_meth_nt (am_nt_cons ntX10_tries am_nt_nil)
theorem ntX10_step : am_nt fX10_step := am_meth_nt (am_nt_cons ntX10_goOn (am_nt_cons ntX10_give (am_nt_cons ntX10_measure (am_nt_cons ntX10_of (am_nt_cons ntX10_judge (am_nt_cons ntX10_startOne am_nt_nil))))))
theorem ntX10_idle : am_nt fX10_idle := am_meth_nt am_nt_nil
theorem ntX10_state : am_nt fX10_state := am_meth_nt (am_nt_cons ntX10_within am_nt_nil)
theorem ntX10_cuvette : am_nt fX10_cuvette := am_meth_nt (am_nt_cons ntX10_within am_nt_nil)
theorem ntX10_volume : am_nt fX10_volume := am_meth_nt (am_nt_cons ntX10_within (am_nt_cons ntX10_reserved am_nt_nil))
theorem ntX10_trend : am_nt fX10_trend := am_meth_nt (am_nt_cons ntX10_isTest am_nt_nil)
theorem ntX10_above : am_nt fX10_above := am_meth_nt (am_nt_cons ntX10_of am_nt_nil)
theorem ntX10_rules : am_nt fX10_rules := am_meth_nt (am_nt_cons ntX10_isTest (am_nt_cons ntX10_of (am_nt_cons ntX10_above am_nt_nil)))
theorem ntX10_host : am_nt fX10_host := am_meth_nt am_nt_nil
theorem ntX10_took : am_nt fX10_took := am_meth_nt am_nt_nil
/-! ===== throwing contracts ===== -/
theorem am_nl9 : ∀ q ∈ am_nl, q.1 ≠ RX9 ∧ q.1 ≠ RL := by decide +kernel
theorem am_castE : ∀ E ∈ am_ex, Cond.castable E E ∈ am_xw := by decide +kernel
theorem am_split {L : List Cond} (h : L.all (fun w => decide (w ∈ lw_tbl) && (goodWord w || am_isx w)) = true) : ∀ w ∈ L, w ∈ am_U ∨ w ∈ am_xw := by
  intro w hw
  have h1 := List.all_eq_true.mp h w hw
  simp only [Bool.and_eq_true, Bool.or_eq_true, decide_eq_true_eq] at h1
  exact h1.2.imp (fun g => List.mem_filter.mpr ⟨h1.1, g⟩) (fun g => List.mem_filter.mpr ⟨h1.1, g⟩)
theorem am_cT_nil {l : Launch} {dC : Nat → ClassId} {dI ad : Nat → Nat → Nat} {cy : Nat → ClassId} {R : Room} {own : String} : ∀ (a : Nat) (F : am_F) (q : am_C), ([] : List am_F)[a]? = some F → ([] : List am_C)[a]? = some q → (∃ av M E M', F av M = some (.inr E, M')) → am_CalT l dC dI ad cy R q F ∧ ∀ idx, (own, idx, q.1, RX9) ∉ am_nl := fun a F q h => by simp at h
theorem am_cT_nt {l : Launch} {dC : Nat → ClassId} {dI ad : Nat → Nat → Nat} {cy : Nat → ClassId} {R : Room} {own : String} {F0' : am_F} {q0 : am_C} {cs : List am_F} {ci : List am_C} (h : am_nt F0') (t : ∀ (a : Nat) (F : am_F) (q : am_C), cs[a]? = some F → ci[a]? = some q → (∃ av M E M', F av M = some (.inr E, M')) → am_CalT l dC dI ad cy R q F ∧ ∀ idx, (own, idx, q.1, RX9) ∉ am_nl) :
    ∀ (a : Nat) (F : am_F) (q : am_C), (F0' :: cs)[a]? = some F → (q0 :: ci)[a]? = some q → (∃ av M E M', F av M = some (.inr E, M')) → am_CalT l dC dI ad cy R q F ∧ ∀ idx, (own, idx, q.1, RX9) ∉ am_nl
  | 0, F, q, h1, h2, h3 => by cases h1; obtain ⟨av, M, E, M', h4⟩ := h3; exact absurd h4 (h av M E M')
  | a + 1, F, q, h1, h2, h3 => t a F q h1 h2 h3
theorem am_cT_T {l : Launch} {dC : Nat → ClassId} {dI ad : Nat → Nat → Nat} {cy : Nat → ClassId} {R : Room} {own : String} (ho : own = RX9 ∨ own = RL) {F0' : am_F} {q0 : am_C} {cs : List am_F} {ci : List am_C} (h : am_CalT l dC dI ad cy R q0 F0') (t : ∀ (a : Nat) (F : am_F) (q : am_C), cs[a]? = some F → ci[a]? = some q → (∃ av M E M', F av M = some (.inr E, M')) → am_CalT l dC dI ad cy R q F ∧ ∀ idx, (own, idx, q.1, RX9) ∉ am_nl) :
    ∀ (a : Nat) (F : am_F) (q : am_C), (F0' :: cs)[a]? = some F → (q0 :: ci)[a]? = some q → (∃ av M E M', F av M = some (.inr E, M')) → am_CalT l dC dI ad cy R q F ∧ ∀ idx, (own, idx, q.1, RX9) ∉ am_nl
  | 0, F, q, h1, h2, h3 => by
    cases h1; cases h2
    refine ⟨h, fun idx hm => ?_⟩
    have := am_nl9 _ hm
    rcases ho with e | e
    · exact this.1 e
    · exact this.2 e
  | a + 1, F, q, h1, h2, h3 => t a F q h1 h2 h3
theorem okTX9_demandArgument {l : Launch} {dC : Nat → ClassId} {dI ad : Nat → Nat → Nat} {cy : Nat → ClassId} (htr : l.stackTraces = false) : am_OkT l dC dI ad cy yX9_demandArgument (.code yX9_demandArgument cX9_demandArgument 1 none) rmX9_demandArgument fX9_demandArgument :=
  am_demT (E := "java/lang/IllegalArgumentException") (ik := 421) (ic := 423) htr (by decide) rfl (by decide) (by decide +kernel) (by decide +kernel) (by decide +kernel) (by decide +kernel) (by decide +kernel) (by decide +kernel) (by decide +kernel) (am_inU 612 (by decide +kernel) (by decide +kernel)) (am_inU 70 (by decide +kernel) (by decide +kernel)) (am_split (by decide +kernel)) (by decide +kernel) (by decide) (by decide) (fun av M E2 M2 h => by
    unfold fX9_demandArgument at h
    split at h
    · split at h
      · rename_i hx
        cases h
        rw [hx]
        exact ⟨rfl, rfl, rfl⟩
      · cases h
    · cases h)
theorem calTX9_demandArgument {l : Launch} {dC : Nat → ClassId} {dI ad : Nat → Nat → Nat} {cy : Nat → ClassId} {R : Room} (htr : l.stackTraces = false) (h1 : rmX9_demandArgument.frames + 1 ≤ R.frames) (h2 : 8 + (1 + 11) + rmX9_demandArgument.locals ≤ R.locals) : am_CalT l dC dI ad cy R cqX9_demandArgument fX9_demandArgument :=
  ⟨okTX9_demandArgument htr, am_inU 611 (by decide +kernel) (by decide +kernel), h1, h2, ⟨by decide, by decide, by decide +kernel⟩, trivial, _, _, rfl⟩
theorem okTX9_demandState {l : Launch} {dC : Nat → ClassId} {dI ad : Nat → Nat → Nat} {cy : Nat → ClassId} (htr : l.stackTraces = false) : am_OkT l dC dI ad cy yX9_demandState (.code yX9_demandState cX9_demandState 1 none) rmX9_demandState fX9_demandState :=
  am_demT (E := "java/lang/IllegalStateException") (ik := 424) (ic := 426) htr (by decide) rfl (by decide) (by decide +kernel) (by decide +kernel) (by decide +kernel) (by decide +kernel) (by decide +kernel) (by decide +kernel) (by decide +kernel) (am_inU 687 (by decide +kernel) (by decide +kernel)) (am_inU 71 (by decide +kernel) (by decide +kernel)) (am_split (by decide +kernel)) (by decide +kernel) (by decide) (by decide) (fun av M E2 M2 h => by
    unfold fX9_demandState at h
    split at h
    · split at h
      · rename_i hx
        cases h
        rw [hx]
        exact ⟨rfl, rfl, rfl⟩
      · cases h
    · cases h)
theorem calTX9_demandState {l : Launch} {dC : Nat → ClassId} {dI ad : Nat → Nat → Nat} {cy : Nat → ClassId} {R : Room} (htr : l.stackTraces = false) (h1 : rmX9_demandState.frames + 1 ≤ R.frames) (h2 : 8 + (1 + 11) + rmX9_demandState.locals ≤ R.locals) : am_CalT l dC dI ad cy R cqX9_demandState fX9_demandState :=
  ⟨okTX9_demandState htr, am_inU 686 (by decide +kernel) (by decide +kernel), h1, h2, ⟨by decide, by decide, by decide +kernel⟩, trivial, _, _, rfl⟩
theorem okTX9_demandElement {l : Launch} {dC : Nat → ClassId} {dI ad : Nat → Nat → Nat} {cy : Nat → ClassId} (htr : l.stackTraces = false) : am_OkT l dC dI ad cy yX9_demandElement (.code yX9_demandElement cX9_demandElement 1 none) rmX9_demandElement fX9_demandElement :=
  am_demT (E := "java/util/NoSuchElementException") (ik := 427) (ic := 429) htr (by decide) rfl (by decide) (by decide +kernel) (by decide +kernel) (by decide +kernel) (by decide +kernel) (by decide +kernel) (by decide +kernel) (by decide +kernel) (am_inU 789 (by decide +kernel) (by decide +kernel)) (am_inU 72 (by decide +kernel) (by decide +kernel)) (am_split (by decide +kernel)) (by decide +kernel) (by decide) (by decide) (fun av M E2 M2 h => by
    unfold fX9_demandElement at h
    split at h
    · split at h
      · rename_i hx
        cases h
        rw [hx]
        exact ⟨rfl, rfl, rfl⟩
      · cases h
    · cases h)
theorem calTX9_demandElement {l : Launch} {dC : Nat → ClassId} {dI ad : Nat → Nat → Nat} {cy : Nat → ClassId} {R : Room} (htr : l.stackTraces = false) (h1 : rmX9_demandElement.frames + 1 ≤ R.frames) (h2 : 8 + (1 + 11) + rmX9_demandElement.locals ≤ R.locals) : am_CalT l dC dI ad cy R cqX9_demandElement fX9_demandElement :=
  ⟨okTX9_demandElement htr, am_inU 788 (by decide +kernel) (by decide +kernel), h1, h2, ⟨by decide, by decide, by decide +kernel⟩, trivial, _, _, rfl⟩
theorem okTX9_demandIndex {l : Launch} {dC : Nat → ClassId} {dI ad : Nat → Nat → Nat} {cy : Nat → ClassId} (htr : l.stackTraces = false) : am_OkT l dC dI ad cy yX9_demandIndex (.code yX9_demandIndex cX9_demandIndex 1 none) rmX9_demandIndex fX9_demandIndex :=
  am_demT (E := "java/lang/IndexOutOfBoundsException") (ik := 430) (ic := 432) htr (by decide) rfl (by decide) (by decide +kernel) (by decide +kernel) (by decide +kernel) (by decide +kernel) (by decide +kernel) (by decide +kernel) (by decide +kernel) (am_inU 898 (by decide +kernel) (by decide +kernel)) (am_inU 74 (by decide +kernel) (by decide +kernel)) (am_split (by decide +kernel)) (by decide +kernel) (by decide) (by decide) (fun av M E2 M2 h => by
    unfold fX9_demandIndex at h
    split at h
    · split at h
      · rename_i hx
        cases h
        rw [hx]
        exact ⟨rfl, rfl, rfl⟩
      · cases h
    · cases h)
theorem calTX9_demandIndex {l : Launch} {dC : Nat → ClassId} {dI ad : Nat → Nat → Nat} {cy : Nat → ClassId} {R : Room} (htr : l.stackTraces = false) (h1 : rmX9_demandIndex.frames + 1 ≤ R.frames) (h2 : 8 + (1 + 11) + rmX9_demandIndex.locals ≤ R.locals) : am_CalT l dC dI ad cy R cqX9_demandIndex fX9_demandIndex :=
  ⟨okTX9_demandIndex htr, am_inU 897 (by decide +kernel) (by decide +kernel), h1, h2, ⟨by decide, by decide, by decide +kernel⟩, trivial, _, _, rfl⟩
theorem okTX9_define {l : Launch} {dC : Nat → ClassId} {dI ad : Nat → Nat → Nat} {cy : Nat → ClassId} (htr : l.stackTraces = false) : am_OkT l dC dI ad cy yX9_define (.code yX9_define cX9_define 5 none) rmX9_define fX9_define :=
  am_meth_okT (ci := [cqX9_isWithin, cqX6_accepts, cqX9_demandArgument, cqX9_isOrdered, cqX9_demandState]) (by decide) rfl (am_rows_of (by decide +kernel) (am_words_of [380, 56, 379, 603, 59, 602, 610, 56, 609, 676, 678, 19, 56, 685, 56, 684, 311, 164, 170] (by decide +kernel) (by decide +kernel))) (am_cs_cons (calX9_isWithin (by decide) (by decide)) (am_cs_cons (calX6_accepts (by decide) (by decide)) (am_cs_cons (calX9_demandArgument (by decide) (by decide)) (am_cs_cons (calX9_isOrdered (by decide) (by decide)) (am_cs_cons (calX9_demandState (by decide) (by decide)) am_cs_nil))))) (am_cT_nt ntX9_isWithin (am_cT_nt ntX6_accepts (am_cT_T (Or.inl rfl) (calTX9_demandArgument htr (by decide) (by decide)) (am_cT_nt ntX9_isOrdered (am_cT_T (Or.inl rfl) (calTX9_demandState htr (by decide) (by decide)) am_cT_nil))))) (am_cv_of (by decide +kernel))
theorem calTX9_define {l : Launch} {dC : Nat → ClassId} {dI ad : Nat → Nat → Nat} {cy : Nat → ClassId} {R : Room} (htr : l.stackTraces = false) (h1 : rmX9_define.frames + 1 ≤ R.frames) (h2 : 8 + (5 + 11) + rmX9_define.locals ≤ R.locals) : am_CalT l dC dI ad cy R cqX9_define fX9_define :=
  ⟨okTX9_define htr, am_inU 601 (by decide +kernel) (by decide +kernel), h1, h2, ⟨by decide, by decide, by decide +kernel⟩, ⟨by decide, rfl⟩, _, _, rfl⟩
theorem okTX9_curve {l : Launch} {dC : Nat → ClassId} {dI ad : Nat → Nat → Nat} {cy : Nat → ClassId} (htr : l.stackTraces = false) : am_OkT l dC dI ad cy yX9_curve (.code yX9_curve cX9_curve 5 (some .int)) rmX9_curve fX9_curve :=
  am_meth_okT (ci := [cqX9_isWithin, cqX0_accepts, cqX9_demandArgument, cqX9_isOrdered, cqX0_takes, cqX9_demandState, cqX0_add]) (by decide) rfl (am_rows_of (by decide +kernel) (am_words_of [380, 56, 379, 710, 60, 709, 710, 60, 709, 610, 56, 609, 311, 676, 678, 19, 56, 166, 715, 716, 717, 60, 685, 56, 684, 166, 719, 720, 721, 60, 170, 166, 141] (by decide +kernel) (by decide +kernel))) (am_cs_cons (calX9_isWithin (by decide) (by decide)) (am_cs_cons (calX0_accepts (by decide) (by decide)) (am_cs_cons (calX9_demandArgument (by decide) (by decide)) (am_cs_cons (calX9_isOrdered (by decide) (by decide)) (am_cs_cons (calX0_takes (by decide) (by decide)) (am_cs_cons (calX9_demandState (by decide) (by decide)) (am_cs_cons (calX0_add (by decide) (by decide)) am_cs_nil))))))) (am_cT_nt ntX9_isWithin (am_cT_nt ntX0_accepts (am_cT_T (Or.inl rfl) (calTX9_demandArgument htr (by decide) (by decide)) (am_cT_nt ntX9_isOrdered (am_cT_nt ntX0_takes (am_cT_T (Or.inl rfl) (calTX9_demandState htr (by decide) (by decide)) (am_cT_nt ntX0_add am_cT_nil))))))) (am_cv_of (by decide +kernel))
theorem calTX9_curve {l : Launch} {dC : Nat → ClassId} {dI ad : Nat → Nat → Nat} {cy : Nat → ClassId} {R : Room} (htr : l.stackTraces = false) (h1 : rmX9_curve.frames + 1 ≤ R.frames) (h2 : 8 + (5 + 11) + rmX9_curve.locals ≤ R.locals) : am_CalT l dC dI ad cy R cqX9_curve fX9_curve :=
  ⟨okTX9_curve htr, am_inU 708 (by decide +kernel) (by decide +kernel), h1, h2, ⟨by decide, by decide, by decide +kernel⟩, ⟨by decide, rfl⟩, _, _, rfl⟩
theorem okTX9_seal {l : Launch} {dC : Nat → ClassId} {dI ad : Nat → Nat → Nat} {cy : Nat → ClassId} (htr : l.stackTraces = false) : am_OkT l dC dI ad cy yX9_seal (.code yX9_seal cX9_seal 3 (some .boolean)) rmX9_seal fX9_seal :=
  am_meth_okT (ci := [cqX9_isWithin, cqX9_demandArgument, cqX6_isComplete]) (by decide) rfl (am_rows_of (by decide +kernel) (am_words_of [380, 56, 379, 610, 56, 609, 311, 730, 731, 732, 59, 170, 170] (by decide +kernel) (by decide +kernel))) (am_cs_cons (calX9_isWithin (by decide) (by decide)) (am_cs_cons (calX9_demandArgument (by decide) (by decide)) (am_cs_cons (calX6_isComplete (by decide) (by decide)) am_cs_nil))) (am_cT_nt ntX9_isWithin (am_cT_T (Or.inl rfl) (calTX9_demandArgument htr (by decide) (by decide)) (am_cT_nt ntX6_isComplete am_cT_nil))) (am_cv_of (by decide +kernel))
theorem calTX9_seal {l : Launch} {dC : Nat → ClassId} {dI ad : Nat → Nat → Nat} {cy : Nat → ClassId} {R : Room} (htr : l.stackTraces = false) (h1 : rmX9_seal.frames + 1 ≤ R.frames) (h2 : 8 + (3 + 11) + rmX9_seal.locals ≤ R.locals) : am_CalT l dC dI ad cy R cqX9_seal fX9_seal :=
  ⟨okTX9_seal htr, am_inU 729 (by decide +kernel) (by decide +kernel), h1, h2, ⟨by decide, by decide, by decide +kernel⟩, ⟨by decide, rfl⟩, _, _, rfl⟩
theorem okTX9_rack {l : Launch} {dC : Nat → ClassId} {dI ad : Nat → Nat → Nat} {cy : Nat → ClassId} (htr : l.stackTraces = false) : am_OkT l dC dI ad cy yX9_rack (.code yX9_rack cX9_rack 5 none) rmX9_rack fX9_rack :=
  am_meth_okT (ci := [cqX9_isWithin, cqX9_demandArgument, cqX8_isEmpty, cqX9_slotOf, cqX9_demandState, cqX8_fill]) (by decide) rfl (am_rows_of (by decide +kernel) (am_words_of [380, 56, 379, 768, 380, 56, 379, 610, 56, 609, 380, 56, 379, 769, 380, 56, 379, 610, 56, 609, 312, 770, 771, 772, 62, 516, 518, 11, 56, 685, 56, 684, 312, 774, 775, 776, 62] (by decide +kernel) (by decide +kernel))) (am_cs_cons (calX9_isWithin (by decide) (by decide)) (am_cs_cons (calX9_demandArgument (by decide) (by decide)) (am_cs_cons (calX8_isEmpty (by decide) (by decide)) (am_cs_cons (calX9_slotOf (by decide) (by decide)) (am_cs_cons (calX9_demandState (by decide) (by decide)) (am_cs_cons (calX8_fill (by decide) (by decide)) am_cs_nil)))))) (am_cT_nt ntX9_isWithin (am_cT_T (Or.inl rfl) (calTX9_demandArgument htr (by decide) (by decide)) (am_cT_nt ntX8_isEmpty (am_cT_nt ntX9_slotOf (am_cT_T (Or.inl rfl) (calTX9_demandState htr (by decide) (by decide)) (am_cT_nt ntX8_fill am_cT_nil)))))) (am_cv_of (by decide +kernel))
theorem calTX9_rack {l : Launch} {dC : Nat → ClassId} {dI ad : Nat → Nat → Nat} {cy : Nat → ClassId} {R : Room} (htr : l.stackTraces = false) (h1 : rmX9_rack.frames + 1 ≤ R.frames) (h2 : 8 + (5 + 11) + rmX9_rack.locals ≤ R.locals) : am_CalT l dC dI ad cy R cqX9_rack fX9_rack :=
  ⟨okTX9_rack htr, am_inU 767 (by decide +kernel) (by decide +kernel), h1, h2, ⟨by decide, by decide, by decide +kernel⟩, ⟨by decide, rfl⟩, _, _, rfl⟩
theorem okTX9_removeRack {l : Launch} {dC : Nat → ClassId} {dI ad : Nat → Nat → Nat} {cy : Nat → ClassId} (htr : l.stackTraces = false) : am_OkT l dC dI ad cy yX9_removeRack (.code yX9_removeRack cX9_removeRack 2 (some .int)) rmX9_removeRack fX9_removeRack :=
  am_meth_okT (ci := [cqX9_isWithin, cqX9_demandArgument, cqX8_isEmpty, cqX9_demandElement, cqX9_isAwaited, cqX9_demandState]) (by decide) rfl (am_rows_of (by decide +kernel) (am_words_of [380, 56, 379, 610, 56, 609, 312, 770, 771, 772, 62, 787, 56, 786, 312, 186, 804, 806, 25, 56, 685, 56, 684, 312, 186, 312, 190] (by decide +kernel) (by decide +kernel))) (am_cs_cons (calX9_isWithin (by decide) (by decide)) (am_cs_cons (calX9_demandArgument (by decide) (by decide)) (am_cs_cons (calX8_isEmpty (by decide) (by decide)) (am_cs_cons (calX9_demandElement (by decide) (by decide)) (am_cs_cons (calX9_isAwaited (by decide) (by decide)) (am_cs_cons (calX9_demandState (by decide) (by decide)) am_cs_nil)))))) (am_cT_nt ntX9_isWithin (am_cT_T (Or.inl rfl) (calTX9_demandArgument htr (by decide) (by decide)) (am_cT_nt ntX8_isEmpty (am_cT_T (Or.inl rfl) (calTX9_demandElement htr (by decide) (by decide)) (am_cT_nt ntX9_isAwaited (am_cT_T (Or.inl rfl) (calTX9_demandState htr (by decide) (by decide)) am_cT_nil)))))) (am_cv_of (by decide +kernel))
theorem calTX9_removeRack {l : Launch} {dC : Nat → ClassId} {dI ad : Nat → Nat → Nat} {cy : Nat → ClassId} {R : Room} (htr : l.stackTraces = false) (h1 : rmX9_removeRack.frames + 1 ≤ R.frames) (h2 : 8 + (2 + 11) + rmX9_removeRack.locals ≤ R.locals) : am_CalT l dC dI ad cy R cqX9_removeRack fX9_removeRack :=
  ⟨okTX9_removeRack htr, am_inU 785 (by decide +kernel) (by decide +kernel), h1, h2, ⟨by decide, by decide, by decide +kernel⟩, ⟨by decide, rfl⟩, _, _, rfl⟩
theorem okTX9_reagent {l : Launch} {dC : Nat → ClassId} {dI ad : Nat → Nat → Nat} {cy : Nat → ClassId} (htr : l.stackTraces = false) : am_OkT l dC dI ad cy yX9_reagent (.code yX9_reagent cX9_reagent 5 none) rmX9_reagent fX9_reagent :=
  am_meth_okT (ci := [cqX9_isWithin, cqX9_demandArgument, cqX9_demandState, cqX5_fill]) (by decide) rfl (am_rows_of (by decide +kernel) (am_words_of [380, 56, 379, 380, 56, 379, 610, 56, 609, 769, 380, 56, 379, 610, 56, 609, 313, 207, 685, 56, 684, 313, 815, 816, 817, 63] (by decide +kernel) (by decide +kernel))) (am_cs_cons (calX9_isWithin (by decide) (by decide)) (am_cs_cons (calX9_demandArgument (by decide) (by decide)) (am_cs_cons (calX9_demandState (by decide) (by decide)) (am_cs_cons (calX5_fill (by decide) (by decide)) am_cs_nil)))) (am_cT_nt ntX9_isWithin (am_cT_T (Or.inl rfl) (calTX9_demandArgument htr (by decide) (by decide)) (am_cT_T (Or.inl rfl) (calTX9_demandState htr (by decide) (by decide)) (am_cT_nt ntX5_fill am_cT_nil)))) (am_cv_of (by decide +kernel))
theorem calTX9_reagent {l : Launch} {dC : Nat → ClassId} {dI ad : Nat → Nat → Nat} {cy : Nat → ClassId} {R : Room} (htr : l.stackTraces = false) (h1 : rmX9_reagent.frames + 1 ≤ R.frames) (h2 : 8 + (5 + 11) + rmX9_reagent.locals ≤ R.locals) : am_CalT l dC dI ad cy R cqX9_reagent fX9_reagent :=
  ⟨okTX9_reagent htr, am_inU 814 (by decide +kernel) (by decide +kernel), h1, h2, ⟨by decide, by decide, by decide +kernel⟩, ⟨by decide, rfl⟩, _, _, rfl⟩
theorem okTX9_forbid {l : Launch} {dC : Nat → ClassId} {dI ad : Nat → Nat → Nat} {cy : Nat → ClassId} (htr : l.stackTraces = false) : am_OkT l dC dI ad cy yX9_forbid (.code yX9_forbid cX9_forbid 3 (some .boolean)) rmX9_forbid fX9_forbid :=
  am_meth_okT (ci := [cqX9_isWithin, cqX9_demandArgument, cqX7_turnSuccession]) (by decide) rfl (am_rows_of (by decide +kernel) (am_words_of [380, 56, 379, 380, 56, 379, 610, 56, 609, 316, 826, 827, 828, 57] (by decide +kernel) (by decide +kernel))) (am_cs_cons (calX9_isWithin (by decide) (by decide)) (am_cs_cons (calX9_demandArgument (by decide) (by decide)) (am_cs_cons (calX7_turnSuccession (by decide) (by decide)) am_cs_nil))) (am_cT_nt ntX9_isWithin (am_cT_T (Or.inl rfl) (calTX9_demandArgument htr (by decide) (by decide)) (am_cT_nt ntX7_turnSuccession am_cT_nil))) (am_cv_of (by decide +kernel))
theorem calTX9_forbid {l : Launch} {dC : Nat → ClassId} {dI ad : Nat → Nat → Nat} {cy : Nat → ClassId} {R : Room} (htr : l.stackTraces = false) (h1 : rmX9_forbid.frames + 1 ≤ R.frames) (h2 : 8 + (3 + 11) + rmX9_forbid.locals ≤ R.locals) : am_CalT l dC dI ad cy R cqX9_forbid fX9_forbid :=
  ⟨okTX9_forbid htr, am_inU 825 (by decide +kernel) (by decide +kernel), h1, h2, ⟨by decide, by decide, by decide +kernel⟩, ⟨by decide, rfl⟩, _, _, rfl⟩
theorem okTX9_order {l : Launch} {dC : Nat → ClassId} {dI ad : Nat → Nat → Nat} {cy : Nat → ClassId} (htr : l.stackTraces = false) : am_OkT l dC dI ad cy yX9_order (.code yX9_order cX9_order 5 (some .int)) rmX9_order fX9_order :=
  am_meth_okT (ci := [cqX9_isWithin, cqX9_demandArgument, cqX9_demandState, cqX4_place]) (by decide) rfl (am_rows_of (by decide +kernel) (am_words_of [768, 380, 56, 379, 380, 56, 379, 610, 56, 609, 311, 170, 318, 685, 56, 684, 318, 315, 837, 838, 839, 65, 318] (by decide +kernel) (by decide +kernel))) (am_cs_cons (calX9_isWithin (by decide) (by decide)) (am_cs_cons (calX9_demandArgument (by decide) (by decide)) (am_cs_cons (calX9_demandState (by decide) (by decide)) (am_cs_cons (calX4_place (by decide) (by decide)) am_cs_nil)))) (am_cT_nt ntX9_isWithin (am_cT_T (Or.inl rfl) (calTX9_demandArgument htr (by decide) (by decide)) (am_cT_T (Or.inl rfl) (calTX9_demandState htr (by decide) (by decide)) (am_cT_nt ntX4_place am_cT_nil)))) (am_cv_of (by decide +kernel))
theorem calTX9_order {l : Launch} {dC : Nat → ClassId} {dI ad : Nat → Nat → Nat} {cy : Nat → ClassId} {R : Room} (htr : l.stackTraces = false) (h1 : rmX9_order.frames + 1 ≤ R.frames) (h2 : 8 + (5 + 11) + rmX9_order.locals ≤ R.locals) : am_CalT l dC dI ad cy R cqX9_order fX9_order :=
  ⟨okTX9_order htr, am_inU 836 (by decide +kernel) (by decide +kernel), h1, h2, ⟨by decide, by decide, by decide +kernel⟩, ⟨by decide, rfl⟩, _, _, rfl⟩
theorem okTX9_clock {l : Launch} {dC : Nat → ClassId} {dI ad : Nat → Nat → Nat} {cy : Nat → ClassId} (htr : l.stackTraces = false) : am_OkT l dC dI ad cy yX9_clock (.code yX9_clock cX9_clock 2 none) rmX9_clock fX9_clock :=
  am_meth_okT (ci := [cqX9_demandArgument]) (by decide) rfl (am_rows_of (by decide +kernel) (am_words_of [319, 610, 56, 609, 319] (by decide +kernel) (by decide +kernel))) (am_cs_cons (calX9_demandArgument (by decide) (by decide)) am_cs_nil) (am_cT_T (Or.inl rfl) (calTX9_demandArgument htr (by decide) (by decide)) am_cT_nil) (am_cv_of (by decide +kernel))
theorem calTX9_clock {l : Launch} {dC : Nat → ClassId} {dI ad : Nat → Nat → Nat} {cy : Nat → ClassId} {R : Room} (htr : l.stackTraces = false) (h1 : rmX9_clock.frames + 1 ≤ R.frames) (h2 : 8 + (2 + 11) + rmX9_clock.locals ≤ R.locals) : am_CalT l dC dI ad cy R cqX9_clock fX9_clock :=
  ⟨okTX9_clock htr, am_inU 847 (by decide +kernel) (by decide +kernel), h1, h2, ⟨by decide, by decide, by decide +kernel⟩, ⟨by decide, rfl⟩, _, _, rfl⟩
theorem okTX9_light {l : Launch} {dC : Nat → ClassId} {dI ad : Nat → Nat → Nat} {cy : Nat → ClassId} (htr : l.stackTraces = false) : am_OkT l dC dI ad cy yX9_light (.code yX9_light cX9_light 2 none) rmX9_light fX9_light :=
  am_meth_okT (ci := [cqX9_isWithin, cqX9_demandArgument]) (by decide) rfl (am_rows_of (by decide +kernel) (am_words_of [126, 380, 56, 379, 610, 56, 609, 320] (by decide +kernel) (by decide +kernel))) (am_cs_cons (calX9_isWithin (by decide) (by decide)) (am_cs_cons (calX9_demandArgument (by decide) (by decide)) am_cs_nil)) (am_cT_nt ntX9_isWithin (am_cT_T (Or.inl rfl) (calTX9_demandArgument htr (by decide) (by decide)) am_cT_nil)) (am_cv_of (by decide +kernel))
theorem calTX9_light {l : Launch} {dC : Nat → ClassId} {dI ad : Nat → Nat → Nat} {cy : Nat → ClassId} {R : Room} (htr : l.stackTraces = false) (h1 : rmX9_light.frames + 1 ≤ R.frames) (h2 : 8 + (2 + 11) + rmX9_light.locals ≤ R.locals) : am_CalT l dC dI ad cy R cqX9_light fX9_light :=
  ⟨okTX9_light htr, am_inU 854 (by decide +kernel) (by decide +kernel), h1, h2, ⟨by decide, by decide, by decide +kernel⟩, ⟨by decide, rfl⟩, _, _, rfl⟩
theorem okTX9_spoil {l : Launch} {dC : Nat → ClassId} {dI ad : Nat → Nat → Nat} {cy : Nat → ClassId} (htr : l.stackTraces = false) : am_OkT l dC dI ad cy yX9_spoil (.code yX9_spoil cX9_spoil 2 none) rmX9_spoil fX9_spoil :=
  am_meth_okT (ci := [cqX9_isWithin, cqX9_demandArgument]) (by decide) rfl (am_rows_of (by decide +kernel) (am_words_of [380, 56, 379, 610, 56, 609, 321, 322] (by decide +kernel) (by decide +kernel))) (am_cs_cons (calX9_isWithin (by decide) (by decide)) (am_cs_cons (calX9_demandArgument (by decide) (by decide)) am_cs_nil)) (am_cT_nt ntX9_isWithin (am_cT_T (Or.inl rfl) (calTX9_demandArgument htr (by decide) (by decide)) am_cT_nil)) (am_cv_of (by decide +kernel))
theorem calTX9_spoil {l : Launch} {dC : Nat → ClassId} {dI ad : Nat → Nat → Nat} {cy : Nat → ClassId} {R : Room} (htr : l.stackTraces = false) (h1 : rmX9_spoil.frames + 1 ≤ R.frames) (h2 : 8 + (2 + 11) + rmX9_spoil.locals ≤ R.locals) : am_CalT l dC dI ad cy R cqX9_spoil fX9_spoil :=
  ⟨okTX9_spoil htr, am_inU 861 (by decide +kernel) (by decide +kernel), h1, h2, ⟨by decide, by decide, by decide +kernel⟩, ⟨by decide, rfl⟩, _, _, rfl⟩
theorem okTX9_state {l : Launch} {dC : Nat → ClassId} {dI ad : Nat → Nat → Nat} {cy : Nat → ClassId} (htr : l.stackTraces = false) : am_OkT l dC dI ad cy yX9_state (.code yX9_state cX9_state 5 (some .int)) rmX9_state fX9_state :=
  am_meth_okT (ci := [cqX9_isWithin, cqX9_demandArgument, cqX9_cuvetteOf]) (by decide) rfl (am_rows_of (by decide +kernel) (am_words_of [318, 380, 56, 379, 380, 56, 379, 610, 56, 609, 315, 420, 422, 6, 56, 277, 279, 281, 285, 239, 287, 289] (by decide +kernel) (by decide +kernel))) (am_cs_cons (calX9_isWithin (by decide) (by decide)) (am_cs_cons (calX9_demandArgument (by decide) (by decide)) (am_cs_cons (calX9_cuvetteOf (by decide) (by decide)) am_cs_nil))) (am_cT_nt ntX9_isWithin (am_cT_T (Or.inl rfl) (calTX9_demandArgument htr (by decide) (by decide)) (am_cT_nt ntX9_cuvetteOf am_cT_nil))) (am_cv_of (by decide +kernel))
theorem calTX9_state {l : Launch} {dC : Nat → ClassId} {dI ad : Nat → Nat → Nat} {cy : Nat → ClassId} {R : Room} (htr : l.stackTraces = false) (h1 : rmX9_state.frames + 1 ≤ R.frames) (h2 : 8 + (5 + 11) + rmX9_state.locals ≤ R.locals) : am_CalT l dC dI ad cy R cqX9_state fX9_state :=
  ⟨okTX9_state htr, am_inU 868 (by decide +kernel) (by decide +kernel), h1, h2, ⟨by decide, by decide, by decide +kernel⟩, ⟨by decide, rfl⟩, _, _, rfl⟩
theorem okTX9_cuvette {l : Launch} {dC : Nat → ClassId} {dI ad : Nat → Nat → Nat} {cy : Nat → ClassId} (htr : l.stackTraces = false) : am_OkT l dC dI ad cy yX9_cuvette (.code yX9_cuvette cX9_cuvette 4 (some .int)) rmX9_cuvette fX9_cuvette :=
  am_meth_okT (ci := [cqX9_isWithin, cqX9_demandArgument]) (by decide) rfl (am_rows_of (by decide +kernel) (am_words_of [380, 56, 379, 380, 56, 379, 610, 56, 609, 314, 235, 241, 243] (by decide +kernel) (by decide +kernel))) (am_cs_cons (calX9_isWithin (by decide) (by decide)) (am_cs_cons (calX9_demandArgument (by decide) (by decide)) am_cs_nil)) (am_cT_nt ntX9_isWithin (am_cT_T (Or.inl rfl) (calTX9_demandArgument htr (by decide) (by decide)) am_cT_nil)) (am_cv_of (by decide +kernel))
theorem calTX9_cuvette {l : Launch} {dC : Nat → ClassId} {dI ad : Nat → Nat → Nat} {cy : Nat → ClassId} {R : Room} (htr : l.stackTraces = false) (h1 : rmX9_cuvette.frames + 1 ≤ R.frames) (h2 : 8 + (4 + 11) + rmX9_cuvette.locals ≤ R.locals) : am_CalT l dC dI ad cy R cqX9_cuvette fX9_cuvette :=
  ⟨okTX9_cuvette htr, am_inU 875 (by decide +kernel) (by decide +kernel), h1, h2, ⟨by decide, by decide, by decide +kernel⟩, ⟨by decide, rfl⟩, _, _, rfl⟩
theorem okTX9_volume {l : Launch} {dC : Nat → ClassId} {dI ad : Nat → Nat → Nat} {cy : Nat → ClassId} (htr : l.stackTraces = false) : am_OkT l dC dI ad cy yX9_volume (.code yX9_volume cX9_volume 3 (some .int)) rmX9_volume fX9_volume :=
  am_meth_okT (ci := [cqX9_isWithin, cqX9_demandArgument, cqX8_isEmpty, cqX9_demandElement, cqX5_isEmpty]) (by decide) rfl (am_rows_of (by decide +kernel) (am_words_of [380, 56, 379, 380, 56, 379, 610, 56, 609, 312, 770, 771, 772, 62, 787, 56, 786, 312, 190, 313, 883, 884, 885, 63, 787, 56, 786, 313, 205, 313, 207] (by decide +kernel) (by decide +kernel))) (am_cs_cons (calX9_isWithin (by decide) (by decide)) (am_cs_cons (calX9_demandArgument (by decide) (by decide)) (am_cs_cons (calX8_isEmpty (by decide) (by decide)) (am_cs_cons (calX9_demandElement (by decide) (by decide)) (am_cs_cons (calX5_isEmpty (by decide) (by decide)) am_cs_nil))))) (am_cT_nt ntX9_isWithin (am_cT_T (Or.inl rfl) (calTX9_demandArgument htr (by decide) (by decide)) (am_cT_nt ntX8_isEmpty (am_cT_T (Or.inl rfl) (calTX9_demandElement htr (by decide) (by decide)) (am_cT_nt ntX5_isEmpty am_cT_nil))))) (am_cv_of (by decide +kernel))
theorem calTX9_volume {l : Launch} {dC : Nat → ClassId} {dI ad : Nat → Nat → Nat} {cy : Nat → ClassId} {R : Room} (htr : l.stackTraces = false) (h1 : rmX9_volume.frames + 1 ≤ R.frames) (h2 : 8 + (3 + 11) + rmX9_volume.locals ≤ R.locals) : am_CalT l dC dI ad cy R cqX9_volume fX9_volume :=
  ⟨okTX9_volume htr, am_inU 882 (by decide +kernel) (by decide +kernel), h1, h2, ⟨by decide, by decide, by decide +kernel⟩, ⟨by decide, rfl⟩, _, _, rfl⟩
theorem okTX9_trend {l : Launch} {dC : Nat → ClassId} {dI ad : Nat → Nat → Nat} {cy : Nat → ClassId} (htr : l.stackTraces = false) : am_OkT l dC dI ad cy yX9_trend (.code yX9_trend cX9_trend 4 (some .int)) rmX9_trend fX9_trend :=
  am_meth_okT (ci := [cqX9_isWithin, cqX9_demandArgument, cqX9_demandIndex, cqX2_fromLatest]) (by decide) rfl (am_rows_of (by decide +kernel) (am_words_of [380, 56, 379, 610, 56, 609, 311, 168, 157, 380, 56, 379, 896, 56, 895, 913, 914, 915, 61] (by decide +kernel) (by decide +kernel))) (am_cs_cons (calX9_isWithin (by decide) (by decide)) (am_cs_cons (calX9_demandArgument (by decide) (by decide)) (am_cs_cons (calX9_demandIndex (by decide) (by decide)) (am_cs_cons (calX2_fromLatest (by decide) (by decide)) am_cs_nil)))) (am_cT_nt ntX9_isWithin (am_cT_T (Or.inl rfl) (calTX9_demandArgument htr (by decide) (by decide)) (am_cT_T (Or.inl rfl) (calTX9_demandIndex htr (by decide) (by decide)) (am_cT_nt ntX2_fromLatest am_cT_nil)))) (am_cv_of (by decide +kernel))
theorem calTX9_trend {l : Launch} {dC : Nat → ClassId} {dI ad : Nat → Nat → Nat} {cy : Nat → ClassId} {R : Room} (htr : l.stackTraces = false) (h1 : rmX9_trend.frames + 1 ≤ R.frames) (h2 : 8 + (4 + 11) + rmX9_trend.locals ≤ R.locals) : am_CalT l dC dI ad cy R cqX9_trend fX9_trend :=
  ⟨okTX9_trend htr, am_inU 894 (by decide +kernel) (by decide +kernel), h1, h2, ⟨by decide, by decide, by decide +kernel⟩, ⟨by decide, rfl⟩, _, _, rfl⟩
theorem okTX9_rules {l : Launch} {dC : Nat → ClassId} {dI ad : Nat → Nat → Nat} {cy : Nat → ClassId} (htr : l.stackTraces = false) : am_OkT l dC dI ad cy yX9_rules (.code yX9_rules cX9_rules 2 (some .int)) rmX9_rules fX9_rules :=
  am_meth_okT (ci := [cqX9_isWithin, cqX9_demandArgument, cqX6_brokenRules]) (by decide) rfl (am_rows_of (by decide +kernel) (am_words_of [380, 56, 379, 610, 56, 609, 311, 925, 926, 927, 59] (by decide +kernel) (by decide +kernel))) (am_cs_cons (calX9_isWithin (by decide) (by decide)) (am_cs_cons (calX9_demandArgument (by decide) (by decide)) (am_cs_cons (calX6_brokenRules (by decide) (by decide)) am_cs_nil))) (am_cT_nt ntX9_isWithin (am_cT_T (Or.inl rfl) (calTX9_demandArgument htr (by decide) (by decide)) (am_cT_nt ntX6_brokenRules am_cT_nil))) (am_cv_of (by decide +kernel))
theorem calTX9_rules {l : Launch} {dC : Nat → ClassId} {dI ad : Nat → Nat → Nat} {cy : Nat → ClassId} {R : Room} (htr : l.stackTraces = false) (h1 : rmX9_rules.frames + 1 ≤ R.frames) (h2 : 8 + (2 + 11) + rmX9_rules.locals ≤ R.locals) : am_CalT l dC dI ad cy R cqX9_rules fX9_rules :=
  ⟨okTX9_rules htr, am_inU 924 (by decide +kernel) (by decide +kernel), h1, h2, ⟨by decide, by decide, by decide +kernel⟩, ⟨by decide, rfl⟩, _, _, rfl⟩
theorem okTX9_host {l : Launch} {dC : Nat → ClassId} {dI ad : Nat → Nat → Nat} {cy : Nat → ClassId} (htr : l.stackTraces = false) : am_OkT l dC dI ad cy yX9_host (.code yX9_host cX9_host 2 (some .int)) rmX9_host fX9_host :=
  am_meth_okT (ci := [cqX9_isWithin, cqX9_demandIndex]) (by decide) rfl (am_rows_of (by decide +kernel) (am_words_of [317, 120, 380, 56, 379, 896, 56, 895, 317, 118] (by decide +kernel) (by decide +kernel))) (am_cs_cons (calX9_isWithin (by decide) (by decide)) (am_cs_cons (calX9_demandIndex (by decide) (by decide)) am_cs_nil)) (am_cT_nt ntX9_isWithin (am_cT_T (Or.inl rfl) (calTX9_demandIndex htr (by decide) (by decide)) am_cT_nil)) (am_cv_of (by decide +kernel))
theorem calTX9_host {l : Launch} {dC : Nat → ClassId} {dI ad : Nat → Nat → Nat} {cy : Nat → ClassId} {R : Room} (htr : l.stackTraces = false) (h1 : rmX9_host.frames + 1 ≤ R.frames) (h2 : 8 + (2 + 11) + rmX9_host.locals ≤ R.locals) : am_CalT l dC dI ad cy R cqX9_host fX9_host :=
  ⟨okTX9_host htr, am_inU 946 (by decide +kernel) (by decide +kernel), h1, h2, ⟨by decide, by decide, by decide +kernel⟩, ⟨by decide, rfl⟩, _, _, rfl⟩
theorem okTX9_took {l : Launch} {dC : Nat → ClassId} {dI ad : Nat → Nat → Nat} {cy : Nat → ClassId} (htr : l.stackTraces = false) : am_OkT l dC dI ad cy yX9_took (.code yX9_took cX9_took 2 (some .int)) rmX9_took fX9_took :=
  am_meth_okT (ci := [cqX9_isWithin, cqX9_demandArgument, cqX3_dropFirst]) (by decide) rfl (am_rows_of (by decide +kernel) (am_words_of [317, 120, 380, 56, 379, 610, 56, 609, 317, 954, 955, 956, 58, 317, 120] (by decide +kernel) (by decide +kernel))) (am_cs_cons (calX9_isWithin (by decide) (by decide)) (am_cs_cons (calX9_demandArgument (by decide) (by decide)) (am_cs_cons (calX3_dropFirst (by decide) (by decide)) am_cs_nil))) (am_cT_nt ntX9_isWithin (am_cT_T (Or.inl rfl) (calTX9_demandArgument htr (by decide) (by decide)) (am_cT_nt ntX3_dropFirst am_cT_nil))) (am_cv_of (by decide +kernel))
theorem calTX9_took {l : Launch} {dC : Nat → ClassId} {dI ad : Nat → Nat → Nat} {cy : Nat → ClassId} {R : Room} (htr : l.stackTraces = false) (h1 : rmX9_took.frames + 1 ≤ R.frames) (h2 : 8 + (2 + 11) + rmX9_took.locals ≤ R.locals) : am_CalT l dC dI ad cy R cqX9_took fX9_took :=
  ⟨okTX9_took htr, am_inU 953 (by decide +kernel) (by decide +kernel), h1, h2, ⟨by decide, by decide, by decide +kernel⟩, ⟨by decide, rfl⟩, _, _, rfl⟩
theorem am_mc {w : Cond} {L : List Cond} (h : w ∈ am_U) (tl : ∀ x ∈ L, x ∈ am_U) : ∀ x ∈ w :: L, x ∈ am_U := fun x hx => (List.mem_cons.mp hx).elim (fun e => e ▸ h) (tl x)
abbrev rmL_define : Room := { frames := 8, cells := 1, slots := 6, locals := 164 }
def cqL_define : am_C := (yL_define, .codeWith yL_define cL_define 5 (some .int) [(0, 7, 10, 13), (0, 7, 14, 15)], rmL_define, none, 4, 5)
theorem okL_define {l : Launch} {dC : Nat → ClassId} {dI ad : Nat → Nat → Nat} {cy : Nat → ClassId} (htr : l.stackTraces = false) : am_Ok l dC dI ad cy yL_define (.codeWith yL_define cL_define 5 (some .int) [(0, 7, 10, 13), (0, 7, 14, 15)]) rmL_define fL_define :=
  am_wrap_ok (ci := [cqX9_define]) (by decide) ⟨rfl, rfl⟩ (am_rows_of (by decide +kernel) (am_words_of [598, 599, 600, 56] (by decide +kernel) (by decide +kernel))) (am_cs_cons (calX9_define (by decide) (by decide)) am_cs_nil) (am_cT_T (Or.inr rfl) (calTX9_define htr (by decide) (by decide)) am_cT_nil) (am_cv_of (by decide +kernel)) (by decide +kernel) (am_mc (am_inU 596 (by decide +kernel) (by decide +kernel)) (am_mc (am_inU 597 (by decide +kernel) (by decide +kernel)) (fun _ h => nomatch h))) am_castE
theorem calL_define {l : Launch} {dC : Nat → ClassId} {dI ad : Nat → Nat → Nat} {cy : Nat → ClassId} {R : Room} (htr : l.stackTraces = false) (h1 : rmL_define.frames + 1 ≤ R.frames) (h2 : 8 + (5 + 11) + rmL_define.locals ≤ R.locals) : am_Cal l dC dI ad cy R 1 6 cqL_define fL_define :=
  ⟨okL_define htr, am_inU 595 (by decide +kernel) (by decide +kernel), Nat.le_refl _, Nat.le_refl _, h1, h2, ⟨by decide, by decide, by decide +kernel⟩, trivial, Or.inr ⟨rfl, _, _, _, rfl⟩⟩
abbrev rmL_curve : Room := { frames := 8, cells := 1, slots := 6, locals := 164 }
def cqL_curve : am_C := (yL_curve, .codeWith yL_curve cL_curve 6 (some .int) [(0, 12, 15, 13), (0, 12, 19, 15)], rmL_curve, none, 5, 6)
theorem okL_curve {l : Launch} {dC : Nat → ClassId} {dI ad : Nat → Nat → Nat} {cy : Nat → ClassId} (htr : l.stackTraces = false) : am_Ok l dC dI ad cy yL_curve (.codeWith yL_curve cL_curve 6 (some .int) [(0, 12, 15, 13), (0, 12, 19, 15)]) rmL_curve fL_curve :=
  am_wrap_ok (ci := [cqX9_curve]) (by decide) ⟨rfl, rfl⟩ (am_rows_of (by decide +kernel) (am_words_of [705, 706, 707, 56] (by decide +kernel) (by decide +kernel))) (am_cs_cons (calX9_curve (by decide) (by decide)) am_cs_nil) (am_cT_T (Or.inr rfl) (calTX9_curve htr (by decide) (by decide)) am_cT_nil) (am_cv_of (by decide +kernel)) (by decide +kernel) (am_mc (am_inU 596 (by decide +kernel) (by decide +kernel)) (am_mc (am_inU 597 (by decide +kernel) (by decide +kernel)) (fun _ h => nomatch h))) am_castE
theorem calL_curve {l : Launch} {dC : Nat → ClassId} {dI ad : Nat → Nat → Nat} {cy : Nat → ClassId} {R : Room} (htr : l.stackTraces = false) (h1 : rmL_curve.frames + 1 ≤ R.frames) (h2 : 8 + (6 + 11) + rmL_curve.locals ≤ R.locals) : am_Cal l dC dI ad cy R 1 6 cqL_curve fL_curve :=
  ⟨okL_curve htr, am_inU 704 (by decide +kernel) (by decide +kernel), Nat.le_refl _, Nat.le_refl _, h1, h2, ⟨by decide, by decide, by decide +kernel⟩, trivial, Or.inr ⟨rfl, _, _, _, rfl⟩⟩
abbrev rmL_seal : Room := { frames := 8, cells := 1, slots := 6, locals := 162 }
def cqL_seal : am_C := (yL_seal, .codeWith yL_seal cL_seal 4 (some .int) [(0, 16, 19, 13)], rmL_seal, none, 3, 4)
theorem okL_seal {l : Launch} {dC : Nat → ClassId} {dI ad : Nat → Nat → Nat} {cy : Nat → ClassId} (htr : l.stackTraces = false) : am_Ok l dC dI ad cy yL_seal (.codeWith yL_seal cL_seal 4 (some .int) [(0, 16, 19, 13)]) rmL_seal fL_seal :=
  am_wrap_ok (ci := [cqX9_seal]) (by decide) ⟨rfl, rfl⟩ (am_rows_of (by decide +kernel) (am_words_of [726, 727, 728, 56] (by decide +kernel) (by decide +kernel))) (am_cs_cons (calX9_seal (by decide) (by decide)) am_cs_nil) (am_cT_T (Or.inr rfl) (calTX9_seal htr (by decide) (by decide)) am_cT_nil) (am_cv_of (by decide +kernel)) (by decide +kernel) (am_mc (am_inU 596 (by decide +kernel) (by decide +kernel)) (fun _ h => nomatch h)) am_castE
theorem calL_seal {l : Launch} {dC : Nat → ClassId} {dI ad : Nat → Nat → Nat} {cy : Nat → ClassId} {R : Room} (htr : l.stackTraces = false) (h1 : rmL_seal.frames + 1 ≤ R.frames) (h2 : 8 + (4 + 11) + rmL_seal.locals ≤ R.locals) : am_Cal l dC dI ad cy R 1 6 cqL_seal fL_seal :=
  ⟨okL_seal htr, am_inU 725 (by decide +kernel) (by decide +kernel), Nat.le_refl _, Nat.le_refl _, h1, h2, ⟨by decide, by decide, by decide +kernel⟩, trivial, Or.inr ⟨rfl, _, _, _, rfl⟩⟩
abbrev rmL_rack : Room := { frames := 8, cells := 1, slots := 6, locals := 164 }
def cqL_rack : am_C := (yL_rack, .codeWith yL_rack cL_rack 6 (some .int) [(0, 9, 12, 13), (0, 9, 16, 15)], rmL_rack, none, 5, 6)
theorem okL_rack {l : Launch} {dC : Nat → ClassId} {dI ad : Nat → Nat → Nat} {cy : Nat → ClassId} (htr : l.stackTraces = false) : am_Ok l dC dI ad cy yL_rack (.codeWith yL_rack cL_rack 6 (some .int) [(0, 9, 12, 13), (0, 9, 16, 15)]) rmL_rack fL_rack :=
  am_wrap_ok (ci := [cqX9_rack]) (by decide) ⟨rfl, rfl⟩ (am_rows_of (by decide +kernel) (am_words_of [764, 765, 766, 56] (by decide +kernel) (by decide +kernel))) (am_cs_cons (calX9_rack (by decide) (by decide)) am_cs_nil) (am_cT_T (Or.inr rfl) (calTX9_rack htr (by decide) (by decide)) am_cT_nil) (am_cv_of (by decide +kernel)) (by decide +kernel) (am_mc (am_inU 596 (by decide +kernel) (by decide +kernel)) (am_mc (am_inU 597 (by decide +kernel) (by decide +kernel)) (fun _ h => nomatch h))) am_castE
theorem calL_rack {l : Launch} {dC : Nat → ClassId} {dI ad : Nat → Nat → Nat} {cy : Nat → ClassId} {R : Room} (htr : l.stackTraces = false) (h1 : rmL_rack.frames + 1 ≤ R.frames) (h2 : 8 + (6 + 11) + rmL_rack.locals ≤ R.locals) : am_Cal l dC dI ad cy R 1 6 cqL_rack fL_rack :=
  ⟨okL_rack htr, am_inU 763 (by decide +kernel) (by decide +kernel), Nat.le_refl _, Nat.le_refl _, h1, h2, ⟨by decide, by decide, by decide +kernel⟩, trivial, Or.inr ⟨rfl, _, _, _, rfl⟩⟩
abbrev rmL_removeRack : Room := { frames := 8, cells := 1, slots := 6, locals := 161 }
def cqL_removeRack : am_C := (yL_removeRack, .codeWith yL_removeRack cL_removeRack 4 (some .int) [(0, 9, 12, 13), (0, 9, 15, 33), (0, 9, 18, 15)], rmL_removeRack, none, 3, 4)
theorem okL_removeRack {l : Launch} {dC : Nat → ClassId} {dI ad : Nat → Nat → Nat} {cy : Nat → ClassId} (htr : l.stackTraces = false) : am_Ok l dC dI ad cy yL_removeRack (.codeWith yL_removeRack cL_removeRack 4 (some .int) [(0, 9, 12, 13), (0, 9, 15, 33), (0, 9, 18, 15)]) rmL_removeRack fL_removeRack :=
  am_wrap_ok (ci := [cqX9_removeRack]) (by decide) ⟨rfl, rfl⟩ (am_rows_of (by decide +kernel) (am_words_of [782, 783, 784, 56] (by decide +kernel) (by decide +kernel))) (am_cs_cons (calX9_removeRack (by decide) (by decide)) am_cs_nil) (am_cT_T (Or.inr rfl) (calTX9_removeRack htr (by decide) (by decide)) am_cT_nil) (am_cv_of (by decide +kernel)) (by decide +kernel) (am_mc (am_inU 596 (by decide +kernel) (by decide +kernel)) (am_mc (am_inU 781 (by decide +kernel) (by decide +kernel)) (am_mc (am_inU 597 (by decide +kernel) (by decide +kernel)) (fun _ h => nomatch h)))) am_castE
theorem calL_removeRack {l : Launch} {dC : Nat → ClassId} {dI ad : Nat → Nat → Nat} {cy : Nat → ClassId} {R : Room} (htr : l.stackTraces = false) (h1 : rmL_removeRack.frames + 1 ≤ R.frames) (h2 : 8 + (4 + 11) + rmL_removeRack.locals ≤ R.locals) : am_Cal l dC dI ad cy R 1 6 cqL_removeRack fL_removeRack :=
  ⟨okL_removeRack htr, am_inU 780 (by decide +kernel) (by decide +kernel), Nat.le_refl _, Nat.le_refl _, h1, h2, ⟨by decide, by decide, by decide +kernel⟩, trivial, Or.inr ⟨rfl, _, _, _, rfl⟩⟩
abbrev rmL_reagent : Room := { frames := 8, cells := 1, slots := 6, locals := 164 }
def cqL_reagent : am_C := (yL_reagent, .codeWith yL_reagent cL_reagent 6 (some .int) [(0, 9, 12, 13), (0, 9, 16, 15)], rmL_reagent, none, 5, 6)
theorem okL_reagent {l : Launch} {dC : Nat → ClassId} {dI ad : Nat → Nat → Nat} {cy : Nat → ClassId} (htr : l.stackTraces = false) : am_Ok l dC dI ad cy yL_reagent (.codeWith yL_reagent cL_reagent 6 (some .int) [(0, 9, 12, 13), (0, 9, 16, 15)]) rmL_reagent fL_reagent :=
  am_wrap_ok (ci := [cqX9_reagent]) (by decide) ⟨rfl, rfl⟩ (am_rows_of (by decide +kernel) (am_words_of [811, 812, 813, 56] (by decide +kernel) (by decide +kernel))) (am_cs_cons (calX9_reagent (by decide) (by decide)) am_cs_nil) (am_cT_T (Or.inr rfl) (calTX9_reagent htr (by decide) (by decide)) am_cT_nil) (am_cv_of (by decide +kernel)) (by decide +kernel) (am_mc (am_inU 596 (by decide +kernel) (by decide +kernel)) (am_mc (am_inU 597 (by decide +kernel) (by decide +kernel)) (fun _ h => nomatch h))) am_castE
theorem calL_reagent {l : Launch} {dC : Nat → ClassId} {dI ad : Nat → Nat → Nat} {cy : Nat → ClassId} {R : Room} (htr : l.stackTraces = false) (h1 : rmL_reagent.frames + 1 ≤ R.frames) (h2 : 8 + (6 + 11) + rmL_reagent.locals ≤ R.locals) : am_Cal l dC dI ad cy R 1 6 cqL_reagent fL_reagent :=
  ⟨okL_reagent htr, am_inU 810 (by decide +kernel) (by decide +kernel), Nat.le_refl _, Nat.le_refl _, h1, h2, ⟨by decide, by decide, by decide +kernel⟩, trivial, Or.inr ⟨rfl, _, _, _, rfl⟩⟩
abbrev rmL_forbid : Room := { frames := 8, cells := 1, slots := 6, locals := 162 }
def cqL_forbid : am_C := (yL_forbid, .codeWith yL_forbid cL_forbid 5 (some .int) [(0, 17, 20, 13)], rmL_forbid, none, 4, 5)
theorem okL_forbid {l : Launch} {dC : Nat → ClassId} {dI ad : Nat → Nat → Nat} {cy : Nat → ClassId} (htr : l.stackTraces = false) : am_Ok l dC dI ad cy yL_forbid (.codeWith yL_forbid cL_forbid 5 (some .int) [(0, 17, 20, 13)]) rmL_forbid fL_forbid :=
  am_wrap_ok (ci := [cqX9_forbid]) (by decide) ⟨rfl, rfl⟩ (am_rows_of (by decide +kernel) (am_words_of [822, 823, 824, 56] (by decide +kernel) (by decide +kernel))) (am_cs_cons (calX9_forbid (by decide) (by decide)) am_cs_nil) (am_cT_T (Or.inr rfl) (calTX9_forbid htr (by decide) (by decide)) am_cT_nil) (am_cv_of (by decide +kernel)) (by decide +kernel) (am_mc (am_inU 596 (by decide +kernel) (by decide +kernel)) (fun _ h => nomatch h)) am_castE
theorem calL_forbid {l : Launch} {dC : Nat → ClassId} {dI ad : Nat → Nat → Nat} {cy : Nat → ClassId} {R : Room} (htr : l.stackTraces = false) (h1 : rmL_forbid.frames + 1 ≤ R.frames) (h2 : 8 + (5 + 11) + rmL_forbid.locals ≤ R.locals) : am_Cal l dC dI ad cy R 1 6 cqL_forbid fL_forbid :=
  ⟨okL_forbid htr, am_inU 821 (by decide +kernel) (by decide +kernel), Nat.le_refl _, Nat.le_refl _, h1, h2, ⟨by decide, by decide, by decide +kernel⟩, trivial, Or.inr ⟨rfl, _, _, _, rfl⟩⟩
abbrev rmL_order : Room := { frames := 8, cells := 1, slots := 6, locals := 164 }
def cqL_order : am_C := (yL_order, .codeWith yL_order cL_order 6 (some .int) [(0, 12, 15, 13), (0, 12, 19, 15)], rmL_order, none, 5, 6)
theorem okL_order {l : Launch} {dC : Nat → ClassId} {dI ad : Nat → Nat → Nat} {cy : Nat → ClassId} (htr : l.stackTraces = false) : am_Ok l dC dI ad cy yL_order (.codeWith yL_order cL_order 6 (some .int) [(0, 12, 15, 13), (0, 12, 19, 15)]) rmL_order fL_order :=
  am_wrap_ok (ci := [cqX9_order]) (by decide) ⟨rfl, rfl⟩ (am_rows_of (by decide +kernel) (am_words_of [833, 834, 835, 56] (by decide +kernel) (by decide +kernel))) (am_cs_cons (calX9_order (by decide) (by decide)) am_cs_nil) (am_cT_T (Or.inr rfl) (calTX9_order htr (by decide) (by decide)) am_cT_nil) (am_cv_of (by decide +kernel)) (by decide +kernel) (am_mc (am_inU 596 (by decide +kernel) (by decide +kernel)) (am_mc (am_inU 597 (by decide +kernel) (by decide +kernel)) (fun _ h => nomatch h))) am_castE
theorem calL_order {l : Launch} {dC : Nat → ClassId} {dI ad : Nat → Nat → Nat} {cy : Nat → ClassId} {R : Room} (htr : l.stackTraces = false) (h1 : rmL_order.frames + 1 ≤ R.frames) (h2 : 8 + (6 + 11) + rmL_order.locals ≤ R.locals) : am_Cal l dC dI ad cy R 1 6 cqL_order fL_order :=
  ⟨okL_order htr, am_inU 832 (by decide +kernel) (by decide +kernel), Nat.le_refl _, Nat.le_refl _, h1, h2, ⟨by decide, by decide, by decide +kernel⟩, trivial, Or.inr ⟨rfl, _, _, _, rfl⟩⟩
abbrev rmL_clock : Room := { frames := 8, cells := 1, slots := 6, locals := 161 }
def cqL_clock : am_C := (yL_clock, .codeWith yL_clock cL_clock 3 (some .int) [(0, 5, 8, 13)], rmL_clock, none, 2, 3)
theorem okL_clock {l : Launch} {dC : Nat → ClassId} {dI ad : Nat → Nat → Nat} {cy : Nat → ClassId} (htr : l.stackTraces = false) : am_Ok l dC dI ad cy yL_clock (.codeWith yL_clock cL_clock 3 (some .int) [(0, 5, 8, 13)]) rmL_clock fL_clock :=
  am_wrap_ok (ci := [cqX9_clock]) (by decide) ⟨rfl, rfl⟩ (am_rows_of (by decide +kernel) (am_words_of [844, 845, 846, 56] (by decide +kernel) (by decide +kernel))) (am_cs_cons (calX9_clock (by decide) (by decide)) am_cs_nil) (am_cT_T (Or.inr rfl) (calTX9_clock htr (by decide) (by decide)) am_cT_nil) (am_cv_of (by decide +kernel)) (by decide +kernel) (am_mc (am_inU 596 (by decide +kernel) (by decide +kernel)) (fun _ h => nomatch h)) am_castE
theorem calL_clock {l : Launch} {dC : Nat → ClassId} {dI ad : Nat → Nat → Nat} {cy : Nat → ClassId} {R : Room} (htr : l.stackTraces = false) (h1 : rmL_clock.frames + 1 ≤ R.frames) (h2 : 8 + (3 + 11) + rmL_clock.locals ≤ R.locals) : am_Cal l dC dI ad cy R 1 6 cqL_clock fL_clock :=
  ⟨okL_clock htr, am_inU 843 (by decide +kernel) (by decide +kernel), Nat.le_refl _, Nat.le_refl _, h1, h2, ⟨by decide, by decide, by decide +kernel⟩, trivial, Or.inr ⟨rfl, _, _, _, rfl⟩⟩
abbrev rmL_light : Room := { frames := 8, cells := 1, slots := 6, locals := 161 }
def cqL_light : am_C := (yL_light, .codeWith yL_light cL_light 3 (some .int) [(0, 5, 8, 13)], rmL_light, none, 2, 3)
theorem okL_light {l : Launch} {dC : Nat → ClassId} {dI ad : Nat → Nat → Nat} {cy : Nat → ClassId} (htr : l.stackTraces = false) : am_Ok l dC dI ad cy yL_light (.codeWith yL_light cL_light 3 (some .int) [(0, 5, 8, 13)]) rmL_light fL_light :=
  am_wrap_ok (ci := [cqX9_light]) (by decide) ⟨rfl, rfl⟩ (am_rows_of (by decide +kernel) (am_words_of [851, 852, 853, 56] (by decide +kernel) (by decide +kernel))) (am_cs_cons (calX9_light (by decide) (by decide)) am_cs_nil) (am_cT_T (Or.inr rfl) (calTX9_light htr (by decide) (by decide)) am_cT_nil) (am_cv_of (by decide +kernel)) (by decide +kernel) (am_mc (am_inU 596 (by decide +kernel) (by decide +kernel)) (fun _ h => nomatch h)) am_castE
theorem calL_light {l : Launch} {dC : Nat → ClassId} {dI ad : Nat → Nat → Nat} {cy : Nat → ClassId} {R : Room} (htr : l.stackTraces = false) (h1 : rmL_light.frames + 1 ≤ R.frames) (h2 : 8 + (3 + 11) + rmL_light.locals ≤ R.locals) : am_Cal l dC dI ad cy R 1 6 cqL_light fL_light :=
  ⟨okL_light htr, am_inU 850 (by decide +kernel) (by decide +kernel), Nat.le_refl _, Nat.le_refl _, h1, h2, ⟨by decide, by decide, by decide +kernel⟩, trivial, Or.inr ⟨rfl, _, _, _, rfl⟩⟩
abbrev rmL_spoil : Room := { frames := 8, cells := 1, slots := 6, locals := 161 }
def cqL_spoil : am_C := (yL_spoil, .codeWith yL_spoil cL_spoil 3 (some .int) [(0, 5, 8, 13)], rmL_spoil, none, 2, 3)
theorem okL_spoil {l : Launch} {dC : Nat → ClassId} {dI ad : Nat → Nat → Nat} {cy : Nat → ClassId} (htr : l.stackTraces = false) : am_Ok l dC dI ad cy yL_spoil (.codeWith yL_spoil cL_spoil 3 (some .int) [(0, 5, 8, 13)]) rmL_spoil fL_spoil :=
  am_wrap_ok (ci := [cqX9_spoil]) (by decide) ⟨rfl, rfl⟩ (am_rows_of (by decide +kernel) (am_words_of [858, 859, 860, 56] (by decide +kernel) (by decide +kernel))) (am_cs_cons (calX9_spoil (by decide) (by decide)) am_cs_nil) (am_cT_T (Or.inr rfl) (calTX9_spoil htr (by decide) (by decide)) am_cT_nil) (am_cv_of (by decide +kernel)) (by decide +kernel) (am_mc (am_inU 596 (by decide +kernel) (by decide +kernel)) (fun _ h => nomatch h)) am_castE
theorem calL_spoil {l : Launch} {dC : Nat → ClassId} {dI ad : Nat → Nat → Nat} {cy : Nat → ClassId} {R : Room} (htr : l.stackTraces = false) (h1 : rmL_spoil.frames + 1 ≤ R.frames) (h2 : 8 + (3 + 11) + rmL_spoil.locals ≤ R.locals) : am_Cal l dC dI ad cy R 1 6 cqL_spoil fL_spoil :=
  ⟨okL_spoil htr, am_inU 857 (by decide +kernel) (by decide +kernel), Nat.le_refl _, Nat.le_refl _, h1, h2, ⟨by decide, by decide, by decide +kernel⟩, trivial, Or.inr ⟨rfl, _, _, _, rfl⟩⟩
abbrev rmL_state : Room := { frames := 8, cells := 1, slots := 6, locals := 164 }
def cqL_state : am_C := (yL_state, .codeWith yL_state cL_state 5 (some .int) [(0, 10, 13, 13)], rmL_state, none, 4, 5)
theorem okL_state {l : Launch} {dC : Nat → ClassId} {dI ad : Nat → Nat → Nat} {cy : Nat → ClassId} (htr : l.stackTraces = false) : am_Ok l dC dI ad cy yL_state (.codeWith yL_state cL_state 5 (some .int) [(0, 10, 13, 13)]) rmL_state fL_state :=
  am_wrap_ok (ci := [cqX9_state]) (by decide) ⟨rfl, rfl⟩ (am_rows_of (by decide +kernel) (am_words_of [865, 866, 867, 56] (by decide +kernel) (by decide +kernel))) (am_cs_cons (calX9_state (by decide) (by decide)) am_cs_nil) (am_cT_T (Or.inr rfl) (calTX9_state htr (by decide) (by decide)) am_cT_nil) (am_cv_of (by decide +kernel)) (by decide +kernel) (am_mc (am_inU 596 (by decide +kernel) (by decide +kernel)) (fun _ h => nomatch h)) am_castE
theorem calL_state {l : Launch} {dC : Nat → ClassId} {dI ad : Nat → Nat → Nat} {cy : Nat → ClassId} {R : Room} (htr : l.stackTraces = false) (h1 : rmL_state.frames + 1 ≤ R.frames) (h2 : 8 + (5 + 11) + rmL_state.locals ≤ R.locals) : am_Cal l dC dI ad cy R 1 6 cqL_state fL_state :=
  ⟨okL_state htr, am_inU 864 (by decide +kernel) (by decide +kernel), Nat.le_refl _, Nat.le_refl _, h1, h2, ⟨by decide, by decide, by decide +kernel⟩, trivial, Or.inr ⟨rfl, _, _, _, rfl⟩⟩
abbrev rmL_cuvette : Room := { frames := 8, cells := 1, slots := 6, locals := 163 }
def cqL_cuvette : am_C := (yL_cuvette, .codeWith yL_cuvette cL_cuvette 5 (some .int) [(0, 10, 13, 13)], rmL_cuvette, none, 4, 5)
theorem okL_cuvette {l : Launch} {dC : Nat → ClassId} {dI ad : Nat → Nat → Nat} {cy : Nat → ClassId} (htr : l.stackTraces = false) : am_Ok l dC dI ad cy yL_cuvette (.codeWith yL_cuvette cL_cuvette 5 (some .int) [(0, 10, 13, 13)]) rmL_cuvette fL_cuvette :=
  am_wrap_ok (ci := [cqX9_cuvette]) (by decide) ⟨rfl, rfl⟩ (am_rows_of (by decide +kernel) (am_words_of [872, 873, 874, 56] (by decide +kernel) (by decide +kernel))) (am_cs_cons (calX9_cuvette (by decide) (by decide)) am_cs_nil) (am_cT_T (Or.inr rfl) (calTX9_cuvette htr (by decide) (by decide)) am_cT_nil) (am_cv_of (by decide +kernel)) (by decide +kernel) (am_mc (am_inU 596 (by decide +kernel) (by decide +kernel)) (fun _ h => nomatch h)) am_castE
theorem calL_cuvette {l : Launch} {dC : Nat → ClassId} {dI ad : Nat → Nat → Nat} {cy : Nat → ClassId} {R : Room} (htr : l.stackTraces = false) (h1 : rmL_cuvette.frames + 1 ≤ R.frames) (h2 : 8 + (5 + 11) + rmL_cuvette.locals ≤ R.locals) : am_Cal l dC dI ad cy R 1 6 cqL_cuvette fL_cuvette :=
  ⟨okL_cuvette htr, am_inU 871 (by decide +kernel) (by decide +kernel), Nat.le_refl _, Nat.le_refl _, h1, h2, ⟨by decide, by decide, by decide +kernel⟩, trivial, Or.inr ⟨rfl, _, _, _, rfl⟩⟩
abbrev rmL_volume : Room := { frames := 8, cells := 1, slots := 6, locals := 162 }
def cqL_volume : am_C := (yL_volume, .codeWith yL_volume cL_volume 5 (some .int) [(0, 10, 13, 13), (0, 10, 17, 33)], rmL_volume, none, 4, 5)
theorem okL_volume {l : Launch} {dC : Nat → ClassId} {dI ad : Nat → Nat → Nat} {cy : Nat → ClassId} (htr : l.stackTraces = false) : am_Ok l dC dI ad cy yL_volume (.codeWith yL_volume cL_volume 5 (some .int) [(0, 10, 13, 13), (0, 10, 17, 33)]) rmL_volume fL_volume :=
  am_wrap_ok (ci := [cqX9_volume]) (by decide) ⟨rfl, rfl⟩ (am_rows_of (by decide +kernel) (am_words_of [879, 880, 881, 56] (by decide +kernel) (by decide +kernel))) (am_cs_cons (calX9_volume (by decide) (by decide)) am_cs_nil) (am_cT_T (Or.inr rfl) (calTX9_volume htr (by decide) (by decide)) am_cT_nil) (am_cv_of (by decide +kernel)) (by decide +kernel) (am_mc (am_inU 596 (by decide +kernel) (by decide +kernel)) (am_mc (am_inU 781 (by decide +kernel) (by decide +kernel)) (fun _ h => nomatch h))) am_castE
theorem calL_volume {l : Launch} {dC : Nat → ClassId} {dI ad : Nat → Nat → Nat} {cy : Nat → ClassId} {R : Room} (htr : l.stackTraces = false) (h1 : rmL_volume.frames + 1 ≤ R.frames) (h2 : 8 + (5 + 11) + rmL_volume.locals ≤ R.locals) : am_Cal l dC dI ad cy R 1 6 cqL_volume fL_volume :=
  ⟨okL_volume htr, am_inU 878 (by decide +kernel) (by decide +kernel), Nat.le_refl _, Nat.le_refl _, h1, h2, ⟨by decide, by decide, by decide +kernel⟩, trivial, Or.inr ⟨rfl, _, _, _, rfl⟩⟩
abbrev rmL_trend : Room := { frames := 8, cells := 1, slots := 6, locals := 163 }
def cqL_trend : am_C := (yL_trend, .codeWith yL_trend cL_trend 5 (some .int) [(0, 10, 13, 13), (0, 10, 17, 69)], rmL_trend, none, 4, 5)
theorem okL_trend {l : Launch} {dC : Nat → ClassId} {dI ad : Nat → Nat → Nat} {cy : Nat → ClassId} (htr : l.stackTraces = false) : am_Ok l dC dI ad cy yL_trend (.codeWith yL_trend cL_trend 5 (some .int) [(0, 10, 13, 13), (0, 10, 17, 69)]) rmL_trend fL_trend :=
  am_wrap_ok (ci := [cqX9_trend]) (by decide) ⟨rfl, rfl⟩ (am_rows_of (by decide +kernel) (am_words_of [891, 892, 893, 56] (by decide +kernel) (by decide +kernel))) (am_cs_cons (calX9_trend (by decide) (by decide)) am_cs_nil) (am_cT_T (Or.inr rfl) (calTX9_trend htr (by decide) (by decide)) am_cT_nil) (am_cv_of (by decide +kernel)) (by decide +kernel) (am_mc (am_inU 596 (by decide +kernel) (by decide +kernel)) (am_mc (am_inU 890 (by decide +kernel) (by decide +kernel)) (fun _ h => nomatch h))) am_castE
theorem calL_trend {l : Launch} {dC : Nat → ClassId} {dI ad : Nat → Nat → Nat} {cy : Nat → ClassId} {R : Room} (htr : l.stackTraces = false) (h1 : rmL_trend.frames + 1 ≤ R.frames) (h2 : 8 + (5 + 11) + rmL_trend.locals ≤ R.locals) : am_Cal l dC dI ad cy R 1 6 cqL_trend fL_trend :=
  ⟨okL_trend htr, am_inU 889 (by decide +kernel) (by decide +kernel), Nat.le_refl _, Nat.le_refl _, h1, h2, ⟨by decide, by decide, by decide +kernel⟩, trivial, Or.inr ⟨rfl, _, _, _, rfl⟩⟩
abbrev rmL_rules : Room := { frames := 8, cells := 1, slots := 6, locals := 161 }
def cqL_rules : am_C := (yL_rules, .codeWith yL_rules cL_rules 4 (some .int) [(0, 9, 12, 13)], rmL_rules, none, 3, 4)
theorem okL_rules {l : Launch} {dC : Nat → ClassId} {dI ad : Nat → Nat → Nat} {cy : Nat → ClassId} (htr : l.stackTraces = false) : am_Ok l dC dI ad cy yL_rules (.codeWith yL_rules cL_rules 4 (some .int) [(0, 9, 12, 13)]) rmL_rules fL_rules :=
  am_wrap_ok (ci := [cqX9_rules]) (by decide) ⟨rfl, rfl⟩ (am_rows_of (by decide +kernel) (am_words_of [921, 922, 923, 56] (by decide +kernel) (by decide +kernel))) (am_cs_cons (calX9_rules (by decide) (by decide)) am_cs_nil) (am_cT_T (Or.inr rfl) (calTX9_rules htr (by decide) (by decide)) am_cT_nil) (am_cv_of (by decide +kernel)) (by decide +kernel) (am_mc (am_inU 596 (by decide +kernel) (by decide +kernel)) (fun _ h => nomatch h)) am_castE
theorem calL_rules {l : Launch} {dC : Nat → ClassId} {dI ad : Nat → Nat → Nat} {cy : Nat → ClassId} {R : Room} (htr : l.stackTraces = false) (h1 : rmL_rules.frames + 1 ≤ R.frames) (h2 : 8 + (4 + 11) + rmL_rules.locals ≤ R.locals) : am_Cal l dC dI ad cy R 1 6 cqL_rules fL_rules :=
  ⟨okL_rules htr, am_inU 920 (by decide +kernel) (by decide +kernel), Nat.le_refl _, Nat.le_refl _, h1, h2, ⟨by decide, by decide, by decide +kernel⟩, trivial, Or.inr ⟨rfl, _, _, _, rfl⟩⟩
abbrev rmL_host : Room := { frames := 8, cells := 1, slots := 6, locals := 161 }
def cqL_host : am_C := (yL_host, .codeWith yL_host cL_host 4 (some .int) [(0, 9, 12, 69)], rmL_host, none, 3, 4)
theorem okL_host {l : Launch} {dC : Nat → ClassId} {dI ad : Nat → Nat → Nat} {cy : Nat → ClassId} (htr : l.stackTraces = false) : am_Ok l dC dI ad cy yL_host (.codeWith yL_host cL_host 4 (some .int) [(0, 9, 12, 69)]) rmL_host fL_host :=
  am_wrap_ok (ci := [cqX9_host]) (by decide) ⟨rfl, rfl⟩ (am_rows_of (by decide +kernel) (am_words_of [943, 944, 945, 56] (by decide +kernel) (by decide +kernel))) (am_cs_cons (calX9_host (by decide) (by decide)) am_cs_nil) (am_cT_T (Or.inr rfl) (calTX9_host htr (by decide) (by decide)) am_cT_nil) (am_cv_of (by decide +kernel)) (by decide +kernel) (am_mc (am_inU 890 (by decide +kernel) (by decide +kernel)) (fun _ h => nomatch h)) am_castE
theorem calL_host {l : Launch} {dC : Nat → ClassId} {dI ad : Nat → Nat → Nat} {cy : Nat → ClassId} {R : Room} (htr : l.stackTraces = false) (h1 : rmL_host.frames + 1 ≤ R.frames) (h2 : 8 + (4 + 11) + rmL_host.locals ≤ R.locals) : am_Cal l dC dI ad cy R 1 6 cqL_host fL_host :=
  ⟨okL_host htr, am_inU 942 (by decide +kernel) (by decide +kernel), Nat.le_refl _, Nat.le_refl _, h1, h2, ⟨by decide, by decide, by decide +kernel⟩, trivial, Or.inr ⟨rfl, _, _, _, rfl⟩⟩
abbrev rmL_took : Room := { frames := 8, cells := 1, slots := 6, locals := 161 }
def cqL_took : am_C := (yL_took, .codeWith yL_took cL_took 4 (some .int) [(0, 9, 12, 13)], rmL_took, none, 3, 4)
theorem okL_took {l : Launch} {dC : Nat → ClassId} {dI ad : Nat → Nat → Nat} {cy : Nat → ClassId} (htr : l.stackTraces = false) : am_Ok l dC dI ad cy yL_took (.codeWith yL_took cL_took 4 (some .int) [(0, 9, 12, 13)]) rmL_took fL_took :=
  am_wrap_ok (ci := [cqX9_took]) (by decide) ⟨rfl, rfl⟩ (am_rows_of (by decide +kernel) (am_words_of [950, 951, 952, 56] (by decide +kernel) (by decide +kernel))) (am_cs_cons (calX9_took (by decide) (by decide)) am_cs_nil) (am_cT_T (Or.inr rfl) (calTX9_took htr (by decide) (by decide)) am_cT_nil) (am_cv_of (by decide +kernel)) (by decide +kernel) (am_mc (am_inU 596 (by decide +kernel) (by decide +kernel)) (fun _ h => nomatch h)) am_castE
theorem calL_took {l : Launch} {dC : Nat → ClassId} {dI ad : Nat → Nat → Nat} {cy : Nat → ClassId} {R : Room} (htr : l.stackTraces = false) (h1 : rmL_took.frames + 1 ≤ R.frames) (h2 : 8 + (4 + 11) + rmL_took.locals ≤ R.locals) : am_Cal l dC dI ad cy R 1 6 cqL_took fL_took :=
  ⟨okL_took htr, am_inU 949 (by decide +kernel) (by decide +kernel), Nat.le_refl _, Nat.le_refl _, h1, h2, ⟨by decide, by decide, by decide +kernel⟩, trivial, Or.inr ⟨rfl, _, _, _, rfl⟩⟩
end
section
/-! ===== the second small machine: constructors; every cell is made in order, at base + number ===== -/
/-- a cell: the class's number, or 100 + what an array holds; its values -/
abbrev bm_O : Type := Nat × List am_V
abbrev bm_M : Type := List bm_O
abbrev bm_R : Type := Option (bm_M × Nat × Nat)
abbrev bm_F : Type := Nat → bm_M → Option bm_M
def bm_dv (c : Nat) : List am_V := (List.range (am_nf c)).map (fun f => match am_ft c f with
  | some _ => .inl .null
  | none => .inl (.int 0))
def bm_fin (i : Instr) (st : List am_V) (M : bm_M) (nc ns : Nat) : bm_R := match i with
  | .return_ => match st with
    | [] => some (M, nc, ns)
    | _ => none
  | _ => none
def bm_step (cs : List (bm_F × Nat × Nat)) (mc ms : Nat) (P : am_P) (K : Nat → List am_V → List am_V → bm_M → Nat → Nat → bm_R) (pc : Nat) (ls st : List am_V) (M : bm_M) (nc ns : Nat) : bm_R :=
  match am_at P pc with
  | none => none
  | some (i, len, a, b, z) => match i with
    | .iconst _ => K (pc + len) ls (.inl z :: st) M nc ns
    | .bipush _ => K (pc + len) ls (.inl z :: st) M nc ns
    | .sipush _ => K (pc + len) ls (.inl z :: st) M nc ns
    | .ldc _ => K (pc + len) ls (.inl z :: st) M nc ns
    | .iload_n _ => match ls[a]? with
      | some (.inl (.int x)) => K (pc + len) ls (.inl (.int x) :: st) M nc ns
      | _ => none
    | .aload_n _ => match ls[a]? with
      | some (.inr q) => K (pc + len) ls (.inr q :: st) M nc ns
      | _ => none
    | .istore_n _ => match st with
      | .inl (.int x) :: r => K (pc + len) (am_set1 ls a (.inl (.int x))) r M nc ns
      | _ => none
    | .iinc _ _ => match ls[a]?, z with
      | some (.inl (.int x)), .int v => K (pc + len) (am_set1 ls a (.inl (.int (x + v)))) st M nc ns
      | _, _ => none
    | .iadd => match st with
      | .inl (.int y) :: .inl (.int x) :: r => K (pc + len) ls (.inl (.int (x + y)) :: r) M nc ns
      | _ => none
    | .imul => match st with
      | .inl (.int y) :: .inl (.int x) :: r => K (pc + len) ls (.inl (.int (x * y)) :: r) M nc ns
      | _ => none
    | .dup => match st with
      | .inr q :: r => K (pc + len) ls (.inr q :: .inr q :: r) M nc ns
      | _ => none
    | .goto _ => K a ls st M nc ns
    | .if_icmp c _ => match st with
      | .inl (.int y) :: .inl (.int x) :: r => match c with
        | .ge => if y ≤ x then K a ls r M nc ns else K (pc + len) ls r M nc ns
        | .gt => if y < x then K a ls r M nc ns else K (pc + len) ls r M nc ns
        | _ => none
      | _ => none
    | .new _ => cond (Nat.ble (nc + 1) mc && Nat.ble (ns + am_nf a) ms) (K (pc + len) ls (.inr (0, M.length) :: st) (M ++ [(a, bm_dv a)]) (nc + 1) (ns + am_nf a)) none
    | .newarray _ => match st with
      | .inl (.int n) :: r => if 0 ≤ n.toInt ∧ n.toInt < 1000 ∧ nc + 1 ≤ mc ∧ ns + n.toNatClampNeg ≤ ms then K (pc + len) ls (.inr (0, M.length) :: r) (M ++ [(100 + a, List.replicate n.toNatClampNeg (.inl (.int 0)))]) (nc + 1) (ns + n.toNatClampNeg) else none
      | _ => none
    | .anewarray _ => match st with
      | .inl (.int n) :: r => if 0 ≤ n.toInt ∧ n.toInt < 1000 ∧ nc + 1 ≤ mc ∧ ns + n.toNatClampNeg ≤ ms then K (pc + len) ls (.inr (0, M.length) :: r) (M ++ [(103 + a, List.replicate n.toNatClampNeg (.inl .null))]) (nc + 1) (ns + n.toNatClampNeg) else none
      | _ => none
    | .getfield _ => match st with
      | .inr q :: r => match M[q.2]? with
        | some (c, vs) => cond (Nat.beq c b) (match vs[a]? with
          | some (.inr q2) => K (pc + len) ls (.inr q2 :: r) M nc ns
          | _ => none) none
        | none => none
      | _ => none
    | .putfield _ => match st with
      | .inr q2 :: .inr q :: r => match M[q.2]?, am_ft b a with
        | some (c, vs), some _ => cond (Nat.beq c b && Nat.blt a vs.length) (K (pc + len) ls r (M.set q.2 (c, vs.set a (.inr q2))) nc ns) none
        | _, _ => none
      | .inl (.int x) :: .inr q :: r => match M[q.2]?, am_ft b a with
        | some (c, vs), none => cond (Nat.beq c b && Nat.blt a vs.length) (if am_fz b a = true → am_b x = x then K (pc + len) ls r (M.set q.2 (c, vs.set a (.inl (.int x)))) nc ns else none) none
        | _, _ => none
      | _ => none
    | .iastore => match st with
      | .inl (.int y) :: .inl (.int x) :: .inr q :: r => match M[q.2]? with
        | some (100, vs) => if am_in x vs.length then K (pc + len) ls r (M.set q.2 (100, vs.set x.toNatClampNeg (.inl (.int y)))) nc ns else none
        | _ => none
      | _ => none
    | .aastore => match st with
      | .inr q2 :: .inl (.int x) :: .inr q :: r => match M[q.2]?, M[q2.2]? with
        | some (c, vs), some (c2, _) => if c = 103 + c2 ∧ (c2 = 1 ∨ c2 = 4 ∨ c2 = 5 ∨ c2 = 6 ∨ c2 = 8) ∧ am_in x vs.length then K (pc + len) ls r (M.set q.2 (c, vs.set x.toNatClampNeg (.inr q2))) nc ns else none
        | _, _ => none
      | _ => none
    | .invokespecial _ => match st with
      | .inr q :: r => cond (Nat.ble (am_wt r) 8) (cond (Nat.beq b 0) (K (pc + len) ls r M nc ns) (match cs[a]? with
        | some (F, mc', ms') => cond (Nat.ble (nc + mc') mc && Nat.ble (ns + ms') ms) (match F q.2 M with
          | some M' => K (pc + len) ls r M' (nc + mc') (ns + ms')
          | none => none) none
        | none => none)) none
      | _ => none
    | i => bm_fin i st M nc ns
def bm_run (cs : List (bm_F × Nat × Nat)) (mc ms : Nat) (P : am_P) : Nat → Nat → List am_V → List am_V → bm_M → Nat → Nat → bm_R
  | 0 => fun _ _ _ _ _ _ => none
  | n + 1 => bm_step cs mc ms P (bm_run cs mc ms P n)
def bm_meth (cs : List (bm_F × Nat × Nat)) (mc ms nL N : Nat) (P : am_P) : bm_F := fun j M => match bm_run cs mc ms P N 0 (am_ent nL [.inr (0, j)]) [] M 0 0 with
  | some (M', nc, ns) => cond (Nat.ble nc mc && Nat.ble ns ms && Nat.blt 0 nL) (some M') none
  | none => none
/-! the world of such a memory -/
def bm_ad (B : Nat) : Nat → Nat → Nat := fun _ j => B + j
def bm_iv (vs : List am_V) (j : Nat) : Int32 := match vs[j]? with
  | some (.inl (.int x)) => x
  | _ => 0
def bm_rv (B : Nat) (vs : List am_V) (j : Nat) : Option Nat := match vs[j]? with
  | some (.inr q) => some (B + q.2)
  | _ => none
def bm_en (B : Nat) (cy : Nat → ClassId) (o : bm_O) : va_E := match o.1 with
  | 100 => .inl (cy 0, o.2.length, .inl (bm_iv o.2))
  | 101 => .inl (cy 1, o.2.length, .inl (bm_iv o.2))
  | 102 => .inl (cy 2, o.2.length, .inr (.inl (fun _ => 0)))
  | c => cond (Nat.blt c 100) (.inr (c, o.2.map (am_co (bm_ad B)))) (.inl (cy (c - 100), o.2.length, .inr (.inr (.inr (.inr (bm_rv B o.2))))))
def bm_W (B : Nat) (cy : Nat → ClassId) (M : bm_M) : va_W := M.mapIdx (fun j o => (B + j, bm_en B cy o))
def bm_A (B : Nat) : Nat → Prop := fun q => B ≤ q
theorem bm_W_at {B : Nat} {cy : Nat → ClassId} {M : bm_M} {j : Nat} {o : bm_O} (h : M[j]? = some o) : (bm_W B cy M)[j]? = some (B + j, bm_en B cy o) := by
  unfold bm_W
  rw [List.getElem?_mapIdx, h]
  rfl
theorem bm_W_inv {B : Nat} {cy : Nat → ClassId} {M : bm_M} {j : Nat} {x : Nat × va_E} (h : (bm_W B cy M)[j]? = some x) : ∃ o, M[j]? = some o ∧ x = (B + j, bm_en B cy o) := by
  unfold bm_W at h
  rw [List.getElem?_mapIdx] at h
  cases hq : M[j]? with
  | none => rw [hq] at h; cases h
  | some o => rw [hq] at h; cases h; exact ⟨o, rfl, rfl⟩
theorem bm_W_D {B : Nat} {cy : Nat → ClassId} (M : bm_M) : va_D (bm_A B) (bm_W B cy M) := by
  refine ⟨fun i j p q hp hq hpq => ?_, fun k q hq => ?_⟩
  · obtain ⟨_, -, rfl⟩ := bm_W_inv hp
    obtain ⟨_, -, rfl⟩ := bm_W_inv hq
    simp only at hpq
    omega
  · obtain ⟨_, -, rfl⟩ := bm_W_inv hq
    exact Nat.le_add_right _ _
theorem bm_W_set {B : Nat} {cy : Nat → ClassId} (M : bm_M) (j : Nat) (o : bm_O) : (bm_W B cy M).set j (B + j, bm_en B cy o) = bm_W B cy (M.set j o) := by
  unfold bm_W
  apply List.ext_getElem?
  intro i
  by_cases hi : i = j
  · subst hi
    by_cases hl : i < M.length
    · rw [List.getElem?_set_self (by simpa using hl), List.getElem?_mapIdx, List.getElem?_set_self hl]
      rfl
    · rw [List.getElem?_eq_none (by simpa using hl), List.getElem?_eq_none (by simpa using hl)]
  · rw [List.getElem?_set_ne (Ne.symm hi), List.getElem?_mapIdx, List.getElem?_mapIdx, List.getElem?_set_ne (Ne.symm hi)]
theorem bm_W_app {B : Nat} {cy : Nat → ClassId} (M : bm_M) (o : bm_O) : bm_W B cy M ++ [(B + M.length, bm_en B cy o)] = bm_W B cy (M ++ [o]) := by
  unfold bm_W
  rw [List.mapIdx_append]
  simp
theorem bm_en_c {B : Nat} {cy : Nat → ClassId} {c : Nat} {vs : List am_V} (h : c < 100) : bm_en B cy (c, vs) = .inr (c, vs.map (am_co (bm_ad B))) := by
  unfold bm_en
  split
  · rename_i e; simp only at e; omega
  · rename_i e; simp only at e; omega
  · rename_i e; simp only at e; omega
  · rw [show Nat.blt c 100 = true from Nat.blt_eq.mpr h]; rfl
theorem bm_en_r {B : Nat} {cy : Nat → ClassId} {k : Nat} {vs : List am_V} : bm_en B cy (103 + k, vs) = .inl (cy (3 + k), vs.length, .inr (.inr (.inr (.inr (bm_rv B vs))))) := by
  unfold bm_en
  split
  · rename_i e; simp only at e; omega
  · rename_i e; simp only at e; omega
  · rename_i e; simp only at e; omega
  · have : Nat.blt (103 + k) 100 = false := by
      cases hq : Nat.blt (103 + k) 100 with
      | false => rfl
      | true => have := Nat.blt_eq.mp hq; omega
    simp only
    rw [this, show 103 + k - 100 = 3 + k by omega]
    rfl
theorem bm_iv_set {vs : List am_V} {x : Nat} {y : Int32} (h : x < vs.length) : bm_iv (vs.set x (.inl (.int y))) = upd (bm_iv vs) x y := by
  funext j
  unfold bm_iv upd
  by_cases hj : j = x
  · subst hj
    rw [List.getElem?_set_self h, if_pos rfl]
  · rw [List.getElem?_set_ne (Ne.symm hj), if_neg hj]
theorem bm_rv_set {B : Nat} {vs : List am_V} {x : Nat} {q : Nat × Nat} (h : x < vs.length) : bm_rv B (vs.set x (.inr q)) = va_up (bm_rv B vs) x (some (B + q.2)) := by
  funext j
  unfold bm_rv va_up
  by_cases hj : j = x
  · subst hj
    rw [List.getElem?_set_self h, if_pos rfl]
  · rw [List.getElem?_set_ne (Ne.symm hj), if_neg hj]
theorem bm_iv_rep (n : Nat) : bm_iv (List.replicate n (.inl (.int 0))) = fun _ => 0 := by
  funext j
  unfold bm_iv
  by_cases h : j < n
  · rw [List.getElem?_replicate, if_pos h]
  · rw [List.getElem?_replicate, if_neg h]
theorem bm_rv_rep (B n : Nat) : bm_rv B (List.replicate n (.inl .null)) = fun _ => none := by
  funext j
  unfold bm_rv
  by_cases h : j < n
  · rw [List.getElem?_replicate, if_pos h]
  · rw [List.getElem?_replicate, if_neg h]
end
section
/-! ===== the second small machine is the machine ===== -/
abbrev bm_C : Type := MethodName × Cond × Room × Nat
def bm_chk (nL pc : Nat) (r : am_Row) : Bool := match r with
  | (i, len, a, _, _) => match i with
    | .new _ => decide (len = 3 ∧ a < 11)
    | .newarray t => decide (len = 2 ∧ (t = .int ∧ a = 0 ∨ t = .boolean ∧ a = 1))
    | .anewarray _ => decide (len = 3 ∧ (a = 1 ∨ a = 4 ∨ a = 5 ∨ a = 6 ∨ a = 8))
    | .invokespecial _ => decide (len = 3)
    | _ => am_chk nL pc r
def bm_nl : List (String × Nat × MethodName × String) := [(RX9, 48, yX3_init, RX9), (RX9, 75, yX8_init, RX9), (RX9, 76, yX5_init, RX9), (RX9, 77, yX1_init, RX9), (RX9, 78, yX4_init, RX9), (RX6, 17, yX0_init, RX9), (RX6, 24, yX2_init, RX9)]
def bm_Nk (U : State) : Prop := (∀ q ∈ bm_nl, va_Nw (.methodLinkNest q.1 q.2.1 q.2.2.1 q.2.2.2) U) ∧ ∀ k ∈ ([1, 4, 5, 6, 8] : List Nat), va_AO (am_N k) U
theorem bm_Nk.warm {s U : State} (hW : s.WarmedH U.vm) (h : bm_Nk s) : bm_Nk U := ⟨fun q hq => va_Nw.warmM hW (h.1 q hq), fun k hk => va_AO.moved hW.alike (h.2 k hk)⟩
theorem bm_Nk.same {s U : State} (hv : s.vm = U.vm) (h : bm_Nk s) : bm_Nk U := bm_Nk.warm (by rw [← hv]; exact State.WarmedH.refl s) h
def bm_need (own : String) (ci : List bm_C) (r : am_Row) : List Cond := match r with
  | (i, _, a, b, _) => match i with
    | .new k => [.classLink own k (am_N a), .instantiable (am_N a) (am_nf a), .initialized (am_N a)]
    | .newarray t => [.arrayClass (newarray.typeOf t)]
    | .anewarray k => [.classLink own k (am_N a)]
    | .invokespecial k => if b = 0 then [.methodLink own k objectInit, .instanceMethod objectInit, .code objectInit ⟨#[0xb1]⟩ 1 none] else (match ci[a]? with | some (y, _) => [.instanceMethod y, .initialized y.cls] ++ (if (own, k, y, RX9) ∈ bm_nl then [] else [.methodLink own k y]) | none => [])
    | _ => am_need own [] r
def bm_St (dC : Nat → ClassId) (dI : Nat → Nat → Nat) (B : Nat) (cy : Nat → ClassId) (M : bm_M) (U : State) : Prop :=
  U.heap.size = B + M.length ∧ va_P (dC, dI) vwCl (bm_W B cy M) U.heap ∧ va_K (dC, dI) vwCl (am_ty cy) U ∧ bm_Nk U
theorem bm_St_blind {dC : Nat → ClassId} {dI : Nat → Nat → Nat} {B : Nat} {cy : Nat → ClassId} {M : bm_M} {av : List Value} : FrameBlind (va_Pc av (bm_St dC dI B cy M)) := by
  rintro a U g mk ⟨h1, h2, h3, h4, h5⟩
  exact ⟨h1, h2, h3, va_K.moved (u := U) (U := U.calling g mk a) (Vm.Alike.refl U.vm) h4, bm_Nk.same (s := U) (U := U.calling g mk a) rfl h5⟩
def bm_Q (dC : Nat → ClassId) (dI : Nat → Nat → Nat) (B : Nat) (cy : Nat → ClassId) (M : bm_M) : Array Value → State → Outcome → State → Prop := fun _ st o t =>
  o = .returned none ∧ t.heap.size = B + M.length ∧ va_P (dC, dI) vwCl (bm_W B cy M) t.heap ∧ va_F (bm_A B) st t
def bm_Ok (l : Launch) (dC : Nat → ClassId) (dI : Nat → Nat → Nat) (B : Nat) (cy : Nat → ClassId) (y : MethodName) (w : Cond) (rm : Room) (F : bm_F) : Prop :=
  ∀ (j : Nat) (M M' : bm_M), F j M = some M' → Met l y (w :: am_U) rm (va_Pc [.ref (B + j)] (bm_St dC dI B cy M)) (bm_Q dC dI B cy M') rm.cells rm.slots (bm_A B)
def bm_Cal (l : Launch) (dC : Nat → ClassId) (dI : Nat → Nat → Nat) (B : Nat) (cy : Nat → ClassId) (R : Room) (q : bm_C) (F : bm_F × Nat × Nat) : Prop := match q with
  | (y, w, rm, mL) => bm_Ok l dC dI B cy y w rm F.1 ∧ w ∈ am_U ∧ rm.cells = F.2.1 ∧ rm.slots = F.2.2 ∧ rm.frames + 1 ≤ R.frames ∧ 8 + (mL + 11) + rm.locals ≤ R.locals ∧
    (y.cls ≠ "java/lang/invoke/MethodHandle" ∧ y.cls ≠ "java/lang/invoke/VarHandle" ∧ (parseMethodDescriptor y.desc).map (fun d => d.parameters.length) = some 0) ∧ y.name = "<init>" ∧ ∃ bytes, w = .code y bytes mL none
def bm_ok : am_V → Prop
  | .inl (.double _) => False
  | _ => True
theorem bm_ok_nod {ls : List am_V} (h : ∀ v ∈ ls, bm_ok v) : am_nod ls := fun j x e => absurd (h _ (List.mem_of_getElem? e)) id
theorem bm_ok_set1 {ls : List am_V} {i : Nat} {w : am_V} (h : ∀ v ∈ ls, bm_ok v) (hw : bm_ok w) : ∀ v ∈ am_set1 ls i w, bm_ok v := by
  intro v hv
  rcases List.mem_or_eq_of_mem_set hv with h1 | h1
  · unfold am_kill at h1
    cases i with
    | zero => exact h v h1
    | succ j =>
      simp only at h1
      split at h1
      · rcases List.mem_or_eq_of_mem_set h1 with h2 | h2
        · exact h v h2
        · rw [h2]; exact trivial
      · exact h v h1
  · rw [h1]; exact hw
theorem bm_wt_le {ad : Nat → Nat → Nat} : ∀ {st : List am_V}, (∀ v ∈ st, bm_ok v) → ((st.map (am_co ad)).map fun v => v.category).sum ≤ am_wt st
  | [], _ => Nat.le_refl _
  | v :: l, h => by
    have ih := bm_wt_le (ad := ad) (st := l) (fun w hw => h w (List.mem_cons_of_mem _ hw))
    rw [List.map_cons, List.map_cons, List.sum_cons]
    cases v with
    | inl w =>
      cases w with
      | long x => show 2 + _ ≤ 2 + am_wt l; omega
      | double x => exact absurd (h _ List.mem_cons_self) id
      | int x => show 1 + _ ≤ 1 + am_wt l; omega
      | null => show 1 + _ ≤ 1 + am_wt l; omega
      | float x => show 1 + _ ≤ 1 + am_wt l; omega
      | ref x => show 1 + _ ≤ 1 + am_wt l; omega
      | _ => show 1 + _ ≤ 1 + am_wt l; omega
    | inr q => show 1 + _ ≤ 1 + am_wt l; omega
section BMS
variable {p : Program} {l : Launch} {e : Env} {R : Room} {s : State} {m : MethodId} {args : Array Value} {below : List Frame} {meth : Method} {c : Code} {Q : State → Prop}
variable {dC : Nat → ClassId} {dI : Nat → Nat → Nat} {B : Nat} {cy : Nat → ClassId} {cc : ByteArray} {own : String} {nL : Nat}
def bm_Wp (p : Program) (l : Launch) (e : Env) (R : Room) (s : State) (m : MethodId) (args : Array Value) (below : List Frame) (meth : Method) (c : Code) (Q : State → Prop) (dC : Nat → ClassId) (dI : Nat → Nat → Nat) (B : Nat) (cy : Nat → ClassId) (nL pc : Nat) (ls st : List am_V) (M : bm_M) (nc ns : Nat) : Prop :=
  ∀ (H : Heap) (locs : List Loc) (lsA : Array Slot), lv_has lsA nL (am_lv (bm_ad B) 0 ls) → H.size = B + M.length → va_P (dC, dI) vwCl (bm_W B cy M) H → va_S (bm_A B) s.heap H locs → W p l e R s m args below meth c H locs nc ns Q (F0 m pc lsA (st.map (am_co (bm_ad B))))
def bm_Cx (p : Program) (s : State) (m : MethodId) (args : Array Value) (c : Code) (meth : Method) (dC : Nat → ClassId) (dI : Nat → Nat → Nat) (B : Nat) (cy : Nat → ClassId) (cc : ByteArray) (own : String) (nL : Nat) : Prop :=
  p.tables.exec = Jvm.exec ∧ c.code = cc ∧ c.maxLocals = nL ∧ s.vm.findClass own = some m.cls ∧ (∀ w ∈ am_U, w.before args s = true) ∧ va_K (dC, dI) vwCl (am_ty cy) s ∧ bm_Nk s ∧ B ≤ s.heap.size ∧ (own ≠ RL → meth.name = "<init>")
theorem bm_hA (C : bm_Cx p s m args c meth dC dI B cy cc own nL) : ∀ q : Nat, s.heap.size ≤ q → bm_A B q := fun q h => Nat.le_trans C.2.2.2.2.2.2.2.1 h
theorem bm_dv_vp : ∀ c, c < 11 → ∀ j, j < am_nf c → defaultValue ((parseFieldDescriptor (am_T c j).2.2.1).getD .int) = vp_V ((bm_dv c).map (am_co (bm_ad 0))) j := by decide +kernel
theorem bm_dv_co (B c : Nat) : (bm_dv c).map (am_co (bm_ad B)) = (bm_dv c).map (am_co (bm_ad 0)) := by
  unfold bm_dv
  rw [List.map_map, List.map_map]
  apply List.map_congr_left
  intro f _
  show am_co _ (match am_ft c f with | some _ => _ | none => _) = am_co _ (match am_ft c f with | some _ => _ | none => _)
  cases am_ft c f <;> rfl
theorem bm_dv_len (c : Nat) : (bm_dv c).length = am_nf c := by unfold bm_dv; rw [List.length_map, List.length_range]
theorem bm_s_new (C : bm_Cx p s m args c meth dC dI B cy cc own nL) {pc idx a nc ns : Nat} {ls st : List am_V} {M : bm_M} (ha : a < 11) (hw : ∀ w ∈ ([.classLink own idx (am_N a), .instantiable (am_N a) (am_nf a), .initialized (am_N a)] : List Cond), w ∈ am_U) (hd : decode cc pc = .ok (.new idx, 3)) (hc : nc + 1 ≤ R.cells) (hs : ns + am_nf a ≤ R.slots)
    (k : bm_Wp p l e R s m args below meth c Q dC dI B cy nL (pc + 3) ls (.inr (0, M.length) :: st) (M ++ [(a, bm_dv a)]) (nc + 1) (ns + am_nf a)) : bm_Wp p l e R s m args below meth c Q dC dI B cy nL pc ls st M nc ns := by
  intro H locs lsA hl hz hP hS
  have hA := bm_hA C
  obtain ⟨hx, hb, hml, hown, hts, hK, -, -, -⟩ := C
  have hKn := hK.1 a _ (am_cl_at a ha)
  refine W.newcK hx hb hown (hts _ (hw _ List.mem_cons_self)) (hts _ (hw _ (List.mem_cons_of_mem _ List.mem_cons_self))) (hts _ (hw _ (List.mem_cons_of_mem _ (List.mem_cons_of_mem _ List.mem_cons_self)))) rfl hd hc hs hKn.2.1 rfl fun H1 kC hkC e1 z1 o1 => ?_
  have hk : ∀ (k : Nat) (x : Nat × va_E), (bm_W B cy M)[k]? = some x → H1[x.1]? = H[x.1]? := fun k x hx => o1 x.1 ((hP k x hx).lt)
  have hP1 : va_P (dC, dI) vwCl (bm_W B cy (M ++ [(a, bm_dv a)])) H1 := by
    rw [← bm_W_app]
    refine (hP.kept hk).app (fun k x hx => ?_)
    have hz1 : k < 1 := (List.getElem?_eq_some_iff.mp hx).1
    rw [show k = 0 by omega] at hx
    cases hx
    rw [bm_en_c (by omega), bm_dv_co]
    refine ⟨_, am_cl_at a ha, ?_⟩
    have hb1 := u_born (fun f => (parseFieldDescriptor (am_T a f).2.2.1).getD .int) hts (am_in_u a ha) hKn hkC e1 (fun f hf => by
      have := am_cl_ty a ha f hf
      cases hq : parseFieldDescriptor (am_T a f).2.2.1 with
      | none => rw [hq] at this; cases this
      | some t => rfl)
    rw [← hz]
    exact hb1.to (bm_dv_vp a ha)
  have := k H1 locs lsA hl (by rw [z1, hz, List.length_append]; rfl) hP1 ⟨Nat.le_trans hS.1 (by omega), fun x h1 h2 => (o1 x (Nat.lt_of_lt_of_le h1 hS.1)).trans (hS.2.1 x h1 h2), hS.2.2⟩
  rw [hz]
  exact this
theorem bm_s_newa (C : bm_Cx p s m args c meth dC dI B cy cc own nL) {pc a nc ns : Nat} {t : ArrayType} {ls st : List am_V} {M : bm_M} {n : Int32} (ha : t = .int ∧ a = 0 ∨ t = .boolean ∧ a = 1) (hw : Cond.arrayClass (newarray.typeOf t) ∈ am_U) (hd : decode cc pc = .ok (.newarray t, 2)) (h0 : 0 ≤ n.toInt) (h1 : n.toInt < 1000) (hc : nc + 1 ≤ R.cells) (hs : ns + n.toNatClampNeg ≤ R.slots)
    (k : bm_Wp p l e R s m args below meth c Q dC dI B cy nL (pc + 2) ls (.inr (0, M.length) :: st) (M ++ [(100 + a, List.replicate n.toNatClampNeg (.inl (.int 0)))]) (nc + 1) (ns + n.toNatClampNeg)) : bm_Wp p l e R s m args below meth c Q dC dI B cy nL pc ls (.inl (.int n) :: st) M nc ns := by
  intro H locs lsA hl hz hP hS
  obtain ⟨hx, hb, hml, hown, hts, hK, -, -, -⟩ := C
  have hnn : ¬ n < 0 := fun h => by have := Int32.lt_iff_toInt_lt.mp h; simp at this; omega
  have hN : n.toNatClampNeg < 1000 := by show n.toInt.toNat < 1000; omega
  have hcb : componentBytes (newarray.typeOf t) ≤ 8 := by rcases ha with ⟨rfl, -⟩ | ⟨rfl, -⟩ <;> decide
  have hmul : n.toNatClampNeg * componentBytes (newarray.typeOf t) ≤ 536870912 := Nat.le_trans (Nat.mul_le_mul (Nat.le_of_lt hN) hcb) (by decide)
  refine va_newaK hx hb (hts _ hw) rfl hd rfl hnn rfl hmul hc hs rfl fun H1 cA e1 z1 o1 hAr hNm => ?_
  have hk : ∀ (k : Nat) (x : Nat × va_E), (bm_W B cy M)[k]? = some x → H1[x.1]? = H[x.1]? := fun k x hx => o1 x.1 ((hP k x hx).lt)
  have hcA : H1[H.size]? = some (vp_cell (cy a) (n.toNatClampNeg, .inl (fun _ => 0))) := by
    rcases ha with ⟨rfl, rfl⟩ | ⟨rfl, rfl⟩
    · have h2 : s.vm.findClass ("[" ++ FieldType.int.toString) = some (cy 0) := (hK.2 0 _ rfl).2
      cases Option.some.inj (hNm.symm.trans h2)
      exact e1
    · have h2 : s.vm.findClass ("[" ++ FieldType.boolean.toString) = some (cy 1) := (hK.2 1 _ rfl).2
      cases Option.some.inj (hNm.symm.trans h2)
      exact e1
  have hP1 : va_P (dC, dI) vwCl (bm_W B cy (M ++ [(100 + a, List.replicate n.toNatClampNeg (.inl (.int 0)))])) H1 := by
    rw [← bm_W_app]
    refine (hP.kept hk).app (fun k x hx => ?_)
    have hz1 : k < 1 := (List.getElem?_eq_some_iff.mp hx).1
    rw [show k = 0 by omega] at hx
    cases hx
    have e2 : bm_en B cy (100 + a, List.replicate n.toNatClampNeg (.inl (.int 0))) = .inl (cy a, n.toNatClampNeg, .inl (fun _ => 0)) := by
      rcases ha with ⟨-, rfl⟩ | ⟨-, rfl⟩
      · show Sum.inl (cy 0, (List.replicate n.toNatClampNeg (Sum.inl (Value.int 0) : am_V)).length, Sum.inl (bm_iv _)) = _
        rw [bm_iv_rep, List.length_replicate]
      · show Sum.inl (cy 1, (List.replicate n.toNatClampNeg (Sum.inl (Value.int 0) : am_V)).length, Sum.inl (bm_iv _)) = _
        rw [bm_iv_rep, List.length_replicate]
    rw [e2, ← hz]
    exact hcA
  have := k H1 locs lsA hl (by rw [z1, hz, List.length_append]; rfl) hP1 ⟨Nat.le_trans hS.1 (by omega), fun x h1 h2 => (o1 x (Nat.lt_of_lt_of_le h1 hS.1)).trans (hS.2.1 x h1 h2), hS.2.2⟩
  rw [hz]
  exact this
theorem bm_ti {a : Nat} (ha : a = 1 ∨ a = 4 ∨ a = 5 ∨ a = 6 ∨ a = 8) : ∃ i : Nat, ∀ cy : Nat → ClassId, (am_ty cy)[i]? = some (cy (3 + a), FieldType.object (am_N a)) := by
  rcases ha with rfl | rfl | rfl | rfl | rfl
  · exact ⟨3, fun _ => rfl⟩
  · exact ⟨4, fun _ => rfl⟩
  · exact ⟨5, fun _ => rfl⟩
  · exact ⟨6, fun _ => rfl⟩
  · exact ⟨7, fun _ => rfl⟩
theorem bm_s_anew (C : bm_Cx p s m args c meth dC dI B cy cc own nL) {pc a idx nc ns : Nat} {ls st : List am_V} {M : bm_M} {n : Int32} (ha : a = 1 ∨ a = 4 ∨ a = 5 ∨ a = 6 ∨ a = 8) (hw : Cond.classLink own idx (am_N a) ∈ am_U) (hd : decode cc pc = .ok (.anewarray idx, 3)) (h0 : 0 ≤ n.toInt) (h1 : n.toInt < 1000) (hc : nc + 1 ≤ R.cells) (hs : ns + n.toNatClampNeg ≤ R.slots)
    (k : bm_Wp p l e R s m args below meth c Q dC dI B cy nL (pc + 3) ls (.inr (0, M.length) :: st) (M ++ [(103 + a, List.replicate n.toNatClampNeg (.inl .null))]) (nc + 1) (ns + n.toNatClampNeg)) : bm_Wp p l e R s m args below meth c Q dC dI B cy nL pc ls (.inl (.int n) :: st) M nc ns := by
  intro H locs lsA hl hz hP hS
  obtain ⟨hx, hb, hml, hown, hts, hK, hNk, -, -⟩ := C
  have hnn : ¬ n < 0 := fun h => by have := Int32.lt_iff_toInt_lt.mp h; simp at this; omega
  have hN : n.toNatClampNeg < 1000 := by show n.toInt.toNat < 1000; omega
  have hAO : va_AO (am_N a) s := hNk.2 a (by rcases ha with rfl | rfl | rfl | rfl | rfl <;> decide)
  refine W.anew hx hb hown (hts _ hw) (va_AO.use hAO) rfl hd rfl hnn (by omega) hc hs fun cA kA comp f1 f2 f3 f4 => ?_
  obtain ⟨i, hi⟩ := bm_ti ha
  obtain ⟨-, kA2, comp2, g1, g2, g3, g4⟩ := hK.2 i _ (hi cy)
  have hcA : cA = cy (3 + a) := Option.some.inj (f1.symm.trans g4)
  generalize hH1 : H.push ({ cls := cA, slots := Array.replicate n.toNatClampNeg .null, vm := .none } : Cell) = H1
  have z1 : H1.size = H.size + 1 := by rw [← hH1, Array.size_push]
  have e1 : H1[H.size]? = some (arrV cA n.toNatClampNeg (fun _ => .null)) := by rw [← hH1, Array.getElem?_push_size, ← arrV_new]
  have o1 : ∀ q : Nat, q < H.size → H1[q]? = H[q]? := fun q hq => by rw [← hH1, Array.getElem?_push, if_neg (Nat.ne_of_lt hq)]
  have hk : ∀ (k : Nat) (x : Nat × va_E), (bm_W B cy M)[k]? = some x → H1[x.1]? = H[x.1]? := fun k x hx => o1 x.1 ((hP k x hx).lt)
  have hP1 : va_P (dC, dI) vwCl (bm_W B cy (M ++ [(103 + a, List.replicate n.toNatClampNeg (.inl .null))])) H1 := by
    rw [← bm_W_app]
    refine (hP.kept hk).app (fun k x hx => ?_)
    have hz1 : k < 1 := (List.getElem?_eq_some_iff.mp hx).1
    rw [show k = 0 by omega] at hx
    cases hx
    rw [bm_en_r, bm_rv_rep, List.length_replicate, ← hz, ← hcA]
    show H1[H.size]? = some (vp_cell _ _)
    rw [vp_cell_q]
    exact e1
  have := k H1 locs lsA hl (by rw [z1, hz, List.length_append]; rfl) hP1 ⟨Nat.le_trans hS.1 (by omega), fun x h1 h2 => (o1 x (Nat.lt_of_lt_of_le h1 hS.1)).trans (hS.2.1 x h1 h2), hS.2.2⟩
  have e9 : Value.ref H.size = am_co (bm_ad B) (.inr (0, M.length)) := by rw [hz]; rfl
  show W p l e R s m args below meth c H1 locs (nc + 1) (ns + n.toNatClampNeg) Q (F0 m (pc + 3) lsA (Value.ref H.size :: st.map (am_co (bm_ad B))))
  rw [e9]
  exact this
theorem bm_s_get (C : bm_Cx p s m args c meth dC dI B cy cc own nL) {pc idx a b nc ns : Nat} {ls r : List am_V} {M : bm_M} {q : Nat × Nat} {vs : List am_V} {v : am_V} (hb11 : b < 11) (ha : a < am_nf b) (hM : M[q.2]? = some (b, vs)) (hv : vs[a]? = some v) (hw : Cond.fieldLink own idx (am_T b a).1 (am_T b a).2.1 (am_T b a).2.2.1 ∈ am_U) (hd : decode cc pc = .ok (.getfield idx, 3))
    (k : bm_Wp p l e R s m args below meth c Q dC dI B cy nL (pc + 3) ls (v :: r) M nc ns) : bm_Wp p l e R s m args below meth c Q dC dI B cy nL pc ls (.inr q :: r) M nc ns := by
  intro H locs lsA hl hz hP hS
  obtain ⟨hx, hb, hml, hown, hts, hK, -, -, -⟩ := C
  have h1 := bm_W_at (B := B) (cy := cy) hM
  rw [bm_en_c (by omega)] at h1
  refine va_get hx hb hts (am_in_u b hb11) hown hK hP q.2 h1 (am_cl_at b hb11) a ha (hts _ hw) (fun x h => h) (v := am_co (bm_ad B) v) ?_ hd (k H locs lsA hl hz hP hS)
  rw [List.getElem?_map, hv]
  rfl
theorem bm_fin_own : ∀ c, c < 11 → ∀ f, f < am_nf c → (am_T c f).1 = am_N c := by decide +kernel
theorem bm_ref_ty : ∀ c, c < 11 → ∀ f, f < am_nf c → ∀ k, am_ft c f = some k → (match parseFieldDescriptor (am_T c f).2.2.1 with | some (.object _) => true | some (.array _) => true | _ => false) = true := by decide +kernel
theorem bm_N_RL : ∀ b, b < 11 → am_N b ≠ RL := by decide +kernel
theorem bm_s_put (C : bm_Cx p s m args c meth dC dI B cy cc own nL) {pc idx a b nc ns : Nat} {ls r : List am_V} {M : bm_M} {q : Nat × Nat} {vs : List am_V} {v : am_V} (hb11 : b < 11) (ha : a < am_nf b) (ho : own = am_N b) (hM : M[q.2]? = some (b, vs)) (hav : a < vs.length) (hw : Cond.fieldLink own idx (am_T b a).1 (am_T b a).2.1 (am_T b a).2.2.1 ∈ am_U) (hd : decode cc pc = .ok (.putfield idx, 3))
    (hv : (∃ q2, v = .inr q2 ∧ ∃ k, am_ft b a = some k) ∨ (∃ x, v = .inl (.int x) ∧ am_ft b a = none ∧ (am_fz b a = true → am_b x = x)))
    (k : bm_Wp p l e R s m args below meth c Q dC dI B cy nL (pc + 3) ls r (M.set q.2 (b, vs.set a v)) nc ns) : bm_Wp p l e R s m args below meth c Q dC dI B cy nL pc ls (v :: .inr q :: r) M nc ns := by
  intro H locs lsA hl hz hP hS
  obtain ⟨hx, hb, hml, hown, hts, hK, -, -, hin9⟩ := C
  have hin2 := hin9 (by rw [ho]; exact bm_N_RL b hb11)
  have h1 := bm_W_at (B := B) (cy := cy) hM
  rw [bm_en_c (by omega)] at h1
  have hty : ∀ f, f < am_nf b → parseFieldDescriptor (am_T b f).2.2.1 = some ((parseFieldDescriptor (am_T b f).2.2.1).getD .int) := fun f hf => by
    have := am_cl_ty b hb11 f hf
    cases hq : parseFieldDescriptor (am_T b f).2.2.1 with
    | none => rw [hq] at this; cases this
    | some t => rfl
  have hn : ∃ ty, parseFieldDescriptor (am_T b a).2.2.1 = some ty ∧ narrow ty (am_co (bm_ad B) v) = am_co (bm_ad B) v ∧ fits ty (am_co (bm_ad B) v) = true := by
    rcases hv with ⟨q2, rfl, k2, hk2⟩ | ⟨x, rfl, hk2, hbx⟩
    · have h3 := bm_ref_ty b hb11 a ha k2 hk2
      split at h3
      · rename_i n hn; exact ⟨_, hn, rfl, rfl⟩
      · rename_i n hn; exact ⟨_, hn, rfl, rfl⟩
      · cases h3
    · refine ⟨_, (am_cl_num b hb11 a ha hk2).2, ?_⟩
      cases hq : am_fz b a with
      | false => exact ⟨rfl, rfl⟩
      | true =>
        show narrow .boolean (.int x) = .int x ∧ fits .boolean (.int x) = true
        rcases am_b01 (hbx hq) with rfl | rfl <;> exact ⟨rfl, rfl⟩
  obtain ⟨ty, hd1, hn1, hf1⟩ := hn
  have fin : ∀ (H1 : Heap) (locs1 : List Loc), va_P (dC, dI) vwCl ((bm_W B cy M).set q.2 (B + q.2, .inr (b, (vs.map (am_co (bm_ad B))).set a (am_co (bm_ad B) v)))) H1 → H1.size = H.size → va_S (bm_A B) s.heap H1 locs1 → W p l e R s m args below meth c H1 locs1 nc ns Q (F0 m (pc + 3) lsA (r.map (am_co (bm_ad B)))) := by
    intro H1 locs1 hP1 hz1 hS1
    refine k H1 locs1 lsA hl (by rw [hz1, hz, List.length_set]) ?_ hS1
    rw [← bm_W_set, bm_en_c (by omega), List.map_set]
    exact hP1
  have hsz : ∀ (H1 : Heap) (locs1 : List Loc), va_S (bm_A B) s.heap H1 locs1 → True := fun _ _ _ => trivial
  have hap := va_apart (own := own) hts (am_in_u b hb11) (fun f => (parseFieldDescriptor (am_T b f).2.2.1).getD .int) hty (am_cl_nm b hb11) hK (am_cl_at b hb11)
  obtain ⟨rr, hh1, cell, q1, q2', q3, q4⟩ := hP q.2 _ h1
  have hr : rr = (am_N b, am_T b, am_nf b) := Option.some.inj (hh1.symm.trans (am_cl_at b hb11))
  subst hr
  obtain ⟨hSl, hfc, kC, hkC, hkind⟩ := hK.1 b _ (am_cl_at b hb11)
  obtain ⟨cf, kf, fi, f, hi, hsl⟩ := hSl a ha
  have hlay := hts _ (am_in_u b hb11 _ (u_in_lay ha))
  unfold u_lay at hlay
  have hst := (u_facts hfc hkC (u_lays hts (am_in_u b hb11) ha) hi).1
  have hl2 : a < (vs.map (am_co (bm_ad B))).length := by rw [List.length_map]; exact hav
  by_cases hfin : (am_T b a).2.2.2 = true
  · rw [if_pos hfin] at hlay
    have hcf : m.cls = cf := by
      obtain ⟨_, _, c', _, _, _, -, -, hf', -, -, -, hown2, -⟩ := Cond.laysFinal_spec hlay
      have e1 : c' = cf := by have := hi.symm.trans hf'; simp at this; exact this.1.symm
      rw [bm_fin_own b hb11 a ha, ← ho] at hown2
      rw [← e1]; exact Option.some.inj (hown.symm.trans hown2)
    have h6 := u_fits hfc hkC hkind (Or.inr hlay) hi hd1 hn1 hf1
    refine W.putFinK hx hb hown (hts _ hw) hi hst hcf hin2 (by rw [q2']; exact h6) q1 q3 (by rw [hsl]; exact k2_hasslot (q4 a ha)) rfl rfl hd fun H' e1 e2 e3 => ?_
    rw [hsl] at e1 ⊢
    exact fin H' _ (hP.set (bm_W_D M) h1 ⟨_, am_cl_at b hb11, t_OB.to (V := updV (vp_V (vs.map (am_co (bm_ad B)))) a (am_co (bm_ad B) v)) ⟨_, e1, q2', q3, t_set q4 hap ha (am_co (bm_ad B) v)⟩ (fun j _ => vp_updV_set hl2 _ j)⟩ e3) e2 (hS.put e2 e3 ((bm_W_D (B := B) (cy := cy) M).2 q.2 _ h1))
  · rw [if_neg hfin] at hlay
    have h6 := u_store hfc hkC hkind hlay hi hd1 hn1 hf1
    refine W.putK hx hb (f := f) ⟨hown, hts _ hw, ⟨_, _, _, hi⟩, hst⟩ (by rw [q2']; exact h6) q1 q3 (by rw [hsl]; exact k2_hasslot (q4 a ha)) rfl rfl hd fun H' e1 e2 e3 => ?_
    rw [hsl] at e1 ⊢
    exact fin H' _ (hP.set (bm_W_D M) h1 ⟨_, am_cl_at b hb11, t_OB.to (V := updV (vp_V (vs.map (am_co (bm_ad B)))) a (am_co (bm_ad B) v)) ⟨_, e1, q2', q3, t_set q4 hap ha (am_co (bm_ad B) v)⟩ (fun j _ => vp_updV_set hl2 _ j)⟩ e3) e2 (hS.put e2 e3 ((bm_W_D (B := B) (cy := cy) M).2 q.2 _ h1))
theorem bm_s_newl (C : bm_Cx p s m args c meth dC dI B cy cc own nL) {pc nc ns : Nat} {ls st : List am_V} {M : bm_M} (hw : Cond.arrayClass .long ∈ am_U) (hd : decode cc pc = .ok (.newarray .long, 2)) (hc : nc + 1 ≤ R.cells) (hs : ns + 1 ≤ R.slots)
    (k : bm_Wp p l e R s m args below meth c Q dC dI B cy nL (pc + 2) ls (.inr (0, M.length) :: st) (M ++ [(102, [.inl (.int 0)])]) (nc + 1) (ns + 1)) : bm_Wp p l e R s m args below meth c Q dC dI B cy nL pc ls (.inl (.int 1) :: st) M nc ns := by
  intro H locs lsA hl hz hP hS
  obtain ⟨hx, hb, hml, hown, hts, hK, -, -, -⟩ := C
  refine va_newaK (atype := .long) (n := 1) (N := 1) hx hb (hts _ hw) rfl hd rfl (by decide) (by decide) (by decide) hc hs rfl fun H1 cA e1 z1 o1 hAr hNm => ?_
  have hk : ∀ (k : Nat) (x : Nat × va_E), (bm_W B cy M)[k]? = some x → H1[x.1]? = H[x.1]? := fun k x hx => o1 x.1 ((hP k x hx).lt)
  have hcA : H1[H.size]? = some (vp_cell (cy 2) (1, .inr (.inl (fun _ => 0)))) := by
    have h2 : s.vm.findClass ("[" ++ FieldType.long.toString) = some (cy 2) := (hK.2 2 _ rfl).2
    cases Option.some.inj (hNm.symm.trans h2)
    exact e1
  have hP1 : va_P (dC, dI) vwCl (bm_W B cy (M ++ [(102, [.inl (.int 0)])])) H1 := by
    rw [← bm_W_app]
    refine (hP.kept hk).app (fun k x hx => ?_)
    have hz1 : k < 1 := (List.getElem?_eq_some_iff.mp hx).1
    rw [show k = 0 by omega] at hx
    cases hx
    rw [← hz]
    exact hcA
  have := k H1 locs lsA hl (by rw [z1, hz, List.length_append]; rfl) hP1 ⟨Nat.le_trans hS.1 (by omega), fun x h1 h2 => (o1 x (Nat.lt_of_lt_of_le h1 hS.1)).trans (hS.2.1 x h1 h2), hS.2.2⟩
  rw [hz]
  exact this
end BMS
end
section
section BMT
variable {p : Program} {l : Launch} {e : Env} {R : Room} {s : State} {m : MethodId} {args : Array Value} {below : List Frame} {meth : Method} {c : Code} {Q : State → Prop}
variable {dC : Nat → ClassId} {dI : Nat → Nat → Nat} {B : Nat} {cy : Nat → ClassId} {cc : ByteArray} {own : String} {nL : Nat}
theorem bm_s_iast (C : bm_Cx p s m args c meth dC dI B cy cc own nL) {pc nc ns : Nat} {ls r : List am_V} {M : bm_M} {q : Nat × Nat} {vs : List am_V} {x y : Int32} (hM : M[q.2]? = some (100, vs)) (hi : am_in x vs.length) (hd : decode cc pc = .ok (.iastore, 1))
    (k : bm_Wp p l e R s m args below meth c Q dC dI B cy nL (pc + 1) ls r (M.set q.2 (100, vs.set x.toNatClampNeg (.inl (.int y)))) nc ns) : bm_Wp p l e R s m args below meth c Q dC dI B cy nL pc ls (.inl (.int y) :: .inl (.int x) :: .inr q :: r) M nc ns := by
  intro H locs lsA hl hz hP hS
  obtain ⟨hx, hb, hml, hown, hts, hK, -, -, -⟩ := C
  have h1 : (bm_W B cy M)[q.2]? = some (B + q.2, .inl (cy 0, vs.length, .inl (bm_iv vs))) := bm_W_at (B := B) (cy := cy) hM
  have hlt : x.toNatClampNeg < vs.length := by have := hi.1; have := hi.2; show x.toInt.toNat < _; omega
  have hin : vp_in x vs.length := am_in_vp hi
  refine W.iast hx hb (hP q.2 _ h1) ((hK.2 0 _ rfl).1 vs.length (fun j => .int (bm_iv vs j))) (fun q => by cases q) (by show ¬ (x < 0 ∨ (arrV _ _ _).slots.size ≤ _); rw [arrV_size]; exact hin) rfl rfl hd fun H1 e1 z1 oq => ?_
  refine k H1 _ lsA hl (by rw [z1, hz, List.length_set]) ?_ (hS.put z1 oq ((bm_W_D (B := B) (cy := cy) M).2 q.2 _ h1))
  rw [← bm_W_set]
  refine hP.set (bm_W_D M) h1 ?_ oq
  show H1[B + q.2]? = some (vp_cell (cy 0) ((vs.set x.toNatClampNeg (.inl (.int y))).length, .inl (bm_iv (vs.set x.toNatClampNeg (.inl (.int y))))))
  rw [List.length_set, bm_iv_set hlt, e1]
  refine congrArg some ?_
  show (arrV (cy 0) vs.length (fun j => .int (bm_iv vs j))).setSlot x.toNatClampNeg (.int y) = arrV (cy 0) vs.length (fun j => .int (upd (bm_iv vs) x.toNatClampNeg y j))
  rw [arrV_store]
  congr 1
  funext j
  unfold updV upd
  by_cases hj : j = x.toNatClampNeg
  · simp [hj]
  · simp [hj]
theorem bm_s_aast (C : bm_Cx p s m args c meth dC dI B cy cc own nL) {pc nc ns k2 : Nat} {ls r : List am_V} {M : bm_M} {q q2 : Nat × Nat} {vs vs2 : List am_V} {x : Int32} (hM : M[q.2]? = some (103 + k2, vs)) (hM2 : M[q2.2]? = some (k2, vs2)) (hk2 : k2 = 1 ∨ k2 = 4 ∨ k2 = 5 ∨ k2 = 6 ∨ k2 = 8) (hi : am_in x vs.length) (hd : decode cc pc = .ok (.aastore, 1))
    (k : bm_Wp p l e R s m args below meth c Q dC dI B cy nL (pc + 1) ls r (M.set q.2 (103 + k2, vs.set x.toNatClampNeg (.inr q2))) nc ns) : bm_Wp p l e R s m args below meth c Q dC dI B cy nL pc ls (.inr q2 :: .inl (.int x) :: .inr q :: r) M nc ns := by
  intro H locs lsA hl hz hP hS
  obtain ⟨hx, hb, hml, hown, hts, hK, -, -, -⟩ := C
  have h1 := bm_W_at (B := B) (cy := cy) hM
  rw [bm_en_r] at h1
  have h2 := bm_W_at (B := B) (cy := cy) hM2
  have hk11 : k2 < 11 := by rcases hk2 with rfl | rfl | rfl | rfl | rfl <;> decide
  rw [bm_en_c (by omega)] at h2
  have hlt : x.toNatClampNeg < vs.length := by have := hi.1; have := hi.2; show x.toInt.toNat < _; omega
  obtain ⟨i, hti⟩ := bm_ti hk2
  have hin := am_in_vp hi
  have h0 : ¬ x < 0 := fun q => hin (Or.inl q)
  obtain ⟨r', hr', cellV, g1, g2, g3, -⟩ := hP q2.2 _ h2
  have hcls := (hK.1 k2 _ (am_cl_at k2 hk11)).2
  obtain ⟨kA, comp, k1, kk2, k3, -⟩ := (hK.2 i _ (hti cy)).2
  have hcomp : comp = dC k2 := Option.some.inj (k3.symm.trans hcls.1)
  subst hcomp
  obtain ⟨kC, hkC, -⟩ := hcls.2
  refine W.aast hx hb (hP q.2 _ h1) (fun q h => by cases h) (fun h => by cases h) k1 kk2 rfl hkC ⟨h0, by show _ < (arrV _ _ _).slots.size; rw [arrV_size]; exact hlt⟩ g1 (fun q h => by rw [g3] at h; cases h) (by rw [g2]; exact hkC) (by rw [g2]; exact va_assign hcls) rfl rfl hd fun H1 e1 z1 oq => ?_
  refine k H1 _ lsA hl (by rw [z1, hz, List.length_set]) ?_ (hS.put z1 oq ((bm_W_D (B := B) (cy := cy) M).2 q.2 _ h1))
  rw [← bm_W_set, bm_en_r, List.length_set, bm_rv_set hlt]
  refine hP.set (bm_W_D M) h1 ?_ oq
  show H1[B + q.2]? = some (vp_cell _ _)
  rw [e1]
  rw [vp_cell_q, vp_cell_q, arrV_store]
  congr 2
  funext j
  by_cases hj : j = x.toNatClampNeg
  · subst hj
    simp [updV, va_up, va_rf]
  · simp [updV, va_up, hj]
end BMT
end
section
section BMU
variable {p : Program} {l : Launch} {e : Env} {R : Room} {s : State} {m : MethodId} {args : Array Value} {below : List Frame} {meth : Method} {c : Code} {Q : State → Prop}
variable {dC : Nat → ClassId} {dI : Nat → Nat → Nat} {B : Nat} {cy : Nat → ClassId} {cc : ByteArray} {own : String} {nL : Nat}
theorem bm_back {H : Heap} {locs : List Loc} {cells slots mc ms pc : Nat} {lsA : Array Slot} {st0 rest : List Value} {a' : Array Value} {M' : bm_M} (hr : va_Run p l e R s m args below meth c H locs cells slots mc ms (F0 m pc lsA st0) rest (bm_Q dC dI B cy M' a') (bm_A B)) (hS : va_S (bm_A B) s.heap H locs)
    (kk : ∀ (H1 : Heap) (locs1 : List Loc), H1.size = B + M'.length → va_P (dC, dI) vwCl (bm_W B cy M') H1 → va_S (bm_A B) s.heap H1 locs1 → W p l e R s m args below meth c H1 locs1 (cells + mc) (slots + ms) Q (F0 m (pc + 3) lsA rest)) : W p l e R s m args below meth c H locs cells slots Q (F0 m pc lsA st0) := by
  intro T hT X
  obtain ⟨v, st₀, t, T', L, h0, X', hL, e1, e2, ⟨hv, hsz, hP, hz, hk⟩, st⟩ := hr T hT X
  cases hv
  rw [h0] at hz hk
  obtain ⟨t2, a1, b1⟩ := kk T'.heap (locs ++ L) (by rw [e1]; exact hsz) (by rw [e1]; exact hP)
    ⟨Nat.le_trans hS.1 (by rw [e1]; exact hz), fun q h1 h2 => by rw [e1, hk q (Nat.lt_of_lt_of_le h1 hS.1) h2]; exact hS.2.1 q h1 h2, fun q hq => by
      rcases List.mem_append.mp hq with h | h
      · exact hS.2.2 q h
      · exact hL q h⟩ T' rfl X'
  exact ⟨t2, st t2 a1, b1⟩
theorem bm_s_call (C : bm_Cx p s m args c meth dC dI B cy cc own nL) {pc idx nc ns : Nat} {ls r : List am_V} {M M' : bm_M} {q : Nat × Nat} {cq : bm_C} {F : bm_F × Nat × Nat} (hq : bm_Cal l dC dI B cy R cq F) (hroom : nc + F.2.1 ≤ R.cells ∧ ns + F.2.2 ≤ R.slots)
    (hn : (∀ w ∈ ([.instanceMethod cq.1, .initialized cq.1.cls] : List Cond), w ∈ am_U) ∧ (Cond.methodLink own idx cq.1 ∈ am_U ∨ (own, idx, cq.1, RX9) ∈ bm_nl))
    (hd : decode cc pc = .ok (.invokespecial idx, 3)) (hF : F.1 q.2 M = some M') (hre : ∀ v ∈ r, bm_ok v) (hwt : am_wt r ≤ 8)
    (kk : bm_Wp p l e R s m args below meth c Q dC dI B cy nL (pc + 3) ls r M' (nc + F.2.1) (ns + F.2.2)) : bm_Wp p l e R s m args below meth c Q dC dI B cy nL pc ls (.inr q :: r) M nc ns := by
  obtain ⟨y, w, rm, mL⟩ := cq
  obtain ⟨hOk, hw, hc1, hc2, hfr, hlo, hyd, hnm, bytes, rfl⟩ := hq
  have hM := hOk q.2 M M' hF
  rw [hc1, hc2] at hM
  intro H locs lsA hl hz hP hS
  obtain ⟨hx, hb, hml, hown, hts, hK, hNk, -, -⟩ := C
  have hsum : 2 * 0 + ((r.map (am_co (bm_ad B))).map fun v => v.category).sum ≤ 8 := by have := bm_wt_le (ad := bm_ad B) hre; omega
  obtain ⟨hn0, hn1⟩ := hn
  have hin0 := hn0 (.instanceMethod y) List.mem_cons_self
  have hini := hn0 (.initialized y.cls) (List.mem_cons_of_mem _ List.mem_cons_self)
  have hpre : PreS s H (va_Pc [.ref (B + q.2)] (bm_St dC dI B cy M)) (.ref (B + q.2) :: []) := ⟨bm_St_blind, fun U hU hW => ⟨rfl, by rw [hU]; exact hz, by rw [hU]; exact hP, va_K.moved hW.alike hK, bm_Nk.warm hW hNk⟩⟩
  rcases hn1 with hm | hm
  · exact bm_back (a' := (Value.ref (B + q.2) :: ([] : List Value)).toArray) (va_runI (b := B + q.2) (As := []) (rest := r.map (am_co (bm_ad B))) ⟨hx, hb, hml, hown, hts⟩ hM (cwI 0 hts (am_good _ hw) rfl hc1 hc2 (hts _ hini) (hts _ hm) (hts _ hin0) hnm hyd ⟨hfr, hlo⟩) hpre rfl rfl hl.1 rfl hsum hd hroom) hS (fun H1 locs1 h1 h2 h3 => kk H1 locs1 lsA hl h1 h2 h3)
  · exact bm_back (a' := (Value.ref (B + q.2) :: ([] : List Value)).toArray) (va_runIN (b := B + q.2) (As := []) (rest := r.map (am_co (bm_ad B))) (host := RX9) ⟨hx, hb, hml, hown, hts⟩ hM ⟨va_cnB 0 hts (am_good _ hw) rfl hc1 hc2 (hNk.1 _ hm) (hts _ hini) hyd ⟨hfr, hlo⟩, hnm, hts _ hin0⟩ hpre rfl rfl hl.1 rfl hsum hd hroom) hS (fun H1 locs1 h1 h2 h3 => kk H1 locs1 lsA hl h1 h2 h3)
theorem bm_chk_am {nL pc : Nat} {i : Instr} {len a b : Nat} {z : Value} (h : bm_chk nL pc (i, len, a, b, z) = true) (h1 : ∀ k, i ≠ .new k) (h2 : ∀ k, i ≠ .newarray k) (h3 : ∀ k, i ≠ .anewarray k) (h4 : ∀ k, i ≠ .invokespecial k) : am_chk nL pc (i, len, a, b, z) = true := by
  unfold bm_chk at h
  cases i <;> first | exact h | exact absurd rfl (h1 _) | exact absurd rfl (h2 _) | exact absurd rfl (h3 _) | exact absurd rfl (h4 _)
set_option maxHeartbeats 4000000 in
theorem bm_step_ok (C : bm_Cx p s m args c meth dC dI B cy cc own nL) (ho : ∃ k, k < 11 ∧ own = am_N k) {cs : List (bm_F × Nat × Nat)} {P : am_P} {ci : List bm_C}
    (hrow : ∀ (pc : Nat) (r : am_Row), am_at P pc = some r → decode cc pc = .ok (r.1, r.2.1) ∧ bm_chk nL pc r = true ∧ ∀ w ∈ bm_need own ci r, w ∈ am_U)
    (hput : ∀ (pc : Nat) (k len a b : Nat) (z : Value), am_at P pc = some (.putfield k, len, a, b, z) → own = am_N b)
    (hcs : ∀ (a : Nat) (F : bm_F × Nat × Nat), cs[a]? = some F → ∃ q : bm_C, ci[a]? = some q ∧ bm_Cal l dC dI B cy R q F)
    (hfr1 : 1 ≤ R.frames) (hlo1 : 20 ≤ R.locals)
    {K : Nat → List am_V → List am_V → bm_M → Nat → Nat → bm_R} {Mf : bm_M} {nf sf : Nat}
    (hK : ∀ pc ls st M nc ns, K pc ls st M nc ns = some (Mf, nf, sf) → (∀ v ∈ ls, bm_ok v) → (∀ v ∈ st, bm_ok v) → bm_Wp p l e R s m args below meth c Q dC dI B cy nL pc ls st M nc ns)
    (hfin : ∀ (pc : Nat) (a b : Nat) (z : Value) (ls : List am_V), am_at P pc = some (.return_, 1, a, b, z) → bm_Wp p l e R s m args below meth c Q dC dI B cy nL pc ls [] Mf nf sf)
    (pc : Nat) (ls st : List am_V) (M : bm_M) (nc ns : Nat) (hls : ∀ v ∈ ls, bm_ok v) (hst : ∀ v ∈ st, bm_ok v) (h : bm_step cs R.cells R.slots P K pc ls st M nc ns = some (Mf, nf, sf)) : bm_Wp p l e R s m args below meth c Q dC dI B cy nL pc ls st M nc ns := by
  have C' := C
  obtain ⟨hx, hb, hml, hown, hts, hKK, hNk, -, -⟩ := C
  unfold bm_step at h
  cases hat : am_at P pc with
  | none => rw [hat] at h; cases h
  | some row =>
    obtain ⟨i, len, a, b, z⟩ := row
    obtain ⟨hd, hc0, hw⟩ := hrow pc _ hat
    rw [hat] at h
    simp only at hd h
    have t1 : ∀ {v : am_V} {l : List am_V}, (∀ w ∈ v :: l, bm_ok w) → ∀ w ∈ l, bm_ok w := fun h w hw => h w (List.mem_cons_of_mem _ hw)
    have t2 : ∀ {v : am_V} {l : List am_V}, bm_ok v → (∀ w ∈ l, bm_ok w) → ∀ w ∈ v :: l, bm_ok w := fun h1 h2 w hw => (List.mem_cons.mp hw).elim (fun e => e ▸ h1) (h2 w)
    cases i with
    | iconst v =>
      dsimp only at h
      have hc := hc0; simp only [bm_chk, am_chk, decide_eq_true_eq] at hc
      obtain ⟨rfl, rfl⟩ := hc
      intro H locs lsA hl hz hP hS
      exact lv_iconst hx hb hd rfl (hK _ _ _ _ _ _ h hls (t2 trivial hst) H locs lsA hl hz hP hS)
    | bipush v =>
      dsimp only at h
      have hc := hc0; simp only [bm_chk, am_chk, decide_eq_true_eq] at hc
      obtain ⟨rfl, rfl⟩ := hc
      intro H locs lsA hl hz hP hS
      exact lv_bipush hx hb hd rfl (hK _ _ _ _ _ _ h hls (t2 trivial hst) H locs lsA hl hz hP hS)
    | sipush v =>
      dsimp only at h
      have hc := hc0; simp only [bm_chk, am_chk, decide_eq_true_eq] at hc
      obtain ⟨rfl, rfl⟩ := hc
      intro H locs lsA hl hz hP hS
      exact lv_sipush hx hb hd rfl (hK _ _ _ _ _ _ h hls (t2 trivial hst) H locs lsA hl hz hP hS)
    | ldc k =>
      dsimp only at h
      have hc := hc0; simp only [bm_chk, am_chk, Bool.and_eq_true, decide_eq_true_eq] at hc
      obtain ⟨rfl, hz0⟩ := hc
      split at hz0
      · intro H locs lsA hl hz hP hS
        exact lv_ldc hx hb hown (hts _ (hw _ (by simp [bm_need, am_need]))) hd (hK _ _ _ _ _ _ h hls (t2 trivial hst) H locs lsA hl hz hP hS)
      · cases hz0
    | iload_n k =>
      dsimp only at h
      have hc := hc0; simp only [bm_chk, am_chk, decide_eq_true_eq] at hc
      obtain ⟨rfl, rfl⟩ := hc
      split at h
      · rename_i x hv
        intro H locs lsA hl hz hP hS
        exact lv_iload_n hx hb hd rfl (am_lv_at hl hv rfl) (hK _ _ _ _ _ _ h hls (t2 trivial hst) H locs lsA hl hz hP hS)
      · cases h
    | aload_n k =>
      dsimp only at h
      have hc := hc0; simp only [bm_chk, am_chk, decide_eq_true_eq] at hc
      obtain ⟨rfl, rfl⟩ := hc
      split at h
      · rename_i q hv
        intro H locs lsA hl hz hP hS
        exact lv_aload_n hx hb hd rfl (am_lv_at hl hv rfl) (hK _ _ _ _ _ _ h hls (t2 trivial hst) H locs lsA hl hz hP hS)
      · cases h
    | istore_n k =>
      dsimp only at h
      have hc := hc0; simp only [bm_chk, am_chk, decide_eq_true_eq] at hc
      obtain ⟨rfl, rfl, hn⟩ := hc
      split at h
      · rename_i x r
        intro H locs lsA hl hz hP hS
        exact lv_istore_n hx hb hd rfl hl hn rfl (fun lsB hl2 => hK _ _ _ _ _ _ h (bm_ok_set1 hls trivial) (t1 hst) H locs lsB (am_lv_set1 (v := .inl _) (bm_ok_nod hls) hl2) hz hP hS)
      · cases h
    | iinc k v =>
      dsimp only at h
      have hc := hc0; simp only [bm_chk, am_chk, decide_eq_true_eq] at hc
      obtain ⟨rfl, rfl, hn, rfl⟩ := hc
      split at h
      · rename_i x v2 hv he
        cases he
        intro H locs lsA hl hz hP hS
        obtain ⟨kx, hkx⟩ := List.getElem?_of_mem (am_lv_mem.mpr ⟨_, _, hv, rfl, rfl⟩ : (0 + k, am_co (bm_ad B) (.inl (.int x))) ∈ am_lv (bm_ad B) 0 ls)
        rw [Nat.zero_add] at hkx
        exact lv_iinc hx hb hd hl hkx rfl hn rfl (fun lsB hl2 => hK _ _ _ _ _ _ h (bm_ok_set1 hls trivial) hst H locs lsB (am_lv_set1 (v := .inl _) (bm_ok_nod hls) hl2) hz hP hS)
      · cases h
    | iadd =>
      dsimp only at h
      have hc := hc0; simp only [bm_chk, am_chk, decide_eq_true_eq] at hc
      subst hc
      split at h
      · intro H locs lsA hl hz hP hS
        exact lv_iadd hx hb hd (hK _ _ _ _ _ _ h hls (t2 trivial (t1 (t1 hst))) H locs lsA hl hz hP hS)
      · cases h
    | imul =>
      dsimp only at h
      have hc := hc0; simp only [bm_chk, am_chk, decide_eq_true_eq] at hc
      subst hc
      split at h
      · intro H locs lsA hl hz hP hS
        exact lv_imul hx hb hd (hK _ _ _ _ _ _ h hls (t2 trivial (t1 (t1 hst))) H locs lsA hl hz hP hS)
      · cases h
    | dup =>
      dsimp only at h
      have hc := hc0; simp only [bm_chk, am_chk, decide_eq_true_eq] at hc
      subst hc
      split at h
      · intro H locs lsA hl hz hP hS
        exact lv_dup hx hb hd rfl (hK _ _ _ _ _ _ h hls (t2 (hst _ List.mem_cons_self) hst) H locs lsA hl hz hP hS)
      · cases h
    | goto off =>
      dsimp only at h
      have hc := hc0; simp only [bm_chk, am_chk, decide_eq_true_eq] at hc
      obtain ⟨rfl, ht⟩ := hc
      intro H locs lsA hl hz hP hS
      exact lv_goto hx hb hd ht (hK _ _ _ _ _ _ h hls hst H locs lsA hl hz hP hS)
    | if_icmp cn off =>
      dsimp only at h
      have hc := hc0; simp only [bm_chk, am_chk, decide_eq_true_eq] at hc
      obtain ⟨rfl, ht⟩ := hc
      split at h
      · cases cn with
        | ge =>
          simp only at h
          split at h
          · rename_i hq
            intro H locs lsA hl hz hP hS
            exact lv_icmp_ge hx hb hd ht (fun _ => hK _ _ _ _ _ _ h hls (t1 (t1 hst)) H locs lsA hl hz hP hS) (fun z => absurd hq z)
          · rename_i hq
            intro H locs lsA hl hz hP hS
            exact lv_icmp_ge hx hb hd ht (fun z => absurd z hq) (fun _ => hK _ _ _ _ _ _ h hls (t1 (t1 hst)) H locs lsA hl hz hP hS)
        | gt =>
          simp only at h
          split at h
          · rename_i hq
            intro H locs lsA hl hz hP hS
            exact lv_icmp_gt hx hb hd ht (fun _ => hK _ _ _ _ _ _ h hls (t1 (t1 hst)) H locs lsA hl hz hP hS) (fun z => absurd hq z)
          · rename_i hq
            intro H locs lsA hl hz hP hS
            exact lv_icmp_gt hx hb hd ht (fun z => absurd z hq) (fun _ => hK _ _ _ _ _ _ h hls (t1 (t1 hst)) H locs lsA hl hz hP hS)
        | _ => cases h
      · cases h
    | new idx =>
      dsimp only at h
      have hc := hc0; simp only [bm_chk, decide_eq_true_eq] at hc
      obtain ⟨rfl, ha⟩ := hc
      cases hq : (Nat.ble (nc + 1) R.cells && Nat.ble (ns + am_nf a) R.slots) with
      | false => rw [hq] at h; cases h
      | true =>
        rw [hq] at h
        simp only [Bool.and_eq_true] at hq
        simp only [cond_true] at h
        exact bm_s_new C' ha (fun w hw2 => hw w hw2) hd (Nat.le_of_ble_eq_true hq.1) (Nat.le_of_ble_eq_true hq.2) (hK _ _ _ _ _ _ h hls (t2 trivial hst))
    | newarray t =>
      dsimp only at h
      have hc := hc0; simp only [bm_chk, decide_eq_true_eq] at hc
      obtain ⟨rfl, ha⟩ := hc
      split at h
      · split at h
        · rename_i n r hn
          obtain ⟨n1, n2, n3, n4⟩ := hn
          exact bm_s_newa C' ha (hw _ (by simp [bm_need])) hd n1 n2 n3 n4 (hK _ _ _ _ _ _ h hls (t2 trivial (t1 hst)))
        · cases h
      · cases h
    | anewarray idx =>
      dsimp only at h
      have hc := hc0; simp only [bm_chk, decide_eq_true_eq] at hc
      obtain ⟨rfl, ha⟩ := hc
      split at h
      · split at h
        · rename_i n r hn
          obtain ⟨n1, n2, n3, n4⟩ := hn
          exact bm_s_anew C' ha (hw _ (by simp [bm_need])) hd n1 n2 n3 n4 (hK _ _ _ _ _ _ h hls (t2 trivial (t1 hst)))
        · cases h
      · cases h
    | getfield idx =>
      dsimp only at h
      have hc := hc0; simp only [bm_chk, am_chk, decide_eq_true_eq] at hc
      obtain ⟨rfl, hb11, ha⟩ := hc
      split at h
      · rename_i q r
        split at h
        · rename_i c2 vs hM
          cases hq : Nat.beq c2 b with
          | false => rw [hq] at h; cases h
          | true =>
            rw [hq] at h
            have e0 := Nat.eq_of_beq_eq_true hq
            subst e0
            simp only [cond_true] at h
            split at h
            · rename_i q2 hv
              exact bm_s_get C' hb11 ha hM hv (hw _ (by simp [bm_need, am_need])) hd (hK _ _ _ _ _ _ h hls (t2 trivial (t1 hst)))
            · cases h
        · cases h
      · cases h
    | putfield idx =>
      dsimp only at h
      have hc := hc0; simp only [bm_chk, am_chk, decide_eq_true_eq] at hc
      obtain ⟨rfl, hb11, ha⟩ := hc
      have hob := hput pc idx _ _ _ _ hat
      split at h
      · rename_i q2 q r
        split at h
        · rename_i c2 vs k2 hM hft
          cases hq : (Nat.beq c2 b && Nat.blt a vs.length) with
          | false => rw [hq] at h; cases h
          | true =>
            rw [hq] at h
            simp only [Bool.and_eq_true] at hq
            have e0 := Nat.eq_of_beq_eq_true hq.1
            subst e0
            simp only [cond_true] at h
            exact bm_s_put C' hb11 ha hob hM (Nat.blt_eq.mp hq.2) (hw _ (by simp [bm_need, am_need])) hd (Or.inl ⟨q2, rfl, k2, hft⟩) (hK _ _ _ _ _ _ h hls (t1 (t1 hst)))
        · cases h
      · rename_i x q r
        split at h
        · rename_i c2 vs hM hft
          cases hq : (Nat.beq c2 b && Nat.blt a vs.length) with
          | false => rw [hq] at h; cases h
          | true =>
            rw [hq] at h
            simp only [Bool.and_eq_true] at hq
            have e0 := Nat.eq_of_beq_eq_true hq.1
            subst e0
            simp only [cond_true] at h
            split at h
            · rename_i hbx
              exact bm_s_put C' hb11 ha hob hM (Nat.blt_eq.mp hq.2) (hw _ (by simp [bm_need, am_need])) hd (Or.inr ⟨x, rfl, hft, hbx⟩) (hK _ _ _ _ _ _ h hls (t1 (t1 hst)))
            · cases h
        · cases h
      · cases h
    | iastore =>
      dsimp only at h
      have hc := hc0; simp only [bm_chk, am_chk, decide_eq_true_eq] at hc
      subst hc
      split at h
      · rename_i y x q r
        split at h
        · rename_i vs hM
          split at h
          · rename_i hi
            exact bm_s_iast C' hM hi hd (hK _ _ _ _ _ _ h hls (t1 (t1 (t1 hst))))
          · cases h
        · cases h
      · cases h
    | aastore =>
      dsimp only at h
      have hc := hc0; simp only [bm_chk, am_chk, decide_eq_true_eq] at hc
      subst hc
      split at h
      · rename_i q2 x q r
        split at h
        · rename_i c1 vs c2 vs2 hM hM2
          split at h
          · rename_i hi
            obtain ⟨rfl, hk5, hin⟩ := hi
            by_cases hk : c2 = 1 ∨ c2 = 4 ∨ c2 = 5 ∨ c2 = 6 ∨ c2 = 8
            · exact bm_s_aast C' hM hM2 hk hin hd (hK _ _ _ _ _ _ h hls (t1 (t1 (t1 hst))))
            · exact absurd hk5 hk
          · cases h
        · cases h
      · cases h
    | invokespecial idx =>
      dsimp only at h
      have hc := hc0; simp only [bm_chk, decide_eq_true_eq] at hc
      subst hc
      split at h
      · rename_i q r
        cases hwt : Nat.ble (am_wt r) 8 with
        | false => rw [hwt] at h; cases h
        | true =>
          rw [hwt] at h
          simp only [cond_true] at h
          have hwt := Nat.le_of_ble_eq_true hwt
          cases hb0 : Nat.beq b 0 with
          | true =>
            rw [hb0] at h
            simp only [cond_true] at h
            have e0 := Nat.eq_of_beq_eq_true hb0
            subst e0
            have hw' : ∀ w ∈ ([.methodLink own idx objectInit, .instanceMethod objectInit, .code objectInit ⟨#[0xb1]⟩ 1 none] : List Cond), w ∈ am_U := fun w hw2 => hw w (by simp only [bm_need, if_true]; exact hw2)
            intro H locs lsA hl hz hP hS
            refine W.objInit hx hb hown (hts _ (hw' _ List.mem_cons_self)) (hts _ (hw' _ (List.mem_cons_of_mem _ List.mem_cons_self))) (hts _ (hw' _ (List.mem_cons_of_mem _ (List.mem_cons_of_mem _ List.mem_cons_self)))) rfl (by rw [hml]; exact hl.1) rfl hd hfr1 ?_ (hK _ _ _ _ _ _ h hls (t1 hst) H locs lsA hl hz hP hS)
            have := bm_wt_le (ad := bm_ad B) (t1 hst)
            show 2 * 0 + ((r.map (am_co (bm_ad B))).map fun v => v.category).sum + 12 ≤ R.locals
            omega
          | false =>
            rw [hb0] at h
            simp only [cond_false] at h
            have hbne : b ≠ 0 := fun e => by subst e; cases hb0
            split at h
            · rename_i F mc' ms' hF
              cases hq : (Nat.ble (nc + mc') R.cells && Nat.ble (ns + ms') R.slots) with
              | false => rw [hq] at h; cases h
              | true =>
                rw [hq] at h
                simp only [Bool.and_eq_true] at hq
                simp only [cond_true] at h
                split at h
                · rename_i M' hFM
                  obtain ⟨cq, hcq, hCal⟩ := hcs a _ hF
                  have hw' : ∀ w ∈ ([.instanceMethod cq.1, .initialized cq.1.cls] ++ (if (own, idx, cq.1, RX9) ∈ bm_nl then [] else [.methodLink own idx cq.1]) : List Cond), w ∈ am_U := fun w hw2 => hw w (by
                    simp only [bm_need]
                    rw [if_neg hbne, hcq]
                    exact hw2)
                  refine bm_s_call C' (idx := idx) (F := (F, mc', ms')) hCal ⟨Nat.le_of_ble_eq_true hq.1, Nat.le_of_ble_eq_true hq.2⟩ ⟨fun w hw2 => hw' w (List.mem_append_left _ hw2), ?_⟩ hd hFM (t1 hst) hwt (hK _ _ _ _ _ _ h hls (t1 hst))
                  by_cases hn : (own, idx, cq.1, RX9) ∈ bm_nl
                  · exact Or.inr hn
                  · refine Or.inl (hw' _ (List.mem_append_right _ ?_))
                    rw [if_neg hn]
                    exact List.mem_cons_self
                · cases h
            · cases h
      · cases h
    | return_ =>
      dsimp only [bm_fin] at h
      have hc := hc0; simp only [bm_chk, am_chk, decide_eq_true_eq] at hc
      subst hc
      split at h
      · cases h
        exact hfin pc a b z ls hat
      · cases h
    | _ => simp [bm_fin] at h
theorem bm_run_ok (C : bm_Cx p s m args c meth dC dI B cy cc own nL) (ho : ∃ k, k < 11 ∧ own = am_N k) {cs : List (bm_F × Nat × Nat)} {P : am_P} {ci : List bm_C}
    (hrow : ∀ (pc : Nat) (r : am_Row), am_at P pc = some r → decode cc pc = .ok (r.1, r.2.1) ∧ bm_chk nL pc r = true ∧ ∀ w ∈ bm_need own ci r, w ∈ am_U)
    (hput : ∀ (pc : Nat) (k len a b : Nat) (z : Value), am_at P pc = some (.putfield k, len, a, b, z) → own = am_N b)
    (hcs : ∀ (a : Nat) (F : bm_F × Nat × Nat), cs[a]? = some F → ∃ q : bm_C, ci[a]? = some q ∧ bm_Cal l dC dI B cy R q F)
    (hfr1 : 1 ≤ R.frames) (hlo1 : 20 ≤ R.locals) {Mf : bm_M} {nf sf : Nat}
    (hfin : ∀ (pc : Nat) (a b : Nat) (z : Value) (ls : List am_V), am_at P pc = some (.return_, 1, a, b, z) → bm_Wp p l e R s m args below meth c Q dC dI B cy nL pc ls [] Mf nf sf) :
    ∀ (n pc : Nat) (ls st : List am_V) (M : bm_M) (nc ns : Nat), (∀ v ∈ ls, bm_ok v) → (∀ v ∈ st, bm_ok v) → bm_run cs R.cells R.slots P n pc ls st M nc ns = some (Mf, nf, sf) → bm_Wp p l e R s m args below meth c Q dC dI B cy nL pc ls st M nc ns := by
  intro n
  induction n with
  | zero => intro pc ls st M nc ns _ _ h; cases h
  | succ n ih =>
    intro pc ls st M nc ns h3 h4 h
    exact bm_step_ok C ho hrow hput hcs hfr1 hlo1 (fun pc' ls' st' M' nc' ns' hk q1 q2 => ih pc' ls' st' M' nc' ns' q1 q2 hk) hfin pc ls st M nc ns h3 h4 h
end BMU
end
section
section BMV
variable {l : Launch} {dC : Nat → ClassId} {dI : Nat → Nat → Nat} {B : Nat} {cy : Nat → ClassId}
theorem bm_meth_ok {y : MethodName} {cc : ByteArray} {nL N : Nat} {rm : Room} {cs : List (bm_F × Nat × Nat)} {ci : List bm_C} {P : am_P} (hy : plainName y.cls = true) (hnm : y.name = "<init>") (ho : ∃ k, k < 11 ∧ y.cls = am_N k)
    (hrow : ∀ (pc : Nat) (r : am_Row), am_at P pc = some r → decode cc pc = .ok (r.1, r.2.1) ∧ bm_chk nL pc r = true ∧ ∀ w ∈ bm_need y.cls ci r, w ∈ am_U)
    (hput : ∀ (pc : Nat) (k len a b : Nat) (z : Value), am_at P pc = some (.putfield k, len, a, b, z) → y.cls = am_N b)
    (hcs : ∀ (a : Nat) (F : bm_F × Nat × Nat), cs[a]? = some F → ∃ q : bm_C, ci[a]? = some q ∧ bm_Cal l dC dI B cy rm q F)
    (hfr1 : 1 ≤ rm.frames) (hlo1 : 20 ≤ rm.locals) : bm_Ok l dC dI B cy y (.code y cc nL none) rm (bm_meth cs rm.cells rm.slots nL N P) := by
  intro j M M' hF
  unfold bm_meth at hF
  split at hF
  · rename_i Mf nc ns hrun
    cases hq : (Nat.ble nc rm.cells && Nat.ble ns rm.slots && Nat.blt 0 nL) with
    | false => rw [hq] at hF; cases hF
    | true =>
      rw [hq] at hF
      simp only [Bool.and_eq_true] at hq
      obtain ⟨⟨q1, q2⟩, q3⟩ := hq
      have q1 := Nat.le_of_ble_eq_true q1
      have q2 := Nat.le_of_ble_eq_true q2
      have q3 := Nat.blt_eq.mp q3
      cases hF
      refine Met.ofW (cc := cc) (maxL := nL) (ret := none) hy rfl ?_
      intro p e s m args below meth c s₁ Bd hml hv
      obtain ⟨rfl, hsz, hP, hK, hNk⟩ := hv
      have hx := Bd.exec
      have hb := Bd.bytes
      have hr := Bd.returns
      have hlocks := Bd.notSynchronized
      have hts0 := atoms_spec (ws := Cond.code y cc nL none :: am_U) Bd.pre
      have hown : s.vm.findClass y.cls = some m.cls := findClass_of_methodNamed Bd.named
      have hin : meth.name = "<init>" := (name_of_methodNamed Bd.named Bd.method).1.trans hnm
      have C : bm_Cx p s m ([Value.ref (B + j)] : List Value).toArray c meth dC dI B cy cc y.cls nL := ⟨hx, hb, hml, hown, fun w hw => hts0 w (List.mem_cons_of_mem _ hw), hK, hNk, by rw [hsz]; exact Nat.le_add_right _ _, fun _ => hin⟩
      have hl := lv_entry ([Value.ref (B + j)] : List Value) (n := nL) (by show 1 ≤ nL; omega)
      rw [lg_entry_eq]
      have hok : ∀ v ∈ am_ent nL [.inr (0, j)], bm_ok v := by
        intro v hv
        rcases List.mem_append.mp hv with h | h
        · rcases List.mem_cons.mp h with rfl | h
          · exact trivial
          · cases h
        · rw [List.eq_of_mem_replicate h]; exact trivial
      refine bm_run_ok (Q := MQ below (bm_Q dC dI B cy M') ([Value.ref (B + j)] : List Value).toArray s rm.cells rm.slots (bm_A B)) (R := (headSpec (Cond.code y cc nL none :: am_U) rm).room) C ho hrow hput hcs hfr1 hlo1 (Mf := M') (nf := nc) (sf := ns) ?_ N 0 (am_ent nL [.inr (0, j)]) [] M 0 0 hok (fun _ h => nomatch h) hrun s.heap [] _ ?_ hsz hP va_S.rf
      · intro pc a b z ls hat H locs lsA hl hz hP hS
        obtain ⟨hd, -, -⟩ := hrow pc _ hat
        exact W.widen q1 q2 (W.vret hx hb hr (fun t ht _ => ⟨rfl, by rw [ht]; exact hz, by rw [ht]; exact hP, hS.F ht⟩) hS.2.2 hd hlocks)
      · refine ⟨hl.1, hl.2.1, fun q hq => hl.2.2 q ?_⟩
        unfold am_ent at hq
        rw [am_lv_rep] at hq
        exact hq
  · cases hF
theorem bm_rows_of {P : am_P} {cc : ByteArray} {nL : Nat} {own : String} {ci : List bm_C} (h : P.all (fun l => l.all (fun q => decide (decode cc q.1 = .ok (q.2.1, q.2.2.1)) && bm_chk nL q.1 q.2)) = true) (hw : ∀ l ∈ P, ∀ q ∈ l, ∀ w ∈ bm_need own ci q.2, w ∈ am_U) :
    ∀ (pc : Nat) (r : am_Row), am_at P pc = some r → decode cc pc = .ok (r.1, r.2.1) ∧ bm_chk nL pc r = true ∧ ∀ w ∈ bm_need own ci r, w ∈ am_U := by
  intro pc r hr
  obtain ⟨l, h1, h2⟩ := am_at_mem hr
  have h3 := List.all_eq_true.mp (List.all_eq_true.mp h l h1) _ h2
  simp only [Bool.and_eq_true, decide_eq_true_eq] at h3
  exact ⟨h3.1, h3.2, hw l h1 _ h2⟩
theorem bm_words_of {P : am_P} {own : String} {ci : List bm_C} (ps : List Nat) (h : P.flatMap (fun l => l.flatMap (fun q => bm_need own ci q.2)) = ps.filterMap (fun i => lw_tbl[i]?)) (hg : (P.flatMap (fun l => l.flatMap (fun q => bm_need own ci q.2))).all goodWord = true) : ∀ l ∈ P, ∀ q ∈ l, ∀ w ∈ bm_need own ci q.2, w ∈ am_U := by
  intro l hl q hq w hw
  have hm : w ∈ P.flatMap (fun l => l.flatMap (fun q => bm_need own ci q.2)) := List.mem_flatMap.mpr ⟨l, hl, List.mem_flatMap.mpr ⟨q, hq, hw⟩⟩
  have hg2 := List.all_eq_true.mp hg w hm
  rw [h] at hm
  obtain ⟨i, -, hi⟩ := List.mem_filterMap.mp hm
  exact am_inU i hi hg2
theorem bm_put_of {P : am_P} {own : String} (h : P.all (fun l => l.all (fun q => match q.2 with | (.putfield _, _, _, b, _) => decide (own = am_N b) | _ => true)) = true) : ∀ (pc : Nat) (k len a b : Nat) (z : Value), am_at P pc = some (.putfield k, len, a, b, z) → own = am_N b := by
  intro pc k len a b z hr
  obtain ⟨l, h1, h2⟩ := am_at_mem hr
  have h3 := List.all_eq_true.mp (List.all_eq_true.mp h l h1) _ h2
  exact of_decide_eq_true h3
theorem bm_cs_nil {R : Room} : ∀ (a : Nat) (F : bm_F × Nat × Nat), ([] : List (bm_F × Nat × Nat))[a]? = some F → ∃ q : bm_C, ([] : List bm_C)[a]? = some q ∧ bm_Cal l dC dI B cy R q F := fun a F h => by simp at h
theorem bm_cs_cons {R : Room} {F0' : bm_F × Nat × Nat} {q0 : bm_C} {cs : List (bm_F × Nat × Nat)} {ci : List bm_C} (h : bm_Cal l dC dI B cy R q0 F0') (t : ∀ (a : Nat) (F : bm_F × Nat × Nat), cs[a]? = some F → ∃ q : bm_C, ci[a]? = some q ∧ bm_Cal l dC dI B cy R q F) :
    ∀ (a : Nat) (F : bm_F × Nat × Nat), (F0' :: cs)[a]? = some F → ∃ q : bm_C, (q0 :: ci)[a]? = some q ∧ bm_Cal l dC dI B cy R q F
  | 0, F, h2 => by cases h2; exact ⟨q0, rfl, h⟩
  | a + 1, F, h2 => t a F h2
end BMV
end
section
/-! ===== the constructors ===== -/
def qX0_init : am_P := [[(0, .aload_n 0, 1, 0, 0, .null), (1, .invokespecial 1, 3, 0, 0, .null), (4, .aload_n 0, 1, 0, 0, .null), (5, .iconst 5, 1, 0, 0, .int 5), (6, .newarray .int, 2, 0, 0, .null), (8, .putfield 9, 3, 0, 0, .null), (11, .aload_n 0, 1, 0, 0, .null), (12, .iconst 5, 1, 0, 0, .int 5), (13, .newarray .int, 2, 0, 0, .null), (15, .putfield 13, 3, 1, 0, .null)],
  [(18, .aload_n 0, 1, 0, 0, .null), (19, .iconst 0, 1, 0, 0, .int 0), (20, .putfield 16, 3, 2, 0, .null), (23, .return_, 1, 0, 0, .null)]]
abbrev rmX0_init : Room := { frames := 1, cells := 2, slots := 10, locals := 20 }
def gX0_init : bm_F := bm_meth [] 2 10 1 5000 qX0_init
def cgX0_init : bm_C := (yX0_init, .code yX0_init cX0_init 1 none, rmX0_init, 1)
theorem obX0_init {l : Launch} {dC : Nat → ClassId} {dI : Nat → Nat → Nat} {B : Nat} {cy : Nat → ClassId} : bm_Ok l dC dI B cy yX0_init (.code yX0_init cX0_init 1 none) rmX0_init gX0_init :=
  bm_meth_ok (ci := []) (by decide) rfl ⟨0, by decide, rfl⟩ (bm_rows_of (by decide +kernel) (bm_words_of [137, 81, 82, 109, 138, 109, 139, 140] (by decide +kernel) (by decide +kernel))) (bm_put_of (by decide +kernel)) bm_cs_nil (by decide) (by decide)
theorem cbX0_init {l : Launch} {dC : Nat → ClassId} {dI : Nat → Nat → Nat} {B : Nat} {cy : Nat → ClassId} {R : Room} (h1 : rmX0_init.frames + 1 ≤ R.frames) (h2 : 8 + (1 + 11) + rmX0_init.locals ≤ R.locals) : bm_Cal l dC dI B cy R cgX0_init (gX0_init, 2, 10) :=
  ⟨obX0_init, am_inU 136 (by decide +kernel) (by decide +kernel), rfl, rfl, h1, h2, ⟨by decide, by decide, by decide +kernel⟩, rfl, _, rfl⟩
def qX1_init : am_P := [[(0, .aload_n 0, 1, 0, 0, .null), (1, .invokespecial 3, 3, 0, 0, .null), (4, .aload_n 0, 1, 0, 0, .null), (5, .bipush 6, 2, 0, 0, .int 6), (7, .newarray .int, 2, 0, 0, .null), (9, .putfield 9, 3, 0, 1, .null), (12, .aload_n 0, 1, 0, 0, .null), (13, .iconst 0, 1, 0, 0, .int 0), (14, .putfield 15, 3, 1, 1, .null)],
  [(17, .aload_n 0, 1, 0, 0, .null), (18, .iconst 2, 1, 0, 0, .int 2), (19, .newarray .int, 2, 0, 0, .null), (21, .putfield 19, 3, 2, 1, .null), (24, .aload_n 0, 1, 0, 0, .null), (25, .iconst 2, 1, 0, 0, .int 2), (26, .newarray .int, 2, 0, 0, .null), (28, .putfield 22, 3, 3, 1, .null), (31, .aload_n 0, 1, 0, 0, .null)],
  [(32, .iconst 0, 1, 0, 0, .int 0), (33, .putfield 25, 3, 4, 1, .null), (36, .aload_n 0, 1, 0, 0, .null), (37, .iconst (-1), 1, 0, 0, .int (-1)), (38, .putfield 28, 3, 5, 1, .null), (41, .aload_n 0, 1, 0, 0, .null), (42, .iconst 0, 1, 0, 0, .int 0), (43, .putfield 31, 3, 6, 1, .null), (46, .aload_n 0, 1, 0, 0, .null), (47, .iconst 0, 1, 0, 0, .int 0)],
  [(48, .putfield 35, 3, 7, 1, .null), (51, .aload_n 0, 1, 0, 0, .null), (52, .iconst 0, 1, 0, 0, .int 0), (53, .putfield 38, 3, 8, 1, .null), (56, .aload_n 0, 1, 0, 0, .null), (57, .iconst 0, 1, 0, 0, .int 0), (58, .putfield 41, 3, 9, 1, .null), (61, .return_, 1, 0, 0, .null)]]
abbrev rmX1_init : Room := { frames := 1, cells := 3, slots := 10, locals := 20 }
def gX1_init : bm_F := bm_meth [] 3 10 1 5000 qX1_init
def cgX1_init : bm_C := (yX1_init, .code yX1_init cX1_init 1 none, rmX1_init, 1)
theorem obX1_init {l : Launch} {dC : Nat → ClassId} {dI : Nat → Nat → Nat} {B : Nat} {cy : Nat → ClassId} : bm_Ok l dC dI B cy yX1_init (.code yX1_init cX1_init 1 none) rmX1_init gX1_init :=
  bm_meth_ok (ci := []) (by decide) rfl ⟨1, by decide, rfl⟩ (bm_rows_of (by decide +kernel) (bm_words_of [223, 81, 82, 109, 224, 226, 109, 228, 109, 230, 232, 234, 236, 238, 240, 242] (by decide +kernel) (by decide +kernel))) (bm_put_of (by decide +kernel)) bm_cs_nil (by decide) (by decide)
theorem cbX1_init {l : Launch} {dC : Nat → ClassId} {dI : Nat → Nat → Nat} {B : Nat} {cy : Nat → ClassId} {R : Room} (h1 : rmX1_init.frames + 1 ≤ R.frames) (h2 : 8 + (1 + 11) + rmX1_init.locals ≤ R.locals) : bm_Cal l dC dI B cy R cgX1_init (gX1_init, 3, 10) :=
  ⟨obX1_init, am_inU 222 (by decide +kernel) (by decide +kernel), rfl, rfl, h1, h2, ⟨by decide, by decide, by decide +kernel⟩, rfl, _, rfl⟩
def qX2_init : am_P := [[(0, .aload_n 0, 1, 0, 0, .null), (1, .invokespecial 1, 3, 0, 0, .null), (4, .aload_n 0, 1, 0, 0, .null), (5, .bipush 10, 2, 0, 0, .int 10), (7, .newarray .int, 2, 0, 0, .null), (9, .putfield 9, 3, 0, 2, .null), (12, .aload_n 0, 1, 0, 0, .null), (13, .iconst 0, 1, 0, 0, .int 0), (14, .putfield 13, 3, 1, 2, .null)],
  [(17, .return_, 1, 0, 0, .null)]]
abbrev rmX2_init : Room := { frames := 1, cells := 1, slots := 10, locals := 20 }
def gX2_init : bm_F := bm_meth [] 1 10 1 5000 qX2_init
def cgX2_init : bm_C := (yX2_init, .code yX2_init cX2_init 1 none, rmX2_init, 1)
theorem obX2_init {l : Launch} {dC : Nat → ClassId} {dI : Nat → Nat → Nat} {B : Nat} {cy : Nat → ClassId} : bm_Ok l dC dI B cy yX2_init (.code yX2_init cX2_init 1 none) rmX2_init gX2_init :=
  bm_meth_ok (ci := []) (by decide) rfl ⟨2, by decide, rfl⟩ (bm_rows_of (by decide +kernel) (bm_words_of [154, 81, 82, 109, 155, 156] (by decide +kernel) (by decide +kernel))) (bm_put_of (by decide +kernel)) bm_cs_nil (by decide) (by decide)
theorem cbX2_init {l : Launch} {dC : Nat → ClassId} {dI : Nat → Nat → Nat} {B : Nat} {cy : Nat → ClassId} {R : Room} (h1 : rmX2_init.frames + 1 ≤ R.frames) (h2 : 8 + (1 + 11) + rmX2_init.locals ≤ R.locals) : bm_Cal l dC dI B cy R cgX2_init (gX2_init, 1, 10) :=
  ⟨obX2_init, am_inU 153 (by decide +kernel) (by decide +kernel), rfl, rfl, h1, h2, ⟨by decide, by decide, by decide +kernel⟩, rfl, _, rfl⟩
def qX3_init : am_P := [[(0, .aload_n 0, 1, 0, 0, .null), (1, .invokespecial 3, 3, 0, 0, .null), (4, .aload_n 0, 1, 0, 0, .null), (5, .bipush 40, 2, 0, 0, .int 40), (7, .newarray .int, 2, 0, 0, .null), (9, .putfield 9, 3, 0, 3, .null), (12, .aload_n 0, 1, 0, 0, .null), (13, .iconst 0, 1, 0, 0, .int 0), (14, .putfield 15, 3, 1, 3, .null)],
  [(17, .return_, 1, 0, 0, .null)]]
abbrev rmX3_init : Room := { frames := 1, cells := 1, slots := 40, locals := 20 }
def gX3_init : bm_F := bm_meth [] 1 40 1 5000 qX3_init
def cgX3_init : bm_C := (yX3_init, .code yX3_init cX3_init 1 none, rmX3_init, 1)
theorem obX3_init {l : Launch} {dC : Nat → ClassId} {dI : Nat → Nat → Nat} {B : Nat} {cy : Nat → ClassId} : bm_Ok l dC dI B cy yX3_init (.code yX3_init cX3_init 1 none) rmX3_init gX3_init :=
  bm_meth_ok (ci := []) (by decide) rfl ⟨3, by decide, rfl⟩ (bm_rows_of (by decide +kernel) (bm_words_of [116, 81, 82, 109, 117, 119] (by decide +kernel) (by decide +kernel))) (bm_put_of (by decide +kernel)) bm_cs_nil (by decide) (by decide)
theorem cbX3_init {l : Launch} {dC : Nat → ClassId} {dI : Nat → Nat → Nat} {B : Nat} {cy : Nat → ClassId} {R : Room} (h1 : rmX3_init.frames + 1 ≤ R.frames) (h2 : 8 + (1 + 11) + rmX3_init.locals ≤ R.locals) : bm_Cal l dC dI B cy R cgX3_init (gX3_init, 1, 40) :=
  ⟨obX3_init, am_inU 115 (by decide +kernel) (by decide +kernel), rfl, rfl, h1, h2, ⟨by decide, by decide, by decide +kernel⟩, rfl, _, rfl⟩
def qX4_init : am_P := [[(0, .aload_n 0, 1, 0, 0, .null), (1, .invokespecial 3, 3, 0, 0, .null), (4, .aload_n 0, 1, 0, 0, .null), (5, .iconst (-1), 1, 0, 0, .int (-1)), (6, .putfield 9, 3, 0, 4, .null), (9, .aload_n 0, 1, 0, 0, .null), (10, .iconst 0, 1, 0, 0, .int 0), (11, .putfield 15, 3, 1, 4, .null), (14, .aload_n 0, 1, 0, 0, .null), (15, .iconst 0, 1, 0, 0, .int 0)],
  [(16, .putfield 18, 3, 2, 4, .null), (19, .aload_n 0, 1, 0, 0, .null), (20, .iconst 0, 1, 0, 0, .int 0), (21, .putfield 22, 3, 3, 4, .null), (24, .aload_n 0, 1, 0, 0, .null), (25, .iconst 0, 1, 0, 0, .int 0), (26, .putfield 25, 3, 4, 4, .null), (29, .aload_n 0, 1, 0, 0, .null), (30, .iconst 0, 1, 0, 0, .int 0), (31, .putfield 28, 3, 5, 4, .null)],
  [(34, .aload_n 0, 1, 0, 0, .null), (35, .iconst 0, 1, 0, 0, .int 0), (36, .putfield 31, 3, 6, 4, .null), (39, .aload_n 0, 1, 0, 0, .null), (40, .iconst (-1), 1, 0, 0, .int (-1)), (41, .putfield 34, 3, 7, 4, .null), (44, .aload_n 0, 1, 0, 0, .null), (45, .iconst 0, 1, 0, 0, .int 0), (46, .putfield 37, 3, 8, 4, .null)],
  [(49, .aload_n 0, 1, 0, 0, .null), (50, .iconst 0, 1, 0, 0, .int 0), (51, .putfield 40, 3, 9, 4, .null), (54, .return_, 1, 0, 0, .null)]]
abbrev rmX4_init : Room := { frames := 1, cells := 0, slots := 0, locals := 20 }
def gX4_init : bm_F := bm_meth [] 0 0 1 5000 qX4_init
def cgX4_init : bm_C := (yX4_init, .code yX4_init cX4_init 1 none, rmX4_init, 1)
theorem obX4_init {l : Launch} {dC : Nat → ClassId} {dI : Nat → Nat → Nat} {B : Nat} {cy : Nat → ClassId} : bm_Ok l dC dI B cy yX4_init (.code yX4_init cX4_init 1 none) rmX4_init gX4_init :=
  bm_meth_ok (ci := []) (by decide) rfl ⟨4, by decide, rfl⟩ (bm_rows_of (by decide +kernel) (bm_words_of [269, 81, 82, 270, 272, 274, 276, 278, 280, 282, 284, 286, 288] (by decide +kernel) (by decide +kernel))) (bm_put_of (by decide +kernel)) bm_cs_nil (by decide) (by decide)
theorem cbX4_init {l : Launch} {dC : Nat → ClassId} {dI : Nat → Nat → Nat} {B : Nat} {cy : Nat → ClassId} {R : Room} (h1 : rmX4_init.frames + 1 ≤ R.frames) (h2 : 8 + (1 + 11) + rmX4_init.locals ≤ R.locals) : bm_Cal l dC dI B cy R cgX4_init (gX4_init, 0, 0) :=
  ⟨obX4_init, am_inU 268 (by decide +kernel) (by decide +kernel), rfl, rfl, h1, h2, ⟨by decide, by decide, by decide +kernel⟩, rfl, _, rfl⟩
def qX5_init : am_P := [[(0, .aload_n 0, 1, 0, 0, .null), (1, .invokespecial 3, 3, 0, 0, .null), (4, .aload_n 0, 1, 0, 0, .null), (5, .iconst (-1), 1, 0, 0, .int (-1)), (6, .putfield 9, 3, 0, 5, .null), (9, .aload_n 0, 1, 0, 0, .null), (10, .iconst 0, 1, 0, 0, .int 0), (11, .putfield 15, 3, 1, 5, .null), (14, .aload_n 0, 1, 0, 0, .null), (15, .iconst 0, 1, 0, 0, .int 0)],
  [(16, .putfield 18, 3, 2, 5, .null), (19, .aload_n 0, 1, 0, 0, .null), (20, .iconst 0, 1, 0, 0, .int 0), (21, .putfield 21, 3, 3, 5, .null), (24, .return_, 1, 0, 0, .null)]]
abbrev rmX5_init : Room := { frames := 1, cells := 0, slots := 0, locals := 20 }
def gX5_init : bm_F := bm_meth [] 0 0 1 5000 qX5_init
def cgX5_init : bm_C := (yX5_init, .code yX5_init cX5_init 1 none, rmX5_init, 1)
theorem obX5_init {l : Launch} {dC : Nat → ClassId} {dI : Nat → Nat → Nat} {B : Nat} {cy : Nat → ClassId} : bm_Ok l dC dI B cy yX5_init (.code yX5_init cX5_init 1 none) rmX5_init gX5_init :=
  bm_meth_ok (ci := []) (by decide) rfl ⟨5, by decide, rfl⟩ (bm_rows_of (by decide +kernel) (bm_words_of [202, 81, 82, 203, 204, 206, 208] (by decide +kernel) (by decide +kernel))) (bm_put_of (by decide +kernel)) bm_cs_nil (by decide) (by decide)
theorem cbX5_init {l : Launch} {dC : Nat → ClassId} {dI : Nat → Nat → Nat} {B : Nat} {cy : Nat → ClassId} {R : Room} (h1 : rmX5_init.frames + 1 ≤ R.frames) (h2 : 8 + (1 + 11) + rmX5_init.locals ≤ R.locals) : bm_Cal l dC dI B cy R cgX5_init (gX5_init, 0, 0) :=
  ⟨obX5_init, am_inU 201 (by decide +kernel) (by decide +kernel), rfl, rfl, h1, h2, ⟨by decide, by decide, by decide +kernel⟩, rfl, _, rfl⟩
def qX6_init : am_P := [[(0, .aload_n 0, 1, 0, 0, .null), (1, .invokespecial 3, 3, 0, 0, .null), (4, .aload_n 0, 1, 0, 0, .null), (5, .bipush 16, 2, 0, 0, .int 16), (7, .newarray .int, 2, 0, 0, .null), (9, .putfield 11, 3, 0, 6, .null), (12, .aload_n 0, 1, 0, 0, .null), (13, .new 15, 3, 0, 0, .null)],
  [(16, .dup, 1, 0, 0, .null), (17, .invokespecial 17, 3, 0, 1, .null), (20, .putfield 18, 3, 1, 6, .null), (23, .aload_n 0, 1, 0, 0, .null), (24, .new 22, 3, 2, 0, .null), (27, .dup, 1, 0, 0, .null), (28, .invokespecial 24, 3, 1, 1, .null), (31, .putfield 25, 3, 2, 6, .null)],
  [(34, .aload_n 0, 1, 0, 0, .null), (35, .iconst 0, 1, 0, 0, .int 0), (36, .putfield 29, 3, 3, 6, .null), (39, .aload_n 0, 1, 0, 0, .null), (40, .getfield 11, 3, 0, 6, .null), (43, .iconst 1, 1, 0, 0, .int 1), (44, .iconst (-1), 1, 0, 0, .int (-1)), (45, .iastore, 1, 0, 0, .null), (46, .aload_n 0, 1, 0, 0, .null), (47, .getfield 11, 3, 0, 6, .null)],
  [(50, .iconst 4, 1, 0, 0, .int 4), (51, .iconst (-1), 1, 0, 0, .int (-1)), (52, .iastore, 1, 0, 0, .null), (53, .aload_n 0, 1, 0, 0, .null), (54, .getfield 11, 3, 0, 6, .null), (57, .bipush 13, 2, 0, 0, .int 13), (59, .iconst 2, 1, 0, 0, .int 2), (60, .iastore, 1, 0, 0, .null), (61, .aload_n 0, 1, 0, 0, .null), (62, .getfield 11, 3, 0, 6, .null)],
  [(65, .bipush 15, 2, 0, 0, .int 15), (67, .iconst 1, 1, 0, 0, .int 1), (68, .iastore, 1, 0, 0, .null), (69, .return_, 1, 0, 0, .null)]]
abbrev rmX6_init : Room := { frames := 2, cells := 6, slots := 41, locals := 40 }
def gX6_init : bm_F := bm_meth [(gX0_init, 2, 10), (gX2_init, 1, 10)] 6 41 1 5000 qX6_init
def cgX6_init : bm_C := (yX6_init, .code yX6_init cX6_init 1 none, rmX6_init, 1)
theorem obX6_init {l : Launch} {dC : Nat → ClassId} {dI : Nat → Nat → Nat} {B : Nat} {cy : Nat → ClassId} : bm_Ok l dC dI B cy yX6_init (.code yX6_init cX6_init 1 none) rmX6_init gX6_init :=
  bm_meth_ok (ci := [cgX0_init, cgX2_init]) (by decide) rfl ⟨6, by decide, rfl⟩ (bm_rows_of (by decide +kernel) (bm_words_of [131, 81, 82, 109, 163, 132, 133, 60, 135, 60, 165, 149, 150, 61, 152, 61, 167, 169, 163, 163, 163, 163] (by decide +kernel) (by decide +kernel))) (bm_put_of (by decide +kernel)) (bm_cs_cons (cbX0_init (by decide) (by decide)) (bm_cs_cons (cbX2_init (by decide) (by decide)) bm_cs_nil)) (by decide) (by decide)
theorem cbX6_init {l : Launch} {dC : Nat → ClassId} {dI : Nat → Nat → Nat} {B : Nat} {cy : Nat → ClassId} {R : Room} (h1 : rmX6_init.frames + 1 ≤ R.frames) (h2 : 8 + (1 + 11) + rmX6_init.locals ≤ R.locals) : bm_Cal l dC dI B cy R cgX6_init (gX6_init, 6, 41) :=
  ⟨obX6_init, am_inU 130 (by decide +kernel) (by decide +kernel), rfl, rfl, h1, h2, ⟨by decide, by decide, by decide +kernel⟩, rfl, _, rfl⟩
def qX7_init : am_P := [[(0, .aload_n 0, 1, 0, 0, .null), (1, .invokespecial 3, 3, 0, 0, .null), (4, .aload_n 0, 1, 0, 0, .null), (5, .bipush 13, 2, 0, 0, .int 13), (7, .newarray .int, 2, 0, 0, .null), (9, .putfield 9, 3, 0, 7, .null), (12, .aload_n 0, 1, 0, 0, .null), (13, .bipush 13, 2, 0, 0, .int 13), (15, .newarray .int, 2, 0, 0, .null)],
  [(17, .putfield 15, 3, 1, 7, .null), (20, .aload_n 0, 1, 0, 0, .null), (21, .bipush 36, 2, 0, 0, .int 36), (23, .newarray .boolean, 2, 1, 0, .null), (25, .putfield 18, 3, 2, 7, .null), (28, .iconst 0, 1, 0, 0, .int 0), (29, .istore_n 1, 1, 1, 0, .null), (30, .iload_n 1, 1, 1, 0, .null), (31, .bipush 12, 2, 0, 0, .int 12)],
  [(33, .if_icmp .gt 23, 3, 56, 0, .null), (36, .aload_n 0, 1, 0, 0, .null), (37, .getfield 9, 3, 0, 7, .null), (40, .iload_n 1, 1, 1, 0, .null), (41, .iconst (-1), 1, 0, 0, .int (-1)), (42, .iastore, 1, 0, 0, .null), (43, .aload_n 0, 1, 0, 0, .null), (44, .getfield 15, 3, 1, 7, .null), (47, .iload_n 1, 1, 1, 0, .null)],
  [(48, .iconst (-1), 1, 0, 0, .int (-1)), (49, .iastore, 1, 0, 0, .null), (50, .iinc 1 1, 3, 1, 0, .int 1), (53, .goto (-23), 3, 30, 0, .null), (56, .return_, 1, 0, 0, .null)]]
abbrev rmX7_init : Room := { frames := 1, cells := 3, slots := 62, locals := 20 }
def gX7_init : bm_F := bm_meth [] 3 62 2 5000 qX7_init
def cgX7_init : bm_C := (yX7_init, .code yX7_init cX7_init 2 none, rmX7_init, 2)
theorem obX7_init {l : Launch} {dC : Nat → ClassId} {dI : Nat → Nat → Nat} {B : Nat} {cy : Nat → ClassId} : bm_Ok l dC dI B cy yX7_init (.code yX7_init cX7_init 2 none) rmX7_init gX7_init :=
  bm_meth_ok (ci := []) (by decide) rfl ⟨7, by decide, rfl⟩ (bm_rows_of (by decide +kernel) (bm_words_of [98, 81, 82, 109, 99, 109, 100, 110, 101, 99, 100] (by decide +kernel) (by decide +kernel))) (bm_put_of (by decide +kernel)) bm_cs_nil (by decide) (by decide)
theorem cbX7_init {l : Launch} {dC : Nat → ClassId} {dI : Nat → Nat → Nat} {B : Nat} {cy : Nat → ClassId} {R : Room} (h1 : rmX7_init.frames + 1 ≤ R.frames) (h2 : 8 + (2 + 11) + rmX7_init.locals ≤ R.locals) : bm_Cal l dC dI B cy R cgX7_init (gX7_init, 3, 62) :=
  ⟨obX7_init, am_inU 97 (by decide +kernel) (by decide +kernel), rfl, rfl, h1, h2, ⟨by decide, by decide, by decide +kernel⟩, rfl, _, rfl⟩
def qX8_init : am_P := [[(0, .aload_n 0, 1, 0, 0, .null), (1, .invokespecial 3, 3, 0, 0, .null), (4, .aload_n 0, 1, 0, 0, .null), (5, .iconst (-1), 1, 0, 0, .int (-1)), (6, .putfield 9, 3, 0, 8, .null), (9, .aload_n 0, 1, 0, 0, .null), (10, .iconst 0, 1, 0, 0, .int 0), (11, .putfield 15, 3, 1, 8, .null), (14, .aload_n 0, 1, 0, 0, .null), (15, .iconst 0, 1, 0, 0, .int 0)],
  [(16, .putfield 19, 3, 2, 8, .null), (19, .return_, 1, 0, 0, .null)]]
abbrev rmX8_init : Room := { frames := 1, cells := 0, slots := 0, locals := 20 }
def gX8_init : bm_F := bm_meth [] 0 0 1 5000 qX8_init
def cgX8_init : bm_C := (yX8_init, .code yX8_init cX8_init 1 none, rmX8_init, 1)
theorem obX8_init {l : Launch} {dC : Nat → ClassId} {dI : Nat → Nat → Nat} {B : Nat} {cy : Nat → ClassId} : bm_Ok l dC dI B cy yX8_init (.code yX8_init cX8_init 1 none) rmX8_init gX8_init :=
  bm_meth_ok (ci := []) (by decide) rfl ⟨8, by decide, rfl⟩ (bm_rows_of (by decide +kernel) (bm_words_of [184, 81, 82, 185, 187, 189] (by decide +kernel) (by decide +kernel))) (bm_put_of (by decide +kernel)) bm_cs_nil (by decide) (by decide)
theorem cbX8_init {l : Launch} {dC : Nat → ClassId} {dI : Nat → Nat → Nat} {B : Nat} {cy : Nat → ClassId} {R : Room} (h1 : rmX8_init.frames + 1 ≤ R.frames) (h2 : 8 + (1 + 11) + rmX8_init.locals ≤ R.locals) : bm_Cal l dC dI B cy R cgX8_init (gX8_init, 0, 0) :=
  ⟨obX8_init, am_inU 183 (by decide +kernel) (by decide +kernel), rfl, rfl, h1, h2, ⟨by decide, by decide, by decide +kernel⟩, rfl, _, rfl⟩
def qX9_init : am_P := [[(0, .aload_n 0, 1, 0, 0, .null), (1, .invokespecial 1, 3, 0, 0, .null), (4, .aload_n 0, 1, 0, 0, .null), (5, .iconst 4, 1, 0, 0, .int 4), (6, .anewarray 9, 3, 6, 0, .null), (9, .putfield 11, 3, 0, 9, .null), (12, .aload_n 0, 1, 0, 0, .null), (13, .bipush 6, 2, 0, 0, .int 6), (15, .anewarray 15, 3, 8, 0, .null)],
  [(18, .putfield 17, 3, 1, 9, .null), (21, .aload_n 0, 1, 0, 0, .null), (22, .bipush 8, 2, 0, 0, .int 8), (24, .anewarray 21, 3, 5, 0, .null), (27, .putfield 23, 3, 2, 9, .null), (30, .aload_n 0, 1, 0, 0, .null), (31, .bipush 10, 2, 0, 0, .int 10)],
  [(33, .anewarray 27, 3, 1, 0, .null), (36, .putfield 29, 3, 3, 9, .null), (39, .aload_n 0, 1, 0, 0, .null), (40, .bipush 40, 2, 0, 0, .int 40), (42, .anewarray 33, 3, 4, 0, .null), (45, .putfield 35, 3, 4, 9, .null)],
  [(48, .aload_n 0, 1, 0, 0, .null), (49, .new 39, 3, 7, 0, .null), (52, .dup, 1, 0, 0, .null), (53, .invokespecial 41, 3, 0, 1, .null), (56, .putfield 42, 3, 5, 9, .null), (59, .aload_n 0, 1, 0, 0, .null), (60, .new 46, 3, 3, 0, .null), (63, .dup, 1, 0, 0, .null)],
  [(64, .invokespecial 48, 3, 1, 1, .null), (67, .putfield 49, 3, 6, 9, .null), (70, .aload_n 0, 1, 0, 0, .null), (71, .iconst 0, 1, 0, 0, .int 0), (72, .putfield 53, 3, 7, 9, .null), (75, .aload_n 0, 1, 0, 0, .null), (76, .iconst 0, 1, 0, 0, .int 0), (77, .putfield 57, 3, 8, 9, .null)],
  [(80, .aload_n 0, 1, 0, 0, .null), (81, .ldc 60, 2, 0, 0, .int 65535), (83, .putfield 61, 3, 9, 9, .null), (86, .aload_n 0, 1, 0, 0, .null), (87, .iconst 0, 1, 0, 0, .int 0), (88, .putfield 64, 3, 10, 9, .null), (91, .aload_n 0, 1, 0, 0, .null), (92, .iconst 0, 1, 0, 0, .int 0), (93, .putfield 68, 3, 11, 9, .null)],
  [(96, .aload_n 0, 1, 0, 0, .null), (97, .iconst 0, 1, 0, 0, .int 0), (98, .putfield 71, 3, 12, 9, .null), (101, .iconst 0, 1, 0, 0, .int 0), (102, .istore_n 1, 1, 1, 0, .null), (103, .iload_n 1, 1, 1, 0, .null), (104, .iconst 4, 1, 0, 0, .int 4), (105, .if_icmp .ge 22, 3, 127, 0, .null), (108, .aload_n 0, 1, 0, 0, .null), (109, .getfield 11, 3, 0, 9, .null)],
  [(112, .iload_n 1, 1, 1, 0, .null), (113, .new 9, 3, 6, 0, .null), (116, .dup, 1, 0, 0, .null), (117, .invokespecial 74, 3, 2, 1, .null), (120, .aastore, 1, 0, 0, .null), (121, .iinc 1 1, 3, 1, 0, .int 1), (124, .goto (-21), 3, 103, 0, .null), (127, .iconst 0, 1, 0, 0, .int 0)],
  [(128, .istore_n 1, 1, 1, 0, .null), (129, .iload_n 1, 1, 1, 0, .null), (130, .bipush 6, 2, 0, 0, .int 6), (132, .if_icmp .ge 22, 3, 154, 0, .null), (135, .aload_n 0, 1, 0, 0, .null), (136, .getfield 17, 3, 1, 9, .null), (139, .iload_n 1, 1, 1, 0, .null), (140, .new 15, 3, 8, 0, .null), (143, .dup, 1, 0, 0, .null)],
  [(144, .invokespecial 75, 3, 3, 1, .null), (147, .aastore, 1, 0, 0, .null), (148, .iinc 1 1, 3, 1, 0, .int 1), (151, .goto (-22), 3, 129, 0, .null), (154, .iconst 0, 1, 0, 0, .int 0), (155, .istore_n 1, 1, 1, 0, .null), (156, .iload_n 1, 1, 1, 0, .null), (157, .bipush 8, 2, 0, 0, .int 8), (159, .if_icmp .ge 22, 3, 181, 0, .null)],
  [(162, .aload_n 0, 1, 0, 0, .null), (163, .getfield 23, 3, 2, 9, .null), (166, .iload_n 1, 1, 1, 0, .null), (167, .new 21, 3, 5, 0, .null), (170, .dup, 1, 0, 0, .null), (171, .invokespecial 76, 3, 4, 1, .null), (174, .aastore, 1, 0, 0, .null), (175, .iinc 1 1, 3, 1, 0, .int 1)],
  [(178, .goto (-22), 3, 156, 0, .null), (181, .iconst 0, 1, 0, 0, .int 0), (182, .istore_n 1, 1, 1, 0, .null), (183, .iload_n 1, 1, 1, 0, .null), (184, .bipush 10, 2, 0, 0, .int 10), (186, .if_icmp .ge 22, 3, 208, 0, .null), (189, .aload_n 0, 1, 0, 0, .null), (190, .getfield 29, 3, 3, 9, .null)],
  [(193, .iload_n 1, 1, 1, 0, .null), (194, .new 27, 3, 1, 0, .null), (197, .dup, 1, 0, 0, .null), (198, .invokespecial 77, 3, 5, 1, .null), (201, .aastore, 1, 0, 0, .null), (202, .iinc 1 1, 3, 1, 0, .int 1), (205, .goto (-22), 3, 183, 0, .null)],
  [(208, .iconst 0, 1, 0, 0, .int 0), (209, .istore_n 1, 1, 1, 0, .null), (210, .iload_n 1, 1, 1, 0, .null), (211, .bipush 40, 2, 0, 0, .int 40), (213, .if_icmp .ge 22, 3, 235, 0, .null), (216, .aload_n 0, 1, 0, 0, .null), (217, .getfield 35, 3, 4, 9, .null), (220, .iload_n 1, 1, 1, 0, .null), (221, .new 33, 3, 4, 0, .null)],
  [(224, .dup, 1, 0, 0, .null), (225, .invokespecial 78, 3, 6, 1, .null), (228, .aastore, 1, 0, 0, .null), (229, .iinc 1 1, 3, 1, 0, .int 1), (232, .goto (-22), 3, 210, 0, .null), (235, .return_, 1, 0, 0, .null)]]
abbrev rmX9_init : Room := { frames := 3, cells := 133, slots := 1005, locals := 60 }
def gX9_init : bm_F := bm_meth [(gX7_init, 3, 62), (gX3_init, 1, 40), (gX6_init, 6, 41), (gX8_init, 0, 0), (gX5_init, 0, 0), (gX1_init, 3, 10), (gX4_init, 0, 0)] 133 1005 2 5000 qX9_init
def cgX9_init : bm_C := (yX9_init, .code yX9_init cX9_init 2 none, rmX9_init, 2)
theorem obX9_init {l : Launch} {dC : Nat → ClassId} {dI : Nat → Nat → Nat} {B : Nat} {cy : Nat → ClassId} : bm_Ok l dC dI B cy yX9_init (.code yX9_init cX9_init 2 none) rmX9_init gX9_init :=
  bm_meth_ok (ci := [cgX7_init, cgX3_init, cgX6_init, cgX8_init, cgX5_init, cgX1_init, cgX4_init]) (by decide) rfl ⟨9, by decide, rfl⟩ (bm_rows_of (by decide +kernel) (bm_words_of [80, 81, 82, 83, 311, 85, 312, 87, 313, 89, 314, 91, 315, 93, 94, 57, 96, 57, 95, 316, 111, 112, 58, 114, 58, 317, 318, 319, 126, 320, 321, 322, 323, 311, 83, 127, 59, 129, 59, 128, 312, 85, 180, 62, 182, 62, 313, 87, 198, 63, 200, 63, 314, 89, 219, 64, 221, 64, 315, 91, 265, 65, 267, 65] (by decide +kernel) (by decide +kernel))) (bm_put_of (by decide +kernel)) (bm_cs_cons (cbX7_init (by decide) (by decide)) (bm_cs_cons (cbX3_init (by decide) (by decide)) (bm_cs_cons (cbX6_init (by decide) (by decide)) (bm_cs_cons (cbX8_init (by decide) (by decide)) (bm_cs_cons (cbX5_init (by decide) (by decide)) (bm_cs_cons (cbX1_init (by decide) (by decide)) (bm_cs_cons (cbX4_init (by decide) (by decide)) bm_cs_nil))))))) (by decide) (by decide)
theorem cbX9_init {l : Launch} {dC : Nat → ClassId} {dI : Nat → Nat → Nat} {B : Nat} {cy : Nat → ClassId} {R : Room} (h1 : rmX9_init.frames + 1 ≤ R.frames) (h2 : 8 + (2 + 11) + rmX9_init.locals ≤ R.locals) : bm_Cal l dC dI B cy R cgX9_init (gX9_init, 133, 1005) :=
  ⟨obX9_init, am_inU 79 (by decide +kernel) (by decide +kernel), rfl, rfl, h1, h2, ⟨by decide, by decide, by decide +kernel⟩, rfl, _, rfl⟩
def qX10_init : am_P := [[(0, .aload_n 0, 1, 0, 0, .null), (1, .invokespecial 1, 3, 0, 0, .null), (4, .aload_n 0, 1, 0, 0, .null), (5, .bipush 64, 2, 0, 0, .int 64), (7, .newarray .int, 2, 0, 0, .null), (9, .putfield 7, 3, 0, 10, .null), (12, .aload_n 0, 1, 0, 0, .null), (13, .iconst 4, 1, 0, 0, .int 4), (14, .newarray .boolean, 2, 1, 0, .null)],
  [(16, .putfield 13, 3, 1, 10, .null), (19, .aload_n 0, 1, 0, 0, .null), (20, .bipush 20, 2, 0, 0, .int 20), (22, .newarray .int, 2, 0, 0, .null), (24, .putfield 17, 3, 2, 10, .null), (27, .aload_n 0, 1, 0, 0, .null), (28, .bipush 20, 2, 0, 0, .int 20), (30, .newarray .int, 2, 0, 0, .null)],
  [(32, .putfield 20, 3, 3, 10, .null), (35, .aload_n 0, 1, 0, 0, .null), (36, .iconst 4, 1, 0, 0, .int 4), (37, .newarray .int, 2, 0, 0, .null), (39, .putfield 23, 3, 4, 10, .null), (42, .aload_n 0, 1, 0, 0, .null), (43, .bipush 40, 2, 0, 0, .int 40), (45, .newarray .int, 2, 0, 0, .null), (47, .putfield 26, 3, 5, 10, .null)],
  [(50, .aload_n 0, 1, 0, 0, .null), (51, .iconst 4, 1, 0, 0, .int 4), (52, .newarray .int, 2, 0, 0, .null), (54, .putfield 29, 3, 6, 10, .null), (57, .aload_n 0, 1, 0, 0, .null), (58, .bipush 6, 2, 0, 0, .int 6), (60, .newarray .int, 2, 0, 0, .null), (62, .putfield 32, 3, 7, 10, .null)],
  [(65, .aload_n 0, 1, 0, 0, .null), (66, .bipush 6, 2, 0, 0, .int 6), (68, .newarray .int, 2, 0, 0, .null), (70, .putfield 35, 3, 8, 10, .null), (73, .aload_n 0, 1, 0, 0, .null), (74, .bipush 6, 2, 0, 0, .int 6), (76, .newarray .int, 2, 0, 0, .null), (78, .putfield 38, 3, 9, 10, .null)],
  [(81, .aload_n 0, 1, 0, 0, .null), (82, .bipush 8, 2, 0, 0, .int 8), (84, .newarray .int, 2, 0, 0, .null), (86, .putfield 41, 3, 10, 10, .null), (89, .aload_n 0, 1, 0, 0, .null), (90, .bipush 8, 2, 0, 0, .int 8), (92, .newarray .int, 2, 0, 0, .null), (94, .putfield 44, 3, 11, 10, .null)],
  [(97, .aload_n 0, 1, 0, 0, .null), (98, .bipush 8, 2, 0, 0, .int 8), (100, .newarray .int, 2, 0, 0, .null), (102, .putfield 47, 3, 12, 10, .null), (105, .aload_n 0, 1, 0, 0, .null), (106, .bipush 36, 2, 0, 0, .int 36), (108, .newarray .boolean, 2, 1, 0, .null), (110, .putfield 50, 3, 13, 10, .null)],
  [(113, .aload_n 0, 1, 0, 0, .null), (114, .bipush 40, 2, 0, 0, .int 40), (116, .newarray .int, 2, 0, 0, .null), (118, .putfield 53, 3, 15, 10, .null), (121, .aload_n 0, 1, 0, 0, .null), (122, .bipush 40, 2, 0, 0, .int 40), (124, .newarray .int, 2, 0, 0, .null), (126, .putfield 56, 3, 16, 10, .null)],
  [(129, .aload_n 0, 1, 0, 0, .null), (130, .bipush 40, 2, 0, 0, .int 40), (132, .newarray .boolean, 2, 1, 0, .null), (134, .putfield 59, 3, 17, 10, .null), (137, .aload_n 0, 1, 0, 0, .null), (138, .bipush 40, 2, 0, 0, .int 40), (140, .newarray .int, 2, 0, 0, .null), (142, .putfield 62, 3, 18, 10, .null)],
  [(145, .aload_n 0, 1, 0, 0, .null), (146, .bipush 40, 2, 0, 0, .int 40), (148, .newarray .int, 2, 0, 0, .null), (150, .putfield 65, 3, 19, 10, .null), (153, .aload_n 0, 1, 0, 0, .null), (154, .bipush 40, 2, 0, 0, .int 40), (156, .newarray .int, 2, 0, 0, .null), (158, .putfield 68, 3, 20, 10, .null)],
  [(161, .aload_n 0, 1, 0, 0, .null), (162, .bipush 40, 2, 0, 0, .int 40), (164, .newarray .int, 2, 0, 0, .null), (166, .putfield 71, 3, 21, 10, .null), (169, .aload_n 0, 1, 0, 0, .null), (170, .bipush 40, 2, 0, 0, .int 40), (172, .newarray .int, 2, 0, 0, .null), (174, .putfield 74, 3, 22, 10, .null)],
  [(177, .aload_n 0, 1, 0, 0, .null), (178, .bipush 40, 2, 0, 0, .int 40), (180, .newarray .boolean, 2, 1, 0, .null), (182, .putfield 77, 3, 23, 10, .null), (185, .aload_n 0, 1, 0, 0, .null), (186, .bipush 40, 2, 0, 0, .int 40), (188, .newarray .boolean, 2, 1, 0, .null), (190, .putfield 80, 3, 24, 10, .null)],
  [(193, .aload_n 0, 1, 0, 0, .null), (194, .sipush 240, 3, 0, 0, .int 240), (197, .newarray .int, 2, 0, 0, .null), (199, .putfield 83, 3, 25, 10, .null), (202, .aload_n 0, 1, 0, 0, .null), (203, .bipush 40, 2, 0, 0, .int 40), (205, .newarray .int, 2, 0, 0, .null), (207, .putfield 86, 3, 26, 10, .null)],
  [(210, .aload_n 0, 1, 0, 0, .null), (211, .bipush 40, 2, 0, 0, .int 40), (213, .newarray .int, 2, 0, 0, .null), (215, .putfield 89, 3, 27, 10, .null), (218, .aload_n 0, 1, 0, 0, .null), (219, .bipush 40, 2, 0, 0, .int 40), (221, .newarray .int, 2, 0, 0, .null), (223, .putfield 92, 3, 28, 10, .null)],
  [(226, .aload_n 0, 1, 0, 0, .null), (227, .bipush 10, 2, 0, 0, .int 10), (229, .newarray .int, 2, 0, 0, .null), (231, .putfield 95, 3, 29, 10, .null), (234, .aload_n 0, 1, 0, 0, .null), (235, .bipush 10, 2, 0, 0, .int 10), (237, .newarray .int, 2, 0, 0, .null), (239, .putfield 98, 3, 30, 10, .null)],
  [(242, .aload_n 0, 1, 0, 0, .null), (243, .bipush 24, 2, 0, 0, .int 24), (245, .newarray .int, 2, 0, 0, .null), (247, .putfield 101, 3, 31, 10, .null), (250, .aload_n 0, 1, 0, 0, .null), (251, .bipush 24, 2, 0, 0, .int 24), (253, .newarray .int, 2, 0, 0, .null), (255, .putfield 104, 3, 32, 10, .null)],
  [(258, .aload_n 0, 1, 0, 0, .null), (259, .bipush 24, 2, 0, 0, .int 24), (261, .newarray .int, 2, 0, 0, .null), (263, .putfield 107, 3, 33, 10, .null), (266, .aload_n 0, 1, 0, 0, .null), (267, .bipush 24, 2, 0, 0, .int 24), (269, .newarray .int, 2, 0, 0, .null), (271, .putfield 110, 3, 34, 10, .null)],
  [(274, .aload_n 0, 1, 0, 0, .null), (275, .bipush 24, 2, 0, 0, .int 24), (277, .newarray .int, 2, 0, 0, .null), (279, .putfield 113, 3, 35, 10, .null), (282, .aload_n 0, 1, 0, 0, .null), (283, .iconst (-1), 1, 0, 0, .int (-1)), (284, .putfield 116, 3, 38, 10, .null), (287, .aload_n 0, 1, 0, 0, .null)],
  [(288, .bipush 40, 2, 0, 0, .int 40), (290, .newarray .int, 2, 0, 0, .null), (292, .putfield 120, 3, 39, 10, .null), (295, .aload_n 0, 1, 0, 0, .null), (296, .ldc 123, 2, 0, 0, .int 65535), (298, .putfield 124, 3, 44, 10, .null), (301, .iconst 0, 1, 0, 0, .int 0), (302, .istore_n 1, 1, 1, 0, .null), (303, .iload_n 1, 1, 1, 0, .null)],
  [(304, .iconst 4, 1, 0, 0, .int 4), (305, .if_icmp .ge 59, 3, 364, 0, .null), (308, .aload_n 0, 1, 0, 0, .null), (309, .getfield 7, 3, 0, 10, .null), (312, .bipush 16, 2, 0, 0, .int 16), (314, .iload_n 1, 1, 1, 0, .null), (315, .imul, 1, 0, 0, .null), (316, .iconst 1, 1, 0, 0, .int 1), (317, .iadd, 1, 0, 0, .null), (318, .iconst (-1), 1, 0, 0, .int (-1)), (319, .iastore, 1, 0, 0, .null)],
  [(320, .aload_n 0, 1, 0, 0, .null), (321, .getfield 7, 3, 0, 10, .null), (324, .bipush 16, 2, 0, 0, .int 16), (326, .iload_n 1, 1, 1, 0, .null), (327, .imul, 1, 0, 0, .null), (328, .iconst 4, 1, 0, 0, .int 4), (329, .iadd, 1, 0, 0, .null), (330, .iconst (-1), 1, 0, 0, .int (-1)), (331, .iastore, 1, 0, 0, .null), (332, .aload_n 0, 1, 0, 0, .null), (333, .getfield 7, 3, 0, 10, .null)],
  [(336, .bipush 16, 2, 0, 0, .int 16), (338, .iload_n 1, 1, 1, 0, .null), (339, .imul, 1, 0, 0, .null), (340, .bipush 13, 2, 0, 0, .int 13), (342, .iadd, 1, 0, 0, .null), (343, .iconst 2, 1, 0, 0, .int 2), (344, .iastore, 1, 0, 0, .null), (345, .aload_n 0, 1, 0, 0, .null), (346, .getfield 7, 3, 0, 10, .null), (349, .bipush 16, 2, 0, 0, .int 16), (351, .iload_n 1, 1, 1, 0, .null)],
  [(352, .imul, 1, 0, 0, .null), (353, .bipush 15, 2, 0, 0, .int 15), (355, .iadd, 1, 0, 0, .null), (356, .iconst 1, 1, 0, 0, .int 1), (357, .iastore, 1, 0, 0, .null), (358, .iinc 1 1, 3, 1, 0, .int 1), (361, .goto (-58), 3, 303, 0, .null), (364, .iconst 0, 1, 0, 0, .int 0), (365, .istore_n 1, 1, 1, 0, .null), (366, .iload_n 1, 1, 1, 0, .null), (367, .bipush 8, 2, 0, 0, .int 8)],
  [(369, .if_icmp .ge 16, 3, 385, 0, .null), (372, .aload_n 0, 1, 0, 0, .null), (373, .getfield 41, 3, 10, 10, .null), (376, .iload_n 1, 1, 1, 0, .null), (377, .iconst (-1), 1, 0, 0, .int (-1)), (378, .iastore, 1, 0, 0, .null), (379, .iinc 1 1, 3, 1, 0, .int 1), (382, .goto (-16), 3, 366, 0, .null)],
  [(385, .return_, 1, 0, 0, .null)]]
abbrev rmX10_init : Room := { frames := 1, cells := 36, slots := 1174, locals := 20 }
def gX10_init : bm_F := bm_meth [] 36 1174 2 5000 qX10_init
def cgX10_init : bm_C := (yX10_init, .code yX10_init cX10_init 2 none, rmX10_init, 2)
theorem obX10_init {l : Launch} {dC : Nat → ClassId} {dI : Nat → Nat → Nat} {B : Nat} {cy : Nat → ClassId} : bm_Ok l dC dI B cy yX10_init (.code yX10_init cX10_init 2 none) rmX10_init gX10_init :=
  bm_meth_ok (ci := []) (by decide) rfl ⟨10, by decide, rfl⟩ (bm_rows_of (by decide +kernel) (bm_words_of [963, 81, 82, 109, 965, 110, 966, 109, 967, 109, 968, 109, 969, 109, 970, 109, 971, 109, 972, 109, 973, 109, 974, 109, 975, 109, 976, 109, 977, 110, 978, 109, 980, 109, 981, 110, 982, 109, 983, 109, 984, 109, 985, 109, 986, 109, 987, 110, 988, 110, 989, 109, 990, 109, 991, 109, 992, 109, 993, 109, 994, 109, 995, 109, 996, 109, 997, 109, 998, 109, 999, 109, 1000, 1003, 109, 1004, 964, 1009, 965, 965, 965, 965, 975] (by decide +kernel) (by decide +kernel))) (bm_put_of (by decide +kernel)) bm_cs_nil (by decide) (by decide)
theorem cbX10_init {l : Launch} {dC : Nat → ClassId} {dI : Nat → Nat → Nat} {B : Nat} {cy : Nat → ClassId} {R : Room} (h1 : rmX10_init.frames + 1 ≤ R.frames) (h2 : 8 + (2 + 11) + rmX10_init.locals ≤ R.locals) : bm_Cal l dC dI B cy R cgX10_init (gX10_init, 36, 1174) :=
  ⟨obX10_init, am_inU 962 (by decide +kernel) (by decide +kernel), rfl, rfl, h1, h2, ⟨by decide, by decide, by decide +kernel⟩, rfl, _, rfl⟩
/-- what the law has made before its loop: the class's object, the reference's, a long[1] -/
def bm_m1 : Option bm_M := gX9_init 0 [(9, bm_dv 9)]
def bm_x1 : bm_M := bm_m1.getD []
def bm_m2 : Option bm_M := gX10_init bm_x1.length (bm_x1 ++ [(10, bm_dv 10)])
def bm_x2 : bm_M := bm_m2.getD []
theorem bm_m1_some : bm_m1 = some bm_x1 := by
  have h : bm_m1.isSome = true := by decide +kernel
  unfold bm_x1
  cases hq : bm_m1 with
  | none => rw [hq] at h; cases h
  | some m => rfl
theorem bm_x1_len : bm_x1.length = 134 := by decide +kernel
theorem bm_m2_some : bm_m2 = some bm_x2 := by
  have h : bm_m2.isSome = true := by decide +kernel
  unfold bm_x2
  cases hq : bm_m2 with
  | none => rw [hq] at h; cases h
  | some m => rfl
theorem bm_x2_len : bm_x2.length = 171 := by decide +kernel
end
section
/-! ===== from the second machine's memory to the first's ===== -/
def bm_offl : List (Nat × Nat) := [(14, 7), (54, 4), (17, 7), (10, 0), (94, 1), (46, 1), (12, 7), (6, 0), (40, 1), (0, 0), (134, 0), (15, 7), (16, 7), (55, 4), (56, 4), (57, 4), (18, 7), (11, 0), (13, 7), (7, 0), (8, 0), (9, 0), (1, 0), (2, 0), (3, 0), (4, 0), (5, 0), (0, 0), (0, 0), (0, 0), (135, 0), (136, 0), (137, 0), (138, 0), (139, 0), (140, 0), (141, 0), (142, 0), (143, 0), (144, 0), (145, 0), (146, 0), (147, 0), (148, 0), (0, 0), (149, 0), (150, 0), (151, 0), (152, 0), (153, 0), (154, 0), (155, 0), (156, 0), (157, 0), (158, 0), (159, 0), (160, 0), (161, 0), (162, 0), (163, 0), (164, 0), (165, 0), (166, 0), (167, 0), (168, 0), (169, 0), (0, 0), (0, 0), (0, 0), (170, 0), (0, 0), (0, 0), (0, 0), (0, 0), (0, 0), (0, 0), (0, 0), (0, 0), (0, 0), (0, 0), (171, 0)]
def bm_num (k i : Nat) : Nat := (bm_offl.getD k (0, 0)).1 + (bm_offl.getD k (0, 0)).2 * i
def bm_xF : bm_M := bm_x2 ++ [(102, [.inl (.int 0)])]
def bm_M0 : am_M := fun k i f => bm_iv ((bm_xF.getD (bm_num k i) (0, [])).2) f
def bm_adF (B tL tM b : Nat) : Nat → Nat → Nat := fun k i => if k = 27 then tL else if k = 28 then tM else if k = 29 then b else B + bm_num k i
def bm_agr (q : Nat × Nat) : Bool := match bm_xF[bm_num q.1 q.2]?, am_ar q.1 with
  | some (c, vs), none => Nat.beq c q.1 && Nat.beq vs.length (am_nf q.1) && (List.range (am_nf q.1)).all (fun f => match am_ft q.1 f, vs[f]? with
    | some k', some (.inr z) => Nat.beq z.2 (bm_num k' q.2) && Nat.beq z.1 0
    | none, some (.inl (.int x)) => !am_fz q.1 f || decide (am_b x = x)
    | _, _ => false)
  | some (c, vs), some (0, n) => Nat.beq c 100 && Nat.beq vs.length n
  | some (c, vs), some (1, n) => Nat.beq c 101 && Nat.beq vs.length n && vs.all (fun v => decide (v = .inl (.int 0)))
  | some (c, vs), some (2, n) => Nat.beq c 102 && Nat.beq vs.length n && vs.all (fun v => decide (v = .inl (.int 0)))
  | some (c, vs), some (e + 3, n) => Nat.beq c (103 + e) && Nat.beq vs.length n && (List.range n).all (fun j => match vs[j]? with
    | some (.inr z) => Nat.beq z.2 (bm_num e j)
    | _ => false)
  | none, _ => false
theorem bm_agr_all : am_KI.all bm_agr = true := by decide +kernel
theorem bm_ft_not : ∀ c, c < 11 → ∀ f, f < am_nf c → ∀ k, am_ft c f = some k → ¬ k = 27 ∧ ¬ k = 28 ∧ ¬ k = 29 := by decide +kernel
theorem bm_ar_not : ∀ k, k < 81 → (match am_ar k with | some (e, _) => decide (e < 30 ∧ ¬ e = 30) | none => true) = true := by decide +kernel
theorem bm_KI_not : ∀ q ∈ am_KI, ¬ q.1 = 27 ∧ ¬ q.1 = 28 ∧ ¬ q.1 = 29 ∧ q.1 < 81 := by decide +kernel
theorem bm_KI_obj : ∀ q ∈ am_KI, am_ar q.1 = none → q.1 < 11 := by decide +kernel
theorem bm_num_inj : va_nd (am_KI.map (fun q => bm_num q.1 q.2)) = true := by decide +kernel
theorem arrV_cg {cA : ClassId} {n : Nat} {f g : Nat → Value} (h : ∀ j, j < n → f j = g j) : arrV cA n f = arrV cA n g := by
  unfold arrV
  congr 1
  apply Array.ext
  · simp
  · intro i h1 h2
    simp only [Array.size_ofFn] at h1
    simp only [Array.getElem_ofFn]
    exact h i h1
theorem bm_iv0 {vs : List am_V} (h : vs.all (fun v => decide (v = .inl (.int 0))) = true) (j : Nat) : bm_iv vs j = 0 := by
  unfold bm_iv
  split
  · rename_i x hx
    have := List.all_eq_true.mp h _ (List.mem_of_getElem? hx)
    simp only [decide_eq_true_eq] at this
    cases this
    rfl
  · rfl
theorem bm_to_am {dC : Nat → ClassId} {dI : Nat → Nat → Nat} {B tL tM b : Nat} {cy : Nat → ClassId} {H : Heap} (hP : va_P (dC, dI) vwCl (bm_W B cy bm_xF) H) : va_P (dC, dI) vwCl (am_W (bm_adF B tL tM b) cy bm_M0) H := by
  intro p x hx
  obtain ⟨q, hq, -⟩ := am_W_at hx
  have hqm := List.mem_of_getElem? hq
  have hx2 : x = (bm_adF B tL tM b q.1 q.2, am_en (bm_adF B tL tM b) cy q.1 q.2 (bm_M0 q.1 q.2)) := by
    unfold am_W at hx
    rw [List.getElem?_map, hq] at hx
    cases hx
    rfl
  obtain ⟨k, i⟩ := q
  obtain ⟨n1, n2, n3, n4⟩ := bm_KI_not _ hqm
  simp only at n1 n2 n3 n4
  have had : bm_adF B tL tM b k i = B + bm_num k i := by unfold bm_adF; rw [if_neg n1, if_neg n2, if_neg n3]
  have hag := List.all_eq_true.mp bm_agr_all _ hqm
  unfold bm_agr at hag
  simp only at hag
  subst hx2
  simp only at hx
  show va_at (dC, dI) vwCl (bm_adF B tL tM b k i, am_en (bm_adF B tL tM b) cy k i (bm_M0 k i)) H
  rw [had]
  cases hm : bm_xF[bm_num k i]? with
  | none => rw [hm] at hag; cases hag
  | some o =>
    obtain ⟨c, vs⟩ := o
    have hM0 : bm_M0 k i = bm_iv vs := by
      funext f
      unfold bm_M0
      rw [List.getD_eq_getElem?_getD, hm]
      rfl
    have hat := hP _ _ (bm_W_at (B := B) (cy := cy) hm)
    rw [hm] at hag
    rw [hM0]
    unfold am_en
    split at hag
    · rename_i e1 e2
      cases e1
      rw [e2]
      simp only [Bool.and_eq_true] at hag
      obtain ⟨⟨a1, a2⟩, a3⟩ := hag
      have a1 := Nat.eq_of_beq_eq_true a1
      have a2 := Nat.eq_of_beq_eq_true a2
      subst a1
      have hk11 := bm_KI_obj _ hqm e2
      rw [bm_en_c (by omega)] at hat
      have e3 : (List.range (am_nf c)).map (am_fv (bm_adF B tL tM b) c i (bm_iv vs)) = vs.map (am_co (bm_ad B)) := by
        apply List.ext_getElem?
        intro f
        rw [List.getElem?_map, List.getElem?_map]
        by_cases hf : f < am_nf c
        · rw [List.getElem?_range hf]
          have a4 := List.all_eq_true.mp a3 f (List.mem_range.mpr hf)
          split at a4
          · rename_i k' z e4 e5
            simp only [Bool.and_eq_true] at a4
            have b1 := Nat.eq_of_beq_eq_true a4.1
            rw [e5]
            simp only [Option.map_some]
            refine congrArg some ?_
            unfold am_fv
            rw [e4]
            obtain ⟨g1, g2, g3⟩ := bm_ft_not c hk11 f hf k' e4
            show Value.ref (bm_adF B tL tM b k' i) = Value.ref (B + z.2)
            unfold bm_adF
            rw [if_neg g1, if_neg g2, if_neg g3, b1]
          · rename_i x e4 e5
            rw [e5]
            simp only [Option.map_some]
            refine congrArg some ?_
            unfold am_fv
            rw [e4]
            have b2 : bm_iv vs f = x := by unfold bm_iv; rw [e5]
            rw [b2]
            show Value.int (cond (am_fz c f) (am_b x) x) = Value.int x
            cases hz : am_fz c f with
            | false => rfl
            | true =>
              rw [hz] at a4
              simp only [Bool.not_true, Bool.false_or, decide_eq_true_eq] at a4
              show Value.int (am_b x) = _
              rw [a4]
          · cases a4
        · rw [List.getElem?_eq_none (by simpa using hf), List.getElem?_eq_none (by rw [a2]; simpa using hf)]
          rfl
      rw [e3]
      exact hat
    · rename_i n e1 e2
      cases e1
      rw [e2]
      simp only [Bool.and_eq_true] at hag
      have a1 := Nat.eq_of_beq_eq_true hag.1
      have a2 := Nat.eq_of_beq_eq_true hag.2
      subst a1
      subst a2
      exact hat
    · rename_i n e1 e2
      cases e1
      rw [e2]
      simp only [Bool.and_eq_true] at hag
      have a1 := Nat.eq_of_beq_eq_true hag.1.1
      have a2 := Nat.eq_of_beq_eq_true hag.1.2
      subst a1
      subst a2
      have e3 : (fun j => am_b (bm_iv vs j)) = bm_iv vs := by
        funext j
        rw [bm_iv0 hag.2 j]
        rfl
      simp only
      rw [e3]
      exact hat
    · rename_i n e1 e2
      cases e1
      rw [e2]
      simp only [Bool.and_eq_true] at hag
      have a1 := Nat.eq_of_beq_eq_true hag.1.1
      have a2 := Nat.eq_of_beq_eq_true hag.1.2
      subst a1
      subst a2
      have e3 : (fun j => am_jn (bm_iv vs (2 * j)) (bm_iv vs (2 * j + 1))) = fun _ => 0 := by
        funext j
        rw [bm_iv0 hag.2, bm_iv0 hag.2]
        rfl
      simp only
      rw [e3]
      exact hat
    · rename_i e n e1 e2
      cases e1
      rw [e2]
      simp only [Bool.and_eq_true] at hag
      have a1 := Nat.eq_of_beq_eq_true hag.1.1
      have a2 := Nat.eq_of_beq_eq_true hag.1.2
      subst a1
      subst a2
      rw [bm_en_r] at hat
      have he : e + 3 < 30 := by
        have := bm_ar_not k n4
        rw [e2] at this
        simp only [decide_eq_true_eq] at this
        exact this.1
      show H[B + bm_num k i]? = some (vp_cell (cy (e + 3)) (vs.length, .inr (.inr (.inr (.inr (fun j => some (bm_adF B tL tM b e j)))))))
      have hat' : H[B + bm_num k i]? = some (vp_cell (cy (3 + e)) (vs.length, .inr (.inr (.inr (.inr (bm_rv B vs)))))) := hat
      rw [hat', Nat.add_comm 3 e, vp_cell_q, vp_cell_q]
      refine congrArg some (arrV_cg (fun j hj => ?_))
      have a4 := List.all_eq_true.mp hag.2 j (List.mem_range.mpr hj)
      unfold bm_rv
      split at a4
      · rename_i z e5
        have b1 := Nat.eq_of_beq_eq_true a4
        rw [e5]
        unfold bm_adF
        rw [if_neg (by omega), if_neg (by omega), if_neg (by omega), ← b1]
      · cases a4
    · rename_i e1; cases e1
theorem bm_am_D {B tL tM b : Nat} {cy : Nat → ClassId} (M : am_M) : va_D (am_A (bm_adF B tL tM b)) (am_W (bm_adF B tL tM b) cy M) := by
  have had : ∀ q ∈ am_KI, bm_adF B tL tM b q.1 q.2 = B + bm_num q.1 q.2 := by
    intro q hq
    obtain ⟨n1, n2, n3, -⟩ := bm_KI_not _ hq
    unfold bm_adF
    rw [if_neg n1, if_neg n2, if_neg n3]
  refine ⟨fun i j x y hx hy hxy => ?_, fun k x hx => ?_⟩
  · obtain ⟨q1, h1, e1⟩ := am_W_at hx
    obtain ⟨q2, h2, e2⟩ := am_W_at hy
    rw [e1, e2, had _ (List.mem_of_getElem? h1), had _ (List.mem_of_getElem? h2)] at hxy
    exact va_nd_inj _ bm_num_inj i j (bm_num q1.1 q1.2) (by rw [List.getElem?_map, h1]; rfl) (by rw [List.getElem?_map, h2]; show some (bm_num q2.1 q2.2) = _; rw [show bm_num q2.1 q2.2 = bm_num q1.1 q1.2 by omega])
  · obtain ⟨q, h1, e1⟩ := am_W_at hx
    exact ⟨q.1, q.2, am_mem_of (List.mem_of_getElem? h1), e1⟩
theorem bm_am_A {B tL tM b : Nat} {q : Nat} (h : am_A (bm_adF B tL tM b) q) : B ≤ q := by
  obtain ⟨k, i, h1, rfl⟩ := h
  obtain ⟨n1, n2, n3, -⟩ := bm_KI_not (k, i) (am_mem h1)
  unfold bm_adF
  rw [if_neg n1, if_neg n2, if_neg n3]
  exact Nat.le_add_right _ _
end
section
/-! ===== the law ===== -/
def pLr0 : List (Nat × am_Row) := []
def pLr1 : List (Nat × am_Row) := [(20, .iconst 0, 1, 0, 0, .int 0), (21, .istore 4, 2, 4, 0, .null), (23, .iload 4, 2, 4, 0, .null), (25, .aload_n 0, 1, 0, 0, .null), (26, .arraylength, 1, 0, 0, .null), (27, .iconst 5, 1, 0, 0, .int 5), (28, .isub, 1, 0, 0, .null), (29, .if_icmp .gt 1257, 3, 1286, 0, .null)]
def pLr2 : List (Nat × am_Row) := [(32, .aload_n 0, 1, 0, 0, .null), (33, .iload 4, 2, 4, 0, .null), (35, .iaload, 1, 0, 0, .null), (36, .bipush 31, 2, 0, 0, .int 31), (38, .iand, 1, 0, 0, .null), (39, .tableswitch 1241 0 19 #[93, 153, 233, 296, 368, 424, 496, 571, 667, 703, 739, 775, 788, 801, 869, 937, 1005, 1073, 1129, 1185], 93, 0, 0, .null)]
def pLr3 : List (Nat × am_Row) := []
def pLr4 : List (Nat × am_Row) := []
def pLr5 : List (Nat × am_Row) := []
def pLr6 : List (Nat × am_Row) := []
def pLr7 : List (Nat × am_Row) := []
def pLr8 : List (Nat × am_Row) := [(132, .aload_n 1, 1, 1, 0, .null), (133, .aload_n 0, 1, 0, 0, .null), (134, .iload 4, 2, 4, 0, .null), (136, .iconst 1, 1, 0, 0, .int 1), (137, .iadd, 1, 0, 0, .null), (138, .iaload, 1, 0, 0, .null), (139, .aload_n 0, 1, 0, 0, .null), (140, .iload 4, 2, 4, 0, .null), (142, .iconst 2, 1, 0, 0, .int 2), (143, .iadd, 1, 0, 0, .null)]
def pLr9 : List (Nat × am_Row) := [(144, .iaload, 1, 0, 0, .null), (145, .aload_n 0, 1, 0, 0, .null), (146, .iload 4, 2, 4, 0, .null), (148, .iconst 3, 1, 0, 0, .int 3), (149, .iadd, 1, 0, 0, .null), (150, .iaload, 1, 0, 0, .null), (151, .invokestatic 84, 3, 0, 4, .null), (154, .istore 5, 2, 5, 0, .null), (156, .aload_n 2, 1, 2, 0, .null), (157, .aload_n 0, 1, 0, 0, .null), (158, .iload 4, 2, 4, 0, .null)]
def pLr10 : List (Nat × am_Row) := [(160, .iconst 1, 1, 0, 0, .int 1), (161, .iadd, 1, 0, 0, .null), (162, .iaload, 1, 0, 0, .null), (163, .aload_n 0, 1, 0, 0, .null), (164, .iload 4, 2, 4, 0, .null), (166, .iconst 2, 1, 0, 0, .int 2), (167, .iadd, 1, 0, 0, .null), (168, .iaload, 1, 0, 0, .null), (169, .aload_n 0, 1, 0, 0, .null), (170, .iload 4, 2, 4, 0, .null), (172, .iconst 3, 1, 0, 0, .int 3), (173, .iadd, 1, 0, 0, .null), (174, .iaload, 1, 0, 0, .null), (175, .invokevirtual 89, 3, 1, 4, .ref 10)]
def pLr11 : List (Nat × am_Row) := [(178, .aload_n 2, 1, 2, 0, .null), (179, .invokevirtual 90, 3, 2, 1, .ref 10), (182, .iload 5, 2, 5, 0, .null), (184, .if_icmp .eq 5, 3, 189, 0, .null), (187, .iconst 0, 1, 0, 0, .int 0), (188, .ireturn, 1, 0, 0, .null), (189, .goto 1091, 3, 1280, 0, .null)]
def pLr12 : List (Nat × am_Row) := [(192, .aload_n 1, 1, 1, 0, .null), (193, .aload_n 0, 1, 0, 0, .null), (194, .iload 4, 2, 4, 0, .null), (196, .iconst 1, 1, 0, 0, .int 1), (197, .iadd, 1, 0, 0, .null), (198, .iaload, 1, 0, 0, .null), (199, .aload_n 0, 1, 0, 0, .null), (200, .iload 4, 2, 4, 0, .null), (202, .iconst 2, 1, 0, 0, .int 2), (203, .iadd, 1, 0, 0, .null), (204, .iaload, 1, 0, 0, .null), (205, .aload_n 0, 1, 0, 0, .null), (206, .iload 4, 2, 4, 0, .null)]
def pLr13 : List (Nat × am_Row) := [(208, .iconst 3, 1, 0, 0, .int 3), (209, .iadd, 1, 0, 0, .null), (210, .iaload, 1, 0, 0, .null), (211, .aload_n 3, 1, 3, 0, .null), (212, .invokestatic 94, 3, 3, 5, .null), (215, .istore 5, 2, 5, 0, .null), (217, .aload_n 2, 1, 2, 0, .null), (218, .aload_n 0, 1, 0, 0, .null), (219, .iload 4, 2, 4, 0, .null), (221, .iconst 1, 1, 0, 0, .int 1), (222, .iadd, 1, 0, 0, .null), (223, .iaload, 1, 0, 0, .null)]
def pLr14 : List (Nat × am_Row) := [(224, .aload_n 0, 1, 0, 0, .null), (225, .iload 4, 2, 4, 0, .null), (227, .iconst 2, 1, 0, 0, .int 2), (228, .iadd, 1, 0, 0, .null), (229, .iaload, 1, 0, 0, .null), (230, .aload_n 0, 1, 0, 0, .null), (231, .iload 4, 2, 4, 0, .null), (233, .iconst 3, 1, 0, 0, .int 3), (234, .iadd, 1, 0, 0, .null), (235, .iaload, 1, 0, 0, .null), (236, .invokevirtual 97, 3, 4, 4, .ref 10), (239, .istore 6, 2, 6, 0, .null)]
def pLr15 : List (Nat × am_Row) := [(241, .aload_n 2, 1, 2, 0, .null), (242, .invokevirtual 90, 3, 2, 1, .ref 10), (245, .iload 5, 2, 5, 0, .null), (247, .if_icmp .eq 5, 3, 252, 0, .null), (250, .iconst 0, 1, 0, 0, .int 0), (251, .ireturn, 1, 0, 0, .null), (252, .iload 5, 2, 5, 0, .null), (254, .ifCond .ne 15, 3, 269, 0, .null)]
def pLr16 : List (Nat × am_Row) := [(257, .aload_n 3, 1, 3, 0, .null), (258, .iconst 0, 1, 0, 0, .int 0), (259, .laload, 1, 0, 0, .null), (260, .iload 6, 2, 6, 0, .null), (262, .i2l, 1, 0, 0, .null), (263, .lcmp, 1, 0, 0, .null), (264, .ifCond .eq 5, 3, 269, 0, .null), (267, .iconst 0, 1, 0, 0, .int 0), (268, .ireturn, 1, 0, 0, .null), (269, .goto 1011, 3, 1280, 0, .null)]
def pLr17 : List (Nat × am_Row) := [(272, .aload_n 1, 1, 1, 0, .null), (273, .aload_n 0, 1, 0, 0, .null), (274, .iload 4, 2, 4, 0, .null), (276, .iconst 1, 1, 0, 0, .int 1), (277, .iadd, 1, 0, 0, .null), (278, .iaload, 1, 0, 0, .null), (279, .aload_n 3, 1, 3, 0, .null), (280, .invokestatic 98, 3, 5, 3, .null), (283, .istore 5, 2, 5, 0, .null), (285, .aload_n 2, 1, 2, 0, .null), (286, .aload_n 0, 1, 0, 0, .null), (287, .iload 4, 2, 4, 0, .null)]
def pLr18 : List (Nat × am_Row) := [(289, .iconst 1, 1, 0, 0, .int 1), (290, .iadd, 1, 0, 0, .null), (291, .iaload, 1, 0, 0, .null), (292, .invokevirtual 101, 3, 6, 2, .ref 10), (295, .istore 6, 2, 6, 0, .null), (297, .aload_n 2, 1, 2, 0, .null), (298, .invokevirtual 90, 3, 2, 1, .ref 10), (301, .iload 5, 2, 5, 0, .null), (303, .if_icmp .eq 5, 3, 308, 0, .null)]
def pLr19 : List (Nat × am_Row) := [(306, .iconst 0, 1, 0, 0, .int 0), (307, .ireturn, 1, 0, 0, .null), (308, .iload 5, 2, 5, 0, .null), (310, .ifCond .ne 22, 3, 332, 0, .null), (313, .aload_n 3, 1, 3, 0, .null), (314, .iconst 0, 1, 0, 0, .int 0), (315, .laload, 1, 0, 0, .null), (316, .iload 6, 2, 6, 0, .null), (318, .ifCond .eq 7, 3, 325, 0, .null)]
def pLr20 : List (Nat × am_Row) := [(321, .lconst 1, 1, 0, 0, .long 1), (322, .goto 4, 3, 326, 0, .null), (325, .lconst 0, 1, 0, 0, .long 0), (326, .lcmp, 1, 0, 0, .null), (327, .ifCond .eq 5, 3, 332, 0, .null), (330, .iconst 0, 1, 0, 0, .int 0), (331, .ireturn, 1, 0, 0, .null), (332, .goto 948, 3, 1280, 0, .null), (335, .aload_n 1, 1, 1, 0, .null)]
def pLr21 : List (Nat × am_Row) := [(336, .aload_n 0, 1, 0, 0, .null), (337, .iload 4, 2, 4, 0, .null), (339, .iconst 1, 1, 0, 0, .int 1), (340, .iadd, 1, 0, 0, .null), (341, .iaload, 1, 0, 0, .null), (342, .aload_n 0, 1, 0, 0, .null), (343, .iload 4, 2, 4, 0, .null), (345, .iconst 2, 1, 0, 0, .int 2), (346, .iadd, 1, 0, 0, .null), (347, .iaload, 1, 0, 0, .null), (348, .aload_n 0, 1, 0, 0, .null), (349, .iload 4, 2, 4, 0, .null), (351, .iconst 3, 1, 0, 0, .int 3)]
def pLr22 : List (Nat × am_Row) := [(352, .iadd, 1, 0, 0, .null), (353, .iaload, 1, 0, 0, .null), (354, .aload_n 0, 1, 0, 0, .null), (355, .iload 4, 2, 4, 0, .null), (357, .iconst 4, 1, 0, 0, .int 4), (358, .iadd, 1, 0, 0, .null), (359, .iaload, 1, 0, 0, .null), (360, .invokestatic 102, 3, 7, 5, .null), (363, .istore 5, 2, 5, 0, .null), (365, .aload_n 2, 1, 2, 0, .null), (366, .aload_n 0, 1, 0, 0, .null), (367, .iload 4, 2, 4, 0, .null)]
def pLr23 : List (Nat × am_Row) := [(369, .iconst 1, 1, 0, 0, .int 1), (370, .iadd, 1, 0, 0, .null), (371, .iaload, 1, 0, 0, .null), (372, .aload_n 0, 1, 0, 0, .null), (373, .iload 4, 2, 4, 0, .null), (375, .iconst 2, 1, 0, 0, .int 2), (376, .iadd, 1, 0, 0, .null), (377, .iaload, 1, 0, 0, .null), (378, .aload_n 0, 1, 0, 0, .null), (379, .iload 4, 2, 4, 0, .null), (381, .iconst 3, 1, 0, 0, .int 3), (382, .iadd, 1, 0, 0, .null), (383, .iaload, 1, 0, 0, .null)]
def pLr24 : List (Nat × am_Row) := [(384, .aload_n 0, 1, 0, 0, .null), (385, .iload 4, 2, 4, 0, .null), (387, .iconst 4, 1, 0, 0, .int 4), (388, .iadd, 1, 0, 0, .null), (389, .iaload, 1, 0, 0, .null), (390, .invokevirtual 105, 3, 8, 5, .ref 10), (393, .aload_n 2, 1, 2, 0, .null), (394, .invokevirtual 90, 3, 2, 1, .ref 10), (397, .iload 5, 2, 5, 0, .null), (399, .if_icmp .eq 5, 3, 404, 0, .null)]
def pLr25 : List (Nat × am_Row) := [(402, .iconst 0, 1, 0, 0, .int 0), (403, .ireturn, 1, 0, 0, .null), (404, .goto 876, 3, 1280, 0, .null), (407, .aload_n 1, 1, 1, 0, .null), (408, .aload_n 0, 1, 0, 0, .null), (409, .iload 4, 2, 4, 0, .null), (411, .iconst 1, 1, 0, 0, .int 1), (412, .iadd, 1, 0, 0, .null), (413, .iaload, 1, 0, 0, .null), (414, .aload_n 3, 1, 3, 0, .null), (415, .invokestatic 106, 3, 9, 3, .null)]
def pLr26 : List (Nat × am_Row) := [(418, .istore 5, 2, 5, 0, .null), (420, .aload_n 2, 1, 2, 0, .null), (421, .aload_n 0, 1, 0, 0, .null), (422, .iload 4, 2, 4, 0, .null), (424, .iconst 1, 1, 0, 0, .int 1), (425, .iadd, 1, 0, 0, .null), (426, .iaload, 1, 0, 0, .null), (427, .invokevirtual 108, 3, 10, 2, .ref 10), (430, .istore 6, 2, 6, 0, .null)]
def pLr27 : List (Nat × am_Row) := [(432, .aload_n 2, 1, 2, 0, .null), (433, .invokevirtual 90, 3, 2, 1, .ref 10), (436, .iload 5, 2, 5, 0, .null), (438, .if_icmp .eq 5, 3, 443, 0, .null), (441, .iconst 0, 1, 0, 0, .int 0), (442, .ireturn, 1, 0, 0, .null), (443, .iload 5, 2, 5, 0, .null), (445, .ifCond .ne 15, 3, 460, 0, .null)]
def pLr28 : List (Nat × am_Row) := [(448, .aload_n 3, 1, 3, 0, .null), (449, .iconst 0, 1, 0, 0, .int 0), (450, .laload, 1, 0, 0, .null), (451, .iload 6, 2, 6, 0, .null), (453, .i2l, 1, 0, 0, .null), (454, .lcmp, 1, 0, 0, .null), (455, .ifCond .eq 5, 3, 460, 0, .null), (458, .iconst 0, 1, 0, 0, .int 0), (459, .ireturn, 1, 0, 0, .null), (460, .goto 820, 3, 1280, 0, .null), (463, .aload_n 1, 1, 1, 0, .null)]
def pLr29 : List (Nat × am_Row) := [(464, .aload_n 0, 1, 0, 0, .null), (465, .iload 4, 2, 4, 0, .null), (467, .iconst 1, 1, 0, 0, .int 1), (468, .iadd, 1, 0, 0, .null), (469, .iaload, 1, 0, 0, .null), (470, .aload_n 0, 1, 0, 0, .null), (471, .iload 4, 2, 4, 0, .null), (473, .iconst 2, 1, 0, 0, .int 2), (474, .iadd, 1, 0, 0, .null), (475, .iaload, 1, 0, 0, .null), (476, .aload_n 0, 1, 0, 0, .null), (477, .iload 4, 2, 4, 0, .null), (479, .iconst 3, 1, 0, 0, .int 3)]
def pLr30 : List (Nat × am_Row) := [(480, .iadd, 1, 0, 0, .null), (481, .iaload, 1, 0, 0, .null), (482, .aload_n 0, 1, 0, 0, .null), (483, .iload 4, 2, 4, 0, .null), (485, .iconst 4, 1, 0, 0, .int 4), (486, .iadd, 1, 0, 0, .null), (487, .iaload, 1, 0, 0, .null), (488, .invokestatic 109, 3, 11, 5, .null), (491, .istore 5, 2, 5, 0, .null), (493, .aload_n 2, 1, 2, 0, .null), (494, .aload_n 0, 1, 0, 0, .null), (495, .iload 4, 2, 4, 0, .null)]
def pLr31 : List (Nat × am_Row) := [(497, .iconst 1, 1, 0, 0, .int 1), (498, .iadd, 1, 0, 0, .null), (499, .iaload, 1, 0, 0, .null), (500, .aload_n 0, 1, 0, 0, .null), (501, .iload 4, 2, 4, 0, .null), (503, .iconst 2, 1, 0, 0, .int 2), (504, .iadd, 1, 0, 0, .null), (505, .iaload, 1, 0, 0, .null), (506, .aload_n 0, 1, 0, 0, .null), (507, .iload 4, 2, 4, 0, .null), (509, .iconst 3, 1, 0, 0, .int 3), (510, .iadd, 1, 0, 0, .null), (511, .iaload, 1, 0, 0, .null)]
def pLr32 : List (Nat × am_Row) := [(512, .aload_n 0, 1, 0, 0, .null), (513, .iload 4, 2, 4, 0, .null), (515, .iconst 4, 1, 0, 0, .int 4), (516, .iadd, 1, 0, 0, .null), (517, .iaload, 1, 0, 0, .null), (518, .invokevirtual 111, 3, 12, 5, .ref 10), (521, .aload_n 2, 1, 2, 0, .null), (522, .invokevirtual 90, 3, 2, 1, .ref 10), (525, .iload 5, 2, 5, 0, .null), (527, .if_icmp .eq 5, 3, 532, 0, .null)]
def pLr33 : List (Nat × am_Row) := [(530, .iconst 0, 1, 0, 0, .int 0), (531, .ireturn, 1, 0, 0, .null), (532, .goto 748, 3, 1280, 0, .null), (535, .aload_n 1, 1, 1, 0, .null), (536, .aload_n 0, 1, 0, 0, .null), (537, .iload 4, 2, 4, 0, .null), (539, .iconst 1, 1, 0, 0, .int 1), (540, .iadd, 1, 0, 0, .null), (541, .iaload, 1, 0, 0, .null), (542, .aload_n 0, 1, 0, 0, .null), (543, .iload 4, 2, 4, 0, .null)]
def pLr34 : List (Nat × am_Row) := [(545, .iconst 2, 1, 0, 0, .int 2), (546, .iadd, 1, 0, 0, .null), (547, .iaload, 1, 0, 0, .null), (548, .aload_n 3, 1, 3, 0, .null), (549, .invokestatic 112, 3, 13, 4, .null), (552, .istore 5, 2, 5, 0, .null), (554, .aload_n 2, 1, 2, 0, .null), (555, .aload_n 0, 1, 0, 0, .null), (556, .iload 4, 2, 4, 0, .null), (558, .iconst 1, 1, 0, 0, .int 1), (559, .iadd, 1, 0, 0, .null)]
def pLr35 : List (Nat × am_Row) := [(560, .iaload, 1, 0, 0, .null), (561, .aload_n 0, 1, 0, 0, .null), (562, .iload 4, 2, 4, 0, .null), (564, .iconst 2, 1, 0, 0, .int 2), (565, .iadd, 1, 0, 0, .null), (566, .iaload, 1, 0, 0, .null), (567, .invokevirtual 115, 3, 14, 3, .ref 10), (570, .istore 6, 2, 6, 0, .null), (572, .aload_n 2, 1, 2, 0, .null), (573, .invokevirtual 90, 3, 2, 1, .ref 10)]
def pLr36 : List (Nat × am_Row) := [(576, .iload 5, 2, 5, 0, .null), (578, .if_icmp .eq 5, 3, 583, 0, .null), (581, .iconst 0, 1, 0, 0, .int 0), (582, .ireturn, 1, 0, 0, .null), (583, .iload 5, 2, 5, 0, .null), (585, .ifCond .ne 22, 3, 607, 0, .null), (588, .aload_n 3, 1, 3, 0, .null), (589, .iconst 0, 1, 0, 0, .int 0), (590, .laload, 1, 0, 0, .null), (591, .iload 6, 2, 6, 0, .null)]
def pLr37 : List (Nat × am_Row) := [(593, .ifCond .eq 7, 3, 600, 0, .null), (596, .lconst 1, 1, 0, 0, .long 1), (597, .goto 4, 3, 601, 0, .null), (600, .lconst 0, 1, 0, 0, .long 0), (601, .lcmp, 1, 0, 0, .null), (602, .ifCond .eq 5, 3, 607, 0, .null), (605, .iconst 0, 1, 0, 0, .int 0), (606, .ireturn, 1, 0, 0, .null), (607, .goto 673, 3, 1280, 0, .null)]
def pLr38 : List (Nat × am_Row) := [(610, .aload_n 1, 1, 1, 0, .null), (611, .aload_n 0, 1, 0, 0, .null), (612, .iload 4, 2, 4, 0, .null), (614, .iconst 1, 1, 0, 0, .int 1), (615, .iadd, 1, 0, 0, .null), (616, .iaload, 1, 0, 0, .null), (617, .aload_n 0, 1, 0, 0, .null), (618, .iload 4, 2, 4, 0, .null), (620, .iconst 2, 1, 0, 0, .int 2), (621, .iadd, 1, 0, 0, .null), (622, .iaload, 1, 0, 0, .null), (623, .aload_n 0, 1, 0, 0, .null)]
def pLr39 : List (Nat × am_Row) := [(624, .iload 4, 2, 4, 0, .null), (626, .iconst 3, 1, 0, 0, .int 3), (627, .iadd, 1, 0, 0, .null), (628, .iaload, 1, 0, 0, .null), (629, .ifCond .eq 7, 3, 636, 0, .null), (632, .iconst 1, 1, 0, 0, .int 1), (633, .goto 4, 3, 637, 0, .null), (636, .iconst 0, 1, 0, 0, .int 0), (637, .aload_n 3, 1, 3, 0, .null), (638, .invokestatic 116, 3, 15, 5, .null)]
def pLr40 : List (Nat × am_Row) := [(641, .istore 5, 2, 5, 0, .null), (643, .aload_n 2, 1, 2, 0, .null), (644, .aload_n 0, 1, 0, 0, .null), (645, .iload 4, 2, 4, 0, .null), (647, .iconst 1, 1, 0, 0, .int 1), (648, .iadd, 1, 0, 0, .null), (649, .iaload, 1, 0, 0, .null), (650, .aload_n 0, 1, 0, 0, .null), (651, .iload 4, 2, 4, 0, .null), (653, .iconst 2, 1, 0, 0, .int 2), (654, .iadd, 1, 0, 0, .null), (655, .iaload, 1, 0, 0, .null)]
def pLr41 : List (Nat × am_Row) := [(656, .aload_n 0, 1, 0, 0, .null), (657, .iload 4, 2, 4, 0, .null), (659, .iconst 3, 1, 0, 0, .int 3), (660, .iadd, 1, 0, 0, .null), (661, .iaload, 1, 0, 0, .null), (662, .ifCond .eq 7, 3, 669, 0, .null), (665, .iconst 1, 1, 0, 0, .int 1), (666, .goto 4, 3, 670, 0, .null), (669, .iconst 0, 1, 0, 0, .int 0), (670, .invokevirtual 119, 3, 16, 4, .ref 10)]
def pLr42 : List (Nat × am_Row) := [(673, .istore 6, 2, 6, 0, .null), (675, .aload_n 2, 1, 2, 0, .null), (676, .invokevirtual 90, 3, 2, 1, .ref 10), (679, .iload 5, 2, 5, 0, .null), (681, .if_icmp .eq 5, 3, 686, 0, .null), (684, .iconst 0, 1, 0, 0, .int 0), (685, .ireturn, 1, 0, 0, .null), (686, .iload 5, 2, 5, 0, .null)]
def pLr43 : List (Nat × am_Row) := [(688, .ifCond .ne 15, 3, 703, 0, .null), (691, .aload_n 3, 1, 3, 0, .null), (692, .iconst 0, 1, 0, 0, .int 0), (693, .laload, 1, 0, 0, .null), (694, .iload 6, 2, 6, 0, .null), (696, .i2l, 1, 0, 0, .null), (697, .lcmp, 1, 0, 0, .null), (698, .ifCond .eq 5, 3, 703, 0, .null), (701, .iconst 0, 1, 0, 0, .int 0), (702, .ireturn, 1, 0, 0, .null), (703, .goto 577, 3, 1280, 0, .null)]
def pLr44 : List (Nat × am_Row) := [(706, .aload_n 1, 1, 1, 0, .null), (707, .aload_n 0, 1, 0, 0, .null), (708, .iload 4, 2, 4, 0, .null), (710, .iconst 1, 1, 0, 0, .int 1), (711, .iadd, 1, 0, 0, .null), (712, .iaload, 1, 0, 0, .null), (713, .invokestatic 120, 3, 17, 2, .null), (716, .istore 5, 2, 5, 0, .null), (718, .aload_n 2, 1, 2, 0, .null), (719, .aload_n 0, 1, 0, 0, .null)]
def pLr45 : List (Nat × am_Row) := [(720, .iload 4, 2, 4, 0, .null), (722, .iconst 1, 1, 0, 0, .int 1), (723, .iadd, 1, 0, 0, .null), (724, .iaload, 1, 0, 0, .null), (725, .invokevirtual 123, 3, 18, 2, .ref 10), (728, .aload_n 2, 1, 2, 0, .null), (729, .invokevirtual 90, 3, 2, 1, .ref 10), (732, .iload 5, 2, 5, 0, .null), (734, .if_icmp .eq 5, 3, 739, 0, .null)]
def pLr46 : List (Nat × am_Row) := [(737, .iconst 0, 1, 0, 0, .int 0), (738, .ireturn, 1, 0, 0, .null), (739, .goto 541, 3, 1280, 0, .null), (742, .aload_n 1, 1, 1, 0, .null), (743, .aload_n 0, 1, 0, 0, .null), (744, .iload 4, 2, 4, 0, .null), (746, .iconst 1, 1, 0, 0, .int 1), (747, .iadd, 1, 0, 0, .null), (748, .iaload, 1, 0, 0, .null), (749, .invokestatic 124, 3, 19, 2, .null)]
def pLr47 : List (Nat × am_Row) := [(752, .istore 5, 2, 5, 0, .null), (754, .aload_n 2, 1, 2, 0, .null), (755, .aload_n 0, 1, 0, 0, .null), (756, .iload 4, 2, 4, 0, .null), (758, .iconst 1, 1, 0, 0, .int 1), (759, .iadd, 1, 0, 0, .null), (760, .iaload, 1, 0, 0, .null), (761, .invokevirtual 126, 3, 20, 2, .ref 10), (764, .aload_n 2, 1, 2, 0, .null), (765, .invokevirtual 90, 3, 2, 1, .ref 10)]
def pLr48 : List (Nat × am_Row) := [(768, .iload 5, 2, 5, 0, .null), (770, .if_icmp .eq 5, 3, 775, 0, .null), (773, .iconst 0, 1, 0, 0, .int 0), (774, .ireturn, 1, 0, 0, .null), (775, .goto 505, 3, 1280, 0, .null), (778, .aload_n 1, 1, 1, 0, .null), (779, .aload_n 0, 1, 0, 0, .null), (780, .iload 4, 2, 4, 0, .null), (782, .iconst 1, 1, 0, 0, .int 1), (783, .iadd, 1, 0, 0, .null)]
def pLr49 : List (Nat × am_Row) := [(784, .iaload, 1, 0, 0, .null), (785, .invokestatic 127, 3, 21, 2, .null), (788, .istore 5, 2, 5, 0, .null), (790, .aload_n 2, 1, 2, 0, .null), (791, .aload_n 0, 1, 0, 0, .null), (792, .iload 4, 2, 4, 0, .null), (794, .iconst 1, 1, 0, 0, .int 1), (795, .iadd, 1, 0, 0, .null), (796, .iaload, 1, 0, 0, .null), (797, .invokevirtual 129, 3, 22, 2, .ref 10)]
def pLr50 : List (Nat × am_Row) := [(800, .aload_n 2, 1, 2, 0, .null), (801, .invokevirtual 90, 3, 2, 1, .ref 10), (804, .iload 5, 2, 5, 0, .null), (806, .if_icmp .eq 5, 3, 811, 0, .null), (809, .iconst 0, 1, 0, 0, .int 0), (810, .ireturn, 1, 0, 0, .null), (811, .goto 469, 3, 1280, 0, .null), (814, .aload_n 1, 1, 1, 0, .null), (815, .invokevirtual 130, 3, 23, 1, .ref 9)]
def pLr51 : List (Nat × am_Row) := [(818, .aload_n 2, 1, 2, 0, .null), (819, .invokevirtual 133, 3, 24, 1, .ref 10), (822, .if_icmp .eq 458, 3, 1280, 0, .null), (825, .iconst 0, 1, 0, 0, .int 0), (826, .ireturn, 1, 0, 0, .null), (827, .aload_n 1, 1, 1, 0, .null), (828, .invokevirtual 134, 3, 25, 1, .ref 9), (831, .aload_n 2, 1, 2, 0, .null)]
def pLr52 : List (Nat × am_Row) := [(832, .invokevirtual 137, 3, 26, 1, .ref 10), (835, .if_icmp .eq 445, 3, 1280, 0, .null), (838, .iconst 0, 1, 0, 0, .int 0), (839, .ireturn, 1, 0, 0, .null), (840, .aload_n 1, 1, 1, 0, .null), (841, .aload_n 0, 1, 0, 0, .null), (842, .iload 4, 2, 4, 0, .null), (844, .iconst 1, 1, 0, 0, .int 1), (845, .iadd, 1, 0, 0, .null), (846, .iaload, 1, 0, 0, .null), (847, .aload_n 0, 1, 0, 0, .null)]
def pLr53 : List (Nat × am_Row) := [(848, .iload 4, 2, 4, 0, .null), (850, .iconst 2, 1, 0, 0, .int 2), (851, .iadd, 1, 0, 0, .null), (852, .iaload, 1, 0, 0, .null), (853, .aload_n 3, 1, 3, 0, .null), (854, .invokestatic 138, 3, 27, 4, .null), (857, .istore 5, 2, 5, 0, .null), (859, .aload_n 2, 1, 2, 0, .null), (860, .aload_n 0, 1, 0, 0, .null), (861, .iload 4, 2, 4, 0, .null), (863, .iconst 1, 1, 0, 0, .int 1)]
def pLr54 : List (Nat × am_Row) := [(864, .iadd, 1, 0, 0, .null), (865, .iaload, 1, 0, 0, .null), (866, .aload_n 0, 1, 0, 0, .null), (867, .iload 4, 2, 4, 0, .null), (869, .iconst 2, 1, 0, 0, .int 2), (870, .iadd, 1, 0, 0, .null), (871, .iaload, 1, 0, 0, .null), (872, .invokevirtual 140, 3, 28, 3, .ref 10), (875, .istore 6, 2, 6, 0, .null), (877, .aload_n 2, 1, 2, 0, .null), (878, .invokevirtual 90, 3, 2, 1, .ref 10)]
def pLr55 : List (Nat × am_Row) := [(881, .iload 5, 2, 5, 0, .null), (883, .if_icmp .eq 5, 3, 888, 0, .null), (886, .iconst 0, 1, 0, 0, .int 0), (887, .ireturn, 1, 0, 0, .null), (888, .iload 5, 2, 5, 0, .null), (890, .ifCond .ne 15, 3, 905, 0, .null), (893, .aload_n 3, 1, 3, 0, .null), (894, .iconst 0, 1, 0, 0, .int 0), (895, .laload, 1, 0, 0, .null)]
def pLr56 : List (Nat × am_Row) := [(896, .iload 6, 2, 6, 0, .null), (898, .i2l, 1, 0, 0, .null), (899, .lcmp, 1, 0, 0, .null), (900, .ifCond .eq 5, 3, 905, 0, .null), (903, .iconst 0, 1, 0, 0, .int 0), (904, .ireturn, 1, 0, 0, .null), (905, .goto 375, 3, 1280, 0, .null), (908, .aload_n 1, 1, 1, 0, .null), (909, .aload_n 0, 1, 0, 0, .null), (910, .iload 4, 2, 4, 0, .null)]
def pLr57 : List (Nat × am_Row) := [(912, .iconst 1, 1, 0, 0, .int 1), (913, .iadd, 1, 0, 0, .null), (914, .iaload, 1, 0, 0, .null), (915, .aload_n 0, 1, 0, 0, .null), (916, .iload 4, 2, 4, 0, .null), (918, .iconst 2, 1, 0, 0, .int 2), (919, .iadd, 1, 0, 0, .null), (920, .iaload, 1, 0, 0, .null), (921, .aload_n 3, 1, 3, 0, .null), (922, .invokestatic 141, 3, 29, 4, .null), (925, .istore 5, 2, 5, 0, .null), (927, .aload_n 2, 1, 2, 0, .null)]
def pLr58 : List (Nat × am_Row) := [(928, .aload_n 0, 1, 0, 0, .null), (929, .iload 4, 2, 4, 0, .null), (931, .iconst 1, 1, 0, 0, .int 1), (932, .iadd, 1, 0, 0, .null), (933, .iaload, 1, 0, 0, .null), (934, .aload_n 0, 1, 0, 0, .null), (935, .iload 4, 2, 4, 0, .null), (937, .iconst 2, 1, 0, 0, .int 2), (938, .iadd, 1, 0, 0, .null), (939, .iaload, 1, 0, 0, .null), (940, .invokevirtual 143, 3, 30, 3, .ref 10), (943, .istore 6, 2, 6, 0, .null)]
def pLr59 : List (Nat × am_Row) := [(945, .aload_n 2, 1, 2, 0, .null), (946, .invokevirtual 90, 3, 2, 1, .ref 10), (949, .iload 5, 2, 5, 0, .null), (951, .if_icmp .eq 5, 3, 956, 0, .null), (954, .iconst 0, 1, 0, 0, .int 0), (955, .ireturn, 1, 0, 0, .null), (956, .iload 5, 2, 5, 0, .null), (958, .ifCond .ne 15, 3, 973, 0, .null)]
def pLr60 : List (Nat × am_Row) := [(961, .aload_n 3, 1, 3, 0, .null), (962, .iconst 0, 1, 0, 0, .int 0), (963, .laload, 1, 0, 0, .null), (964, .iload 6, 2, 6, 0, .null), (966, .i2l, 1, 0, 0, .null), (967, .lcmp, 1, 0, 0, .null), (968, .ifCond .eq 5, 3, 973, 0, .null), (971, .iconst 0, 1, 0, 0, .int 0), (972, .ireturn, 1, 0, 0, .null), (973, .goto 307, 3, 1280, 0, .null)]
def pLr61 : List (Nat × am_Row) := [(976, .aload_n 1, 1, 1, 0, .null), (977, .aload_n 0, 1, 0, 0, .null), (978, .iload 4, 2, 4, 0, .null), (980, .iconst 1, 1, 0, 0, .int 1), (981, .iadd, 1, 0, 0, .null), (982, .iaload, 1, 0, 0, .null), (983, .aload_n 0, 1, 0, 0, .null), (984, .iload 4, 2, 4, 0, .null), (986, .iconst 2, 1, 0, 0, .int 2), (987, .iadd, 1, 0, 0, .null), (988, .iaload, 1, 0, 0, .null), (989, .aload_n 3, 1, 3, 0, .null), (990, .invokestatic 144, 3, 31, 4, .null)]
def pLr62 : List (Nat × am_Row) := [(993, .istore 5, 2, 5, 0, .null), (995, .aload_n 2, 1, 2, 0, .null), (996, .aload_n 0, 1, 0, 0, .null), (997, .iload 4, 2, 4, 0, .null), (999, .iconst 1, 1, 0, 0, .int 1), (1000, .iadd, 1, 0, 0, .null), (1001, .iaload, 1, 0, 0, .null), (1002, .aload_n 0, 1, 0, 0, .null), (1003, .iload 4, 2, 4, 0, .null), (1005, .iconst 2, 1, 0, 0, .int 2), (1006, .iadd, 1, 0, 0, .null), (1007, .iaload, 1, 0, 0, .null)]
def pLr63 : List (Nat × am_Row) := [(1008, .invokevirtual 146, 3, 32, 3, .ref 10), (1011, .istore 6, 2, 6, 0, .null), (1013, .aload_n 2, 1, 2, 0, .null), (1014, .invokevirtual 90, 3, 2, 1, .ref 10), (1017, .iload 5, 2, 5, 0, .null), (1019, .if_icmp .eq 5, 3, 1024, 0, .null), (1022, .iconst 0, 1, 0, 0, .int 0), (1023, .ireturn, 1, 0, 0, .null)]
def pLr64 : List (Nat × am_Row) := [(1024, .iload 5, 2, 5, 0, .null), (1026, .ifCond .ne 15, 3, 1041, 0, .null), (1029, .aload_n 3, 1, 3, 0, .null), (1030, .iconst 0, 1, 0, 0, .int 0), (1031, .laload, 1, 0, 0, .null), (1032, .iload 6, 2, 6, 0, .null), (1034, .i2l, 1, 0, 0, .null), (1035, .lcmp, 1, 0, 0, .null), (1036, .ifCond .eq 5, 3, 1041, 0, .null), (1039, .iconst 0, 1, 0, 0, .int 0)]
def pLr65 : List (Nat × am_Row) := [(1040, .ireturn, 1, 0, 0, .null), (1041, .goto 239, 3, 1280, 0, .null), (1044, .aload_n 1, 1, 1, 0, .null), (1045, .aload_n 0, 1, 0, 0, .null), (1046, .iload 4, 2, 4, 0, .null), (1048, .iconst 1, 1, 0, 0, .int 1), (1049, .iadd, 1, 0, 0, .null), (1050, .iaload, 1, 0, 0, .null), (1051, .aload_n 0, 1, 0, 0, .null), (1052, .iload 4, 2, 4, 0, .null), (1054, .iconst 2, 1, 0, 0, .int 2), (1055, .iadd, 1, 0, 0, .null)]
def pLr66 : List (Nat × am_Row) := [(1056, .iaload, 1, 0, 0, .null), (1057, .aload_n 3, 1, 3, 0, .null), (1058, .invokestatic 147, 3, 33, 4, .null), (1061, .istore 5, 2, 5, 0, .null), (1063, .aload_n 2, 1, 2, 0, .null), (1064, .aload_n 0, 1, 0, 0, .null), (1065, .iload 4, 2, 4, 0, .null), (1067, .iconst 1, 1, 0, 0, .int 1), (1068, .iadd, 1, 0, 0, .null), (1069, .iaload, 1, 0, 0, .null), (1070, .aload_n 0, 1, 0, 0, .null), (1071, .iload 4, 2, 4, 0, .null)]
def pLr67 : List (Nat × am_Row) := [(1073, .iconst 2, 1, 0, 0, .int 2), (1074, .iadd, 1, 0, 0, .null), (1075, .iaload, 1, 0, 0, .null), (1076, .invokevirtual 149, 3, 34, 3, .ref 10), (1079, .istore 6, 2, 6, 0, .null), (1081, .aload_n 2, 1, 2, 0, .null), (1082, .invokevirtual 90, 3, 2, 1, .ref 10), (1085, .iload 5, 2, 5, 0, .null), (1087, .if_icmp .eq 5, 3, 1092, 0, .null)]
def pLr68 : List (Nat × am_Row) := [(1090, .iconst 0, 1, 0, 0, .int 0), (1091, .ireturn, 1, 0, 0, .null), (1092, .iload 5, 2, 5, 0, .null), (1094, .ifCond .ne 15, 3, 1109, 0, .null), (1097, .aload_n 3, 1, 3, 0, .null), (1098, .iconst 0, 1, 0, 0, .int 0), (1099, .laload, 1, 0, 0, .null), (1100, .iload 6, 2, 6, 0, .null), (1102, .i2l, 1, 0, 0, .null), (1103, .lcmp, 1, 0, 0, .null)]
def pLr69 : List (Nat × am_Row) := [(1104, .ifCond .eq 5, 3, 1109, 0, .null), (1107, .iconst 0, 1, 0, 0, .int 0), (1108, .ireturn, 1, 0, 0, .null), (1109, .goto 171, 3, 1280, 0, .null), (1112, .aload_n 1, 1, 1, 0, .null), (1113, .aload_n 0, 1, 0, 0, .null), (1114, .iload 4, 2, 4, 0, .null), (1116, .iconst 1, 1, 0, 0, .int 1), (1117, .iadd, 1, 0, 0, .null), (1118, .iaload, 1, 0, 0, .null), (1119, .aload_n 3, 1, 3, 0, .null)]
def pLr70 : List (Nat × am_Row) := [(1120, .invokestatic 150, 3, 35, 3, .null), (1123, .istore 5, 2, 5, 0, .null), (1125, .aload_n 2, 1, 2, 0, .null), (1126, .aload_n 0, 1, 0, 0, .null), (1127, .iload 4, 2, 4, 0, .null), (1129, .iconst 1, 1, 0, 0, .int 1), (1130, .iadd, 1, 0, 0, .null), (1131, .iaload, 1, 0, 0, .null), (1132, .invokevirtual 152, 3, 36, 2, .ref 10), (1135, .istore 6, 2, 6, 0, .null)]
def pLr71 : List (Nat × am_Row) := [(1137, .aload_n 2, 1, 2, 0, .null), (1138, .invokevirtual 90, 3, 2, 1, .ref 10), (1141, .iload 5, 2, 5, 0, .null), (1143, .if_icmp .eq 5, 3, 1148, 0, .null), (1146, .iconst 0, 1, 0, 0, .int 0), (1147, .ireturn, 1, 0, 0, .null), (1148, .iload 5, 2, 5, 0, .null), (1150, .ifCond .ne 15, 3, 1165, 0, .null)]
def pLr72 : List (Nat × am_Row) := [(1153, .aload_n 3, 1, 3, 0, .null), (1154, .iconst 0, 1, 0, 0, .int 0), (1155, .laload, 1, 0, 0, .null), (1156, .iload 6, 2, 6, 0, .null), (1158, .i2l, 1, 0, 0, .null), (1159, .lcmp, 1, 0, 0, .null), (1160, .ifCond .eq 5, 3, 1165, 0, .null), (1163, .iconst 0, 1, 0, 0, .int 0), (1164, .ireturn, 1, 0, 0, .null), (1165, .goto 115, 3, 1280, 0, .null)]
def pLr73 : List (Nat × am_Row) := [(1168, .aload_n 1, 1, 1, 0, .null), (1169, .aload_n 0, 1, 0, 0, .null), (1170, .iload 4, 2, 4, 0, .null), (1172, .iconst 1, 1, 0, 0, .int 1), (1173, .iadd, 1, 0, 0, .null), (1174, .iaload, 1, 0, 0, .null), (1175, .aload_n 3, 1, 3, 0, .null), (1176, .invokestatic 153, 3, 37, 3, .null), (1179, .istore 5, 2, 5, 0, .null), (1181, .aload_n 2, 1, 2, 0, .null), (1182, .aload_n 0, 1, 0, 0, .null), (1183, .iload 4, 2, 4, 0, .null)]
def pLr74 : List (Nat × am_Row) := [(1185, .iconst 1, 1, 0, 0, .int 1), (1186, .iadd, 1, 0, 0, .null), (1187, .iaload, 1, 0, 0, .null), (1188, .invokevirtual 155, 3, 38, 2, .ref 10), (1191, .istore 6, 2, 6, 0, .null), (1193, .aload_n 2, 1, 2, 0, .null), (1194, .invokevirtual 90, 3, 2, 1, .ref 10), (1197, .iload 5, 2, 5, 0, .null), (1199, .if_icmp .eq 5, 3, 1204, 0, .null)]
def pLr75 : List (Nat × am_Row) := [(1202, .iconst 0, 1, 0, 0, .int 0), (1203, .ireturn, 1, 0, 0, .null), (1204, .iload 5, 2, 5, 0, .null), (1206, .ifCond .ne 15, 3, 1221, 0, .null), (1209, .aload_n 3, 1, 3, 0, .null), (1210, .iconst 0, 1, 0, 0, .int 0), (1211, .laload, 1, 0, 0, .null), (1212, .iload 6, 2, 6, 0, .null), (1214, .i2l, 1, 0, 0, .null), (1215, .lcmp, 1, 0, 0, .null)]
def pLr76 : List (Nat × am_Row) := [(1216, .ifCond .eq 5, 3, 1221, 0, .null), (1219, .iconst 0, 1, 0, 0, .int 0), (1220, .ireturn, 1, 0, 0, .null), (1221, .goto 59, 3, 1280, 0, .null), (1224, .aload_n 1, 1, 1, 0, .null), (1225, .aload_n 0, 1, 0, 0, .null), (1226, .iload 4, 2, 4, 0, .null), (1228, .iconst 1, 1, 0, 0, .int 1), (1229, .iadd, 1, 0, 0, .null), (1230, .iaload, 1, 0, 0, .null), (1231, .aload_n 3, 1, 3, 0, .null)]
def pLr77 : List (Nat × am_Row) := [(1232, .invokestatic 156, 3, 39, 3, .null), (1235, .istore 5, 2, 5, 0, .null), (1237, .aload_n 2, 1, 2, 0, .null), (1238, .aload_n 0, 1, 0, 0, .null), (1239, .iload 4, 2, 4, 0, .null), (1241, .iconst 1, 1, 0, 0, .int 1), (1242, .iadd, 1, 0, 0, .null), (1243, .iaload, 1, 0, 0, .null), (1244, .invokevirtual 158, 3, 40, 2, .ref 10), (1247, .istore 6, 2, 6, 0, .null)]
def pLr78 : List (Nat × am_Row) := [(1249, .aload_n 2, 1, 2, 0, .null), (1250, .invokevirtual 90, 3, 2, 1, .ref 10), (1253, .iload 5, 2, 5, 0, .null), (1255, .if_icmp .eq 5, 3, 1260, 0, .null), (1258, .iconst 0, 1, 0, 0, .int 0), (1259, .ireturn, 1, 0, 0, .null), (1260, .iload 5, 2, 5, 0, .null), (1262, .ifCond .ne 15, 3, 1277, 0, .null)]
def pLr79 : List (Nat × am_Row) := [(1265, .aload_n 3, 1, 3, 0, .null), (1266, .iconst 0, 1, 0, 0, .int 0), (1267, .laload, 1, 0, 0, .null), (1268, .iload 6, 2, 6, 0, .null), (1270, .i2l, 1, 0, 0, .null), (1271, .lcmp, 1, 0, 0, .null), (1272, .ifCond .eq 5, 3, 1277, 0, .null), (1275, .iconst 0, 1, 0, 0, .int 0), (1276, .ireturn, 1, 0, 0, .null), (1277, .goto 3, 3, 1280, 0, .null)]
def pLr80 : List (Nat × am_Row) := [(1280, .iinc 4 5, 3, 4, 0, .int 5), (1283, .goto (-1260), 3, 23, 0, .null), (1286, .iconst 1, 1, 0, 0, .int 1), (1287, .ireturn, 1, 0, 0, .null)]
def pL_law : am_P := [pLr0, pLr1, pLr2, pLr3, pLr4, pLr5, pLr6, pLr7, pLr8, pLr9, pLr10, pLr11, pLr12, pLr13, pLr14, pLr15, pLr16, pLr17, pLr18, pLr19, pLr20, pLr21, pLr22, pLr23, pLr24, pLr25, pLr26, pLr27, pLr28, pLr29, pLr30, pLr31, pLr32, pLr33, pLr34, pLr35, pLr36, pLr37, pLr38, pLr39, pLr40, pLr41, pLr42, pLr43, pLr44, pLr45, pLr46, pLr47, pLr48, pLr49, pLr50, pLr51, pLr52, pLr53, pLr54, pLr55, pLr56, pLr57, pLr58, pLr59, pLr60, pLr61, pLr62, pLr63, pLr64, pLr65, pLr66, pLr67, pLr68, pLr69, pLr70, pLr71, pLr72, pLr73, pLr74, pLr75, pLr76, pLr77, pLr78, pLr79, pLr80]
theorem hLr0 : pLr0.all (fun q => decide (decode code q.1 = .ok (q.2.1, q.2.2.1)) && am_chk 7 q.1 q.2) = true := rfl
theorem hLr1 : pLr1.all (fun q => decide (decode code q.1 = .ok (q.2.1, q.2.2.1)) && am_chk 7 q.1 q.2) = true := by decide +kernel
theorem hLr2 : pLr2.all (fun q => decide (decode code q.1 = .ok (q.2.1, q.2.2.1)) && am_chk 7 q.1 q.2) = true := by decide +kernel
theorem hLr3 : pLr3.all (fun q => decide (decode code q.1 = .ok (q.2.1, q.2.2.1)) && am_chk 7 q.1 q.2) = true := rfl
theorem hLr4 : pLr4.all (fun q => decide (decode code q.1 = .ok (q.2.1, q.2.2.1)) && am_chk 7 q.1 q.2) = true := rfl
theorem hLr5 : pLr5.all (fun q => decide (decode code q.1 = .ok (q.2.1, q.2.2.1)) && am_chk 7 q.1 q.2) = true := rfl
theorem hLr6 : pLr6.all (fun q => decide (decode code q.1 = .ok (q.2.1, q.2.2.1)) && am_chk 7 q.1 q.2) = true := rfl
theorem hLr7 : pLr7.all (fun q => decide (decode code q.1 = .ok (q.2.1, q.2.2.1)) && am_chk 7 q.1 q.2) = true := rfl
theorem hLr8 : pLr8.all (fun q => decide (decode code q.1 = .ok (q.2.1, q.2.2.1)) && am_chk 7 q.1 q.2) = true := by decide +kernel
theorem hLr9 : pLr9.all (fun q => decide (decode code q.1 = .ok (q.2.1, q.2.2.1)) && am_chk 7 q.1 q.2) = true := by decide +kernel
theorem hLr10 : pLr10.all (fun q => decide (decode code q.1 = .ok (q.2.1, q.2.2.1)) && am_chk 7 q.1 q.2) = true := by decide +kernel
theorem hLr11 : pLr11.all (fun q => decide (decode code q.1 = .ok (q.2.1, q.2.2.1)) && am_chk 7 q.1 q.2) = true := by decide +kernel
theorem hLr12 : pLr12.all (fun q => decide (decode code q.1 = .ok (q.2.1, q.2.2.1)) && am_chk 7 q.1 q.2) = true := by decide +kernel
theorem hLr13 : pLr13.all (fun q => decide (decode code q.1 = .ok (q.2.1, q.2.2.1)) && am_chk 7 q.1 q.2) = true := by decide +kernel
theorem hLr14 : pLr14.all (fun q => decide (decode code q.1 = .ok (q.2.1, q.2.2.1)) && am_chk 7 q.1 q.2) = true := by decide +kernel
theorem hLr15 : pLr15.all (fun q => decide (decode code q.1 = .ok (q.2.1, q.2.2.1)) && am_chk 7 q.1 q.2) = true := by decide +kernel
theorem hLr16 : pLr16.all (fun q => decide (decode code q.1 = .ok (q.2.1, q.2.2.1)) && am_chk 7 q.1 q.2) = true := by decide +kernel
theorem hLr17 : pLr17.all (fun q => decide (decode code q.1 = .ok (q.2.1, q.2.2.1)) && am_chk 7 q.1 q.2) = true := by decide +kernel
theorem hLr18 : pLr18.all (fun q => decide (decode code q.1 = .ok (q.2.1, q.2.2.1)) && am_chk 7 q.1 q.2) = true := by decide +kernel
theorem hLr19 : pLr19.all (fun q => decide (decode code q.1 = .ok (q.2.1, q.2.2.1)) && am_chk 7 q.1 q.2) = true := by decide +kernel
theorem hLr20 : pLr20.all (fun q => decide (decode code q.1 = .ok (q.2.1, q.2.2.1)) && am_chk 7 q.1 q.2) = true := by decide +kernel
theorem hLr21 : pLr21.all (fun q => decide (decode code q.1 = .ok (q.2.1, q.2.2.1)) && am_chk 7 q.1 q.2) = true := by decide +kernel
theorem hLr22 : pLr22.all (fun q => decide (decode code q.1 = .ok (q.2.1, q.2.2.1)) && am_chk 7 q.1 q.2) = true := by decide +kernel
theorem hLr23 : pLr23.all (fun q => decide (decode code q.1 = .ok (q.2.1, q.2.2.1)) && am_chk 7 q.1 q.2) = true := by decide +kernel
theorem hLr24 : pLr24.all (fun q => decide (decode code q.1 = .ok (q.2.1, q.2.2.1)) && am_chk 7 q.1 q.2) = true := by decide +kernel
theorem hLr25 : pLr25.all (fun q => decide (decode code q.1 = .ok (q.2.1, q.2.2.1)) && am_chk 7 q.1 q.2) = true := by decide +kernel
theorem hLr26 : pLr26.all (fun q => decide (decode code q.1 = .ok (q.2.1, q.2.2.1)) && am_chk 7 q.1 q.2) = true := by decide +kernel
theorem hLr27 : pLr27.all (fun q => decide (decode code q.1 = .ok (q.2.1, q.2.2.1)) && am_chk 7 q.1 q.2) = true := by decide +kernel
theorem hLr28 : pLr28.all (fun q => decide (decode code q.1 = .ok (q.2.1, q.2.2.1)) && am_chk 7 q.1 q.2) = true := by decide +kernel
theorem hLr29 : pLr29.all (fun q => decide (decode code q.1 = .ok (q.2.1, q.2.2.1)) && am_chk 7 q.1 q.2) = true := by decide +kernel
theorem hLr30 : pLr30.all (fun q => decide (decode code q.1 = .ok (q.2.1, q.2.2.1)) && am_chk 7 q.1 q.2) = true := by decide +kernel
theorem hLr31 : pLr31.all (fun q => decide (decode code q.1 = .ok (q.2.1, q.2.2.1)) && am_chk 7 q.1 q.2) = true := by decide +kernel
theorem hLr32 : pLr32.all (fun q => decide (decode code q.1 = .ok (q.2.1, q.2.2.1)) && am_chk 7 q.1 q.2) = true := by decide +kernel
theorem hLr33 : pLr33.all (fun q => decide (decode code q.1 = .ok (q.2.1, q.2.2.1)) && am_chk 7 q.1 q.2) = true := by decide +kernel
theorem hLr34 : pLr34.all (fun q => decide (decode code q.1 = .ok (q.2.1, q.2.2.1)) && am_chk 7 q.1 q.2) = true := by decide +kernel
theorem hLr35 : pLr35.all (fun q => decide (decode code q.1 = .ok (q.2.1, q.2.2.1)) && am_chk 7 q.1 q.2) = true := by decide +kernel
theorem hLr36 : pLr36.all (fun q => decide (decode code q.1 = .ok (q.2.1, q.2.2.1)) && am_chk 7 q.1 q.2) = true := by decide +kernel
theorem hLr37 : pLr37.all (fun q => decide (decode code q.1 = .ok (q.2.1, q.2.2.1)) && am_chk 7 q.1 q.2) = true := by decide +kernel
theorem hLr38 : pLr38.all (fun q => decide (decode code q.1 = .ok (q.2.1, q.2.2.1)) && am_chk 7 q.1 q.2) = true := by decide +kernel
theorem hLr39 : pLr39.all (fun q => decide (decode code q.1 = .ok (q.2.1, q.2.2.1)) && am_chk 7 q.1 q.2) = true := by decide +kernel
theorem hLr40 : pLr40.all (fun q => decide (decode code q.1 = .ok (q.2.1, q.2.2.1)) && am_chk 7 q.1 q.2) = true := by decide +kernel
theorem hLr41 : pLr41.all (fun q => decide (decode code q.1 = .ok (q.2.1, q.2.2.1)) && am_chk 7 q.1 q.2) = true := by decide +kernel
theorem hLr42 : pLr42.all (fun q => decide (decode code q.1 = .ok (q.2.1, q.2.2.1)) && am_chk 7 q.1 q.2) = true := by decide +kernel
theorem hLr43 : pLr43.all (fun q => decide (decode code q.1 = .ok (q.2.1, q.2.2.1)) && am_chk 7 q.1 q.2) = true := by decide +kernel
theorem hLr44 : pLr44.all (fun q => decide (decode code q.1 = .ok (q.2.1, q.2.2.1)) && am_chk 7 q.1 q.2) = true := by decide +kernel
theorem hLr45 : pLr45.all (fun q => decide (decode code q.1 = .ok (q.2.1, q.2.2.1)) && am_chk 7 q.1 q.2) = true := by decide +kernel
theorem hLr46 : pLr46.all (fun q => decide (decode code q.1 = .ok (q.2.1, q.2.2.1)) && am_chk 7 q.1 q.2) = true := by decide +kernel
theorem hLr47 : pLr47.all (fun q => decide (decode code q.1 = .ok (q.2.1, q.2.2.1)) && am_chk 7 q.1 q.2) = true := by decide +kernel
theorem hLr48 : pLr48.all (fun q => decide (decode code q.1 = .ok (q.2.1, q.2.2.1)) && am_chk 7 q.1 q.2) = true := by decide +kernel
theorem hLr49 : pLr49.all (fun q => decide (decode code q.1 = .ok (q.2.1, q.2.2.1)) && am_chk 7 q.1 q.2) = true := by decide +kernel
theorem hLr50 : pLr50.all (fun q => decide (decode code q.1 = .ok (q.2.1, q.2.2.1)) && am_chk 7 q.1 q.2) = true := by decide +kernel
theorem hLr51 : pLr51.all (fun q => decide (decode code q.1 = .ok (q.2.1, q.2.2.1)) && am_chk 7 q.1 q.2) = true := by decide +kernel
theorem hLr52 : pLr52.all (fun q => decide (decode code q.1 = .ok (q.2.1, q.2.2.1)) && am_chk 7 q.1 q.2) = true := by decide +kernel
theorem hLr53 : pLr53.all (fun q => decide (decode code q.1 = .ok (q.2.1, q.2.2.1)) && am_chk 7 q.1 q.2) = true := by decide +kernel
theorem hLr54 : pLr54.all (fun q => decide (decode code q.1 = .ok (q.2.1, q.2.2.1)) && am_chk 7 q.1 q.2) = true := by decide +kernel
theorem hLr55 : pLr55.all (fun q => decide (decode code q.1 = .ok (q.2.1, q.2.2.1)) && am_chk 7 q.1 q.2) = true := by decide +kernel
theorem hLr56 : pLr56.all (fun q => decide (decode code q.1 = .ok (q.2.1, q.2.2.1)) && am_chk 7 q.1 q.2) = true := by decide +kernel
theorem hLr57 : pLr57.all (fun q => decide (decode code q.1 = .ok (q.2.1, q.2.2.1)) && am_chk 7 q.1 q.2) = true := by decide +kernel
theorem hLr58 : pLr58.all (fun q => decide (decode code q.1 = .ok (q.2.1, q.2.2.1)) && am_chk 7 q.1 q.2) = true := by decide +kernel
theorem hLr59 : pLr59.all (fun q => decide (decode code q.1 = .ok (q.2.1, q.2.2.1)) && am_chk 7 q.1 q.2) = true := by decide +kernel
theorem hLr60 : pLr60.all (fun q => decide (decode code q.1 = .ok (q.2.1, q.2.2.1)) && am_chk 7 q.1 q.2) = true := by decide +kernel
theorem hLr61 : pLr61.all (fun q => decide (decode code q.1 = .ok (q.2.1, q.2.2.1)) && am_chk 7 q.1 q.2) = true := by decide +kernel
theorem hLr62 : pLr62.all (fun q => decide (decode code q.1 = .ok (q.2.1, q.2.2.1)) && am_chk 7 q.1 q.2) = true := by decide +kernel
theorem hLr63 : pLr63.all (fun q => decide (decode code q.1 = .ok (q.2.1, q.2.2.1)) && am_chk 7 q.1 q.2) = true := by decide +kernel
theorem hLr64 : pLr64.all (fun q => decide (decode code q.1 = .ok (q.2.1, q.2.2.1)) && am_chk 7 q.1 q.2) = true := by decide +kernel
theorem hLr65 : pLr65.all (fun q => decide (decode code q.1 = .ok (q.2.1, q.2.2.1)) && am_chk 7 q.1 q.2) = true := by decide +kernel
theorem hLr66 : pLr66.all (fun q => decide (decode code q.1 = .ok (q.2.1, q.2.2.1)) && am_chk 7 q.1 q.2) = true := by decide +kernel
theorem hLr67 : pLr67.all (fun q => decide (decode code q.1 = .ok (q.2.1, q.2.2.1)) && am_chk 7 q.1 q.2) = true := by decide +kernel
theorem hLr68 : pLr68.all (fun q => decide (decode code q.1 = .ok (q.2.1, q.2.2.1)) && am_chk 7 q.1 q.2) = true := by decide +kernel
theorem hLr69 : pLr69.all (fun q => decide (decode code q.1 = .ok (q.2.1, q.2.2.1)) && am_chk 7 q.1 q.2) = true := by decide +kernel
theorem hLr70 : pLr70.all (fun q => decide (decode code q.1 = .ok (q.2.1, q.2.2.1)) && am_chk 7 q.1 q.2) = true := by decide +kernel
theorem hLr71 : pLr71.all (fun q => decide (decode code q.1 = .ok (q.2.1, q.2.2.1)) && am_chk 7 q.1 q.2) = true := by decide +kernel
theorem hLr72 : pLr72.all (fun q => decide (decode code q.1 = .ok (q.2.1, q.2.2.1)) && am_chk 7 q.1 q.2) = true := by decide +kernel
theorem hLr73 : pLr73.all (fun q => decide (decode code q.1 = .ok (q.2.1, q.2.2.1)) && am_chk 7 q.1 q.2) = true := by decide +kernel
theorem hLr74 : pLr74.all (fun q => decide (decode code q.1 = .ok (q.2.1, q.2.2.1)) && am_chk 7 q.1 q.2) = true := by decide +kernel
theorem hLr75 : pLr75.all (fun q => decide (decode code q.1 = .ok (q.2.1, q.2.2.1)) && am_chk 7 q.1 q.2) = true := by decide +kernel
theorem hLr76 : pLr76.all (fun q => decide (decode code q.1 = .ok (q.2.1, q.2.2.1)) && am_chk 7 q.1 q.2) = true := by decide +kernel
theorem hLr77 : pLr77.all (fun q => decide (decode code q.1 = .ok (q.2.1, q.2.2.1)) && am_chk 7 q.1 q.2) = true := by decide +kernel
theorem hLr78 : pLr78.all (fun q => decide (decode code q.1 = .ok (q.2.1, q.2.2.1)) && am_chk 7 q.1 q.2) = true := by decide +kernel
theorem hLr79 : pLr79.all (fun q => decide (decode code q.1 = .ok (q.2.1, q.2.2.1)) && am_chk 7 q.1 q.2) = true := by decide +kernel
theorem hLr80 : pLr80.all (fun q => decide (decode code q.1 = .ok (q.2.1, q.2.2.1)) && am_chk 7 q.1 q.2) = true := by decide +kernel
theorem all_cons_of {α : Type} {f : α → Bool} {a : α} {l : List α} (h : f a = true) (t : l.all f = true) : (a :: l).all f = true := by rw [List.all_cons, h, t]; rfl
theorem hLall : pL_law.all (fun l => l.all (fun q => decide (decode code q.1 = .ok (q.2.1, q.2.2.1)) && am_chk 7 q.1 q.2)) = true := (all_cons_of hLr0 (all_cons_of hLr1 (all_cons_of hLr2 (all_cons_of hLr3 (all_cons_of hLr4 (all_cons_of hLr5 (all_cons_of hLr6 (all_cons_of hLr7 (all_cons_of hLr8 (all_cons_of hLr9 (all_cons_of hLr10 (all_cons_of hLr11 (all_cons_of hLr12 (all_cons_of hLr13 (all_cons_of hLr14 (all_cons_of hLr15 (all_cons_of hLr16 (all_cons_of hLr17 (all_cons_of hLr18 (all_cons_of hLr19 (all_cons_of hLr20 (all_cons_of hLr21 (all_cons_of hLr22 (all_cons_of hLr23 (all_cons_of hLr24 (all_cons_of hLr25 (all_cons_of hLr26 (all_cons_of hLr27 (all_cons_of hLr28 (all_cons_of hLr29 (all_cons_of hLr30 (all_cons_of hLr31 (all_cons_of hLr32 (all_cons_of hLr33 (all_cons_of hLr34 (all_cons_of hLr35 (all_cons_of hLr36 (all_cons_of hLr37 (all_cons_of hLr38 (all_cons_of hLr39 (all_cons_of hLr40 (all_cons_of hLr41 (all_cons_of hLr42 (all_cons_of hLr43 (all_cons_of hLr44 (all_cons_of hLr45 (all_cons_of hLr46 (all_cons_of hLr47 (all_cons_of hLr48 (all_cons_of hLr49 (all_cons_of hLr50 (all_cons_of hLr51 (all_cons_of hLr52 (all_cons_of hLr53 (all_cons_of hLr54 (all_cons_of hLr55 (all_cons_of hLr56 (all_cons_of hLr57 (all_cons_of hLr58 (all_cons_of hLr59 (all_cons_of hLr60 (all_cons_of hLr61 (all_cons_of hLr62 (all_cons_of hLr63 (all_cons_of hLr64 (all_cons_of hLr65 (all_cons_of hLr66 (all_cons_of hLr67 (all_cons_of hLr68 (all_cons_of hLr69 (all_cons_of hLr70 (all_cons_of hLr71 (all_cons_of hLr72 (all_cons_of hLr73 (all_cons_of hLr74 (all_cons_of hLr75 (all_cons_of hLr76 (all_cons_of hLr77 (all_cons_of hLr78 (all_cons_of hLr79 (all_cons_of hLr80 List.all_nil)))))))))))))))))))))))))))))))))))))))))))))))))))))))))))))))))))))))))))))))))
def csL : List am_F := [fL_define, fX10_define, fX10_thrown, fL_curve, fX10_curve, fL_seal, fX10_seal, fL_rack, fX10_rack, fL_removeRack, fX10_removeRack, fL_reagent, fX10_reagent, fL_forbid, fX10_forbid, fL_order, fX10_order, fL_clock, fX10_clock, fL_light, fX10_light, fL_spoil, fX10_spoil, fX9_step, fX10_step, fX9_idle, fX10_idle, fL_state, fX10_state, fL_cuvette, fX10_cuvette, fL_volume, fX10_volume, fL_trend, fX10_trend, fL_rules, fX10_rules, fL_host, fX10_host, fL_took, fX10_took]
def ciL : List am_C := [cqL_define, cqX10_define, cqX10_thrown, cqL_curve, cqX10_curve, cqL_seal, cqX10_seal, cqL_rack, cqX10_rack, cqL_removeRack, cqX10_removeRack, cqL_reagent, cqX10_reagent, cqL_forbid, cqX10_forbid, cqL_order, cqX10_order, cqL_clock, cqX10_clock, cqL_light, cqX10_light, cqL_spoil, cqX10_spoil, cqX9_step, cqX10_step, cqX9_idle, cqX10_idle, cqL_state, cqX10_state, cqL_cuvette, cqX10_cuvette, cqL_volume, cqX10_volume, cqL_trend, cqX10_trend, cqL_rules, cqX10_rules, cqL_host, cqX10_host, cqL_took, cqX10_took]
theorem am_Cal.mono {l : Launch} {dC : Nat → ClassId} {dI ad : Nat → Nat → Nat} {cy : Nat → ClassId} {R : Room} {q : am_C} {F : am_F} (h : am_Cal l dC dI ad cy R 0 0 q F) {gc gs : Nat} : am_Cal l dC dI ad cy R gc gs q F := by
  obtain ⟨y, w, rm, rc, np, mL⟩ := q
  obtain ⟨h1, h2, h3, h4, h5⟩ := h
  exact ⟨h1, h2, Nat.le_trans h3 (Nat.zero_le _), Nat.le_trans h4 (Nat.zero_le _), h5⟩
theorem hcsL {l : Launch} {dC : Nat → ClassId} {dI ad : Nat → Nat → Nat} {cy : Nat → ClassId} (htr : l.stackTraces = false) : ∀ (a : Nat) (F : am_F), csL[a]? = some F → ∃ q : am_C, ciL[a]? = some q ∧ am_Cal l dC dI ad cy room_1 1 6 q F :=
  (am_cs_cons (calL_define htr (by decide) (by decide)) (am_cs_cons ((calX10_define (by decide) (by decide)).mono) (am_cs_cons ((calX10_thrown (by decide) (by decide)).mono) (am_cs_cons (calL_curve htr (by decide) (by decide)) (am_cs_cons ((calX10_curve (by decide) (by decide)).mono) (am_cs_cons (calL_seal htr (by decide) (by decide)) (am_cs_cons ((calX10_seal (by decide) (by decide)).mono) (am_cs_cons (calL_rack htr (by decide) (by decide)) (am_cs_cons ((calX10_rack (by decide) (by decide)).mono) (am_cs_cons (calL_removeRack htr (by decide) (by decide)) (am_cs_cons ((calX10_removeRack (by decide) (by decide)).mono) (am_cs_cons (calL_reagent htr (by decide) (by decide)) (am_cs_cons ((calX10_reagent (by decide) (by decide)).mono) (am_cs_cons (calL_forbid htr (by decide) (by decide)) (am_cs_cons ((calX10_forbid (by decide) (by decide)).mono) (am_cs_cons (calL_order htr (by decide) (by decide)) (am_cs_cons ((calX10_order (by decide) (by decide)).mono) (am_cs_cons (calL_clock htr (by decide) (by decide)) (am_cs_cons ((calX10_clock (by decide) (by decide)).mono) (am_cs_cons (calL_light htr (by decide) (by decide)) (am_cs_cons ((calX10_light (by decide) (by decide)).mono) (am_cs_cons (calL_spoil htr (by decide) (by decide)) (am_cs_cons ((calX10_spoil (by decide) (by decide)).mono) (am_cs_cons ((calX9_step (by decide) (by decide)).mono) (am_cs_cons ((calX10_step (by decide) (by decide)).mono) (am_cs_cons ((calX9_idle (by decide) (by decide)).mono) (am_cs_cons ((calX10_idle (by decide) (by decide)).mono) (am_cs_cons (calL_state htr (by decide) (by decide)) (am_cs_cons ((calX10_state (by decide) (by decide)).mono) (am_cs_cons (calL_cuvette htr (by decide) (by decide)) (am_cs_cons ((calX10_cuvette (by decide) (by decide)).mono) (am_cs_cons (calL_volume htr (by decide) (by decide)) (am_cs_cons ((calX10_volume (by decide) (by decide)).mono) (am_cs_cons (calL_trend htr (by decide) (by decide)) (am_cs_cons ((calX10_trend (by decide) (by decide)).mono) (am_cs_cons (calL_rules htr (by decide) (by decide)) (am_cs_cons ((calX10_rules (by decide) (by decide)).mono) (am_cs_cons (calL_host htr (by decide) (by decide)) (am_cs_cons ((calX10_host (by decide) (by decide)).mono) (am_cs_cons (calL_took htr (by decide) (by decide)) (am_cs_cons ((calX10_took (by decide) (by decide)).mono) am_cs_nil)))))))))))))))))))))))))))))))))))))))))
theorem hrowL : ∀ (pc : Nat) (r : am_Row), am_at pL_law pc = some r → decode code pc = .ok (r.1, r.2.1) ∧ am_chk 7 pc r = true ∧ ∀ w ∈ am_need RL ciL r, w ∈ am_U :=
  am_rows_of hLall (am_words_of [594, 55, 593, 1114, 1115, 1116, 66, 1110, 1111, 1112, 66, 703, 55, 702, 1132, 1133, 1134, 66, 1110, 1111, 1112, 66, 724, 55, 723, 1137, 1138, 1139, 66, 1110, 1111, 1112, 66, 762, 55, 761, 1153, 1154, 1155, 66, 1110, 1111, 1112, 66, 779, 55, 778, 1163, 1164, 1165, 66, 1110, 1111, 1112, 66, 809, 55, 808, 1167, 1168, 1169, 66, 1110, 1111, 1112, 66, 820, 55, 819, 1175, 1176, 1177, 66, 1110, 1111, 1112, 66, 831, 55, 830, 1179, 1180, 1181, 66, 1110, 1111, 1112, 66, 842, 55, 841, 1183, 1184, 1185, 66, 1110, 1111, 1112, 66, 849, 55, 848, 1187, 1188, 1189, 66, 1110, 1111, 1112, 66, 856, 55, 855, 1191, 1192, 1193, 66, 1110, 1111, 1112, 66, 351, 352, 353, 56, 1195, 1196, 1197, 66, 589, 590, 591, 56, 1305, 1306, 1307, 66, 863, 55, 862, 1309, 1310, 1311, 66, 1110, 1111, 1112, 66, 870, 55, 869, 1313, 1314, 1315, 66, 1110, 1111, 1112, 66, 877, 55, 876, 1317, 1318, 1319, 66, 1110, 1111, 1112, 66, 888, 55, 887, 1321, 1322, 1323, 66, 1110, 1111, 1112, 66, 919, 55, 918, 1325, 1326, 1327, 66, 1110, 1111, 1112, 66, 941, 55, 940, 1335, 1336, 1337, 66, 1110, 1111, 1112, 66, 948, 55, 947, 1339, 1340, 1341, 66, 1110, 1111, 1112, 66] (by decide +kernel) (by decide +kernel))
theorem hcvL : ∀ (pc : Nat) (i : Instr) (len a b : Nat) (z : Value) (q : am_C), am_at pL_law pc = some (i, len, a, b, z) → ciL[a]? = some q → (∀ idx, i = .invokestatic idx → b = q.2.2.2.2.1) ∧ (∀ idx k, i = .invokevirtual idx → z = .ref k → b = q.2.2.2.2.1 + 1 ∧ q.2.2.2.1 = some k) := am_cv_of (by decide +kernel)
end
section
/-- what is left to show: the small machine runs the law's loop to 1, on every script -/
def law_goal : Prop := ∀ (L : Nat) (xs : Nat → Int32), L ≤ 2560 → ∃ Mf, am_run csL [] 5 (L, xs) pL_law 40000 20 [.inr (29, 0), .inr (9, 0), .inr (10, 0), .inr (80, 0), am_D, am_D, am_D] [] bm_M0 = some (.inl (some (.inl (.int 1))), Mf)
def am_tyf (e : Nat) : FieldType := if e = 1 then .boolean else if e = 2 then .long else if e = 4 then .object RX1 else if e = 7 then .object RX4 else if e = 8 then .object RX5 else if e = 9 then .object RX6 else if e = 11 then .object RX8 else .int
theorem law_inst : ∀ c, c < 11 → Cond.instantiable (am_N c) (am_nf c) ∈ am_U := by
  have key : ∀ c, c < 11 → (decide (Cond.instantiable (am_N c) (am_nf c) ∈ lw_tbl) && goodWord (Cond.instantiable (am_N c) (am_nf c))) = true := by decide +kernel
  intro c hc
  have h := key c hc
  simp only [Bool.and_eq_true, decide_eq_true_eq] at h
  exact List.mem_filter.mpr ⟨h.1, h.2⟩
theorem law_nest : ∀ q ∈ am_nl ++ bm_nl, Cond.methodLinkNest q.1 q.2.1 q.2.2.1 q.2.2.2 ∈ lw_tbl := by decide +kernel
theorem law_over : ∀ k ∈ ([1, 4, 5, 6, 8] : List Nat), Cond.arrayOver (.object (am_N k)) ∈ lw_tbl := by decide +kernel
theorem law_prim : ∀ t ∈ ([.int, .boolean, .long] : List FieldType), Cond.arrayClass t ∈ lw_tbl := by decide +kernel
theorem law_stat : Cond.laysStatic RX6 "LEAST" "[I" ∈ lw_tbl ∧ Cond.laysStatic RX6 "MOST" "[I" ∈ lw_tbl ∧ Cond.initialized RX6 ∈ lw_tbl ∧ Cond.laysStatic Bundle.tN "UNASSIGNED_STACK" Bundle.steD ∈ lw_tbl ∧ Cond.laysStatic Bundle.tN "SUPPRESSED_SENTINEL" Bundle.listD ∈ lw_tbl ∧ Cond.initialized Bundle.tN ∈ lw_tbl := by decide +kernel
section LAW
variable {p : Program} {e : Env} {s : State} {m : MethodId} {below : List Frame} {meth : Method} {c : Code} {l : Launch} {b L : Nat} {xs : Nat → Int32}
theorem law_arr {args : Array Value} (hts : ∀ w ∈ lw_tbl, w.before args s = true) : ∀ e : Nat, ∃ cA : ClassId, ArrOfT s cA (am_tyf e) ∧ va_RA s cA (am_tyf e) := by
  have prim : ∀ t ∈ ([.int, .boolean, .long] : List FieldType), ∃ cA : ClassId, ArrOfT s cA t ∧ va_RA s cA t := by
    intro t ht
    obtain ⟨cA, k, comp, h1, h2, h3⟩ := Cond.arrayClass_spec (hts _ (law_prim t ht))
    refine ⟨cA, fun n z => ⟨(fun k h => by cases h), k, h2, comp, h3⟩, ?_⟩
    rcases List.mem_cons.mp ht with rfl | ht
    · exact h1
    · rcases List.mem_cons.mp ht with rfl | ht
      · exact h1
      · rcases List.mem_cons.mp ht with rfl | ht
        · exact h1
        · cases ht
  have obj : ∀ k ∈ ([1, 4, 5, 6, 8] : List Nat), ∃ cA : ClassId, ArrOfT s cA (.object (am_N k)) ∧ va_RA s cA (.object (am_N k)) := by
    intro k hk
    obtain ⟨comp, cA, kA, h1, -, h3, h4, h5⟩ := Cond.arrayOver_spec (hts _ (law_over k hk))
    exact ⟨cA, fun n z => ⟨(fun k h => by cases h), kA, h3, comp, h4⟩, kA, comp, h3, h4, h1, h5⟩
  intro e
  unfold am_tyf
  by_cases h1 : e = 1
  · rw [if_pos h1]; exact prim _ (by decide)
  rw [if_neg h1]
  by_cases h2 : e = 2
  · rw [if_pos h2]; exact prim _ (by decide)
  rw [if_neg h2]
  by_cases h4 : e = 4
  · rw [if_pos h4]; exact obj 1 (by decide)
  rw [if_neg h4]
  by_cases h7 : e = 7
  · rw [if_pos h7]; exact obj 4 (by decide)
  rw [if_neg h7]
  by_cases h8 : e = 8
  · rw [if_pos h8]; exact obj 5 (by decide)
  rw [if_neg h8]
  by_cases h9 : e = 9
  · rw [if_pos h9]; exact obj 6 (by decide)
  rw [if_neg h9]
  by_cases h11 : e = 11
  · rw [if_pos h11]; exact obj 8 (by decide)
  rw [if_neg h11]
  exact prim _ (by decide)
theorem law_K {args : Array Value} (hts : ∀ w ∈ lw_tbl, w.before args s = true) : ∃ (dC : Nat → ClassId) (dI : Nat → Nat → Nat) (cy : Nat → ClassId), va_K (dC, dI) vwCl (am_ty cy) s := by
  have hU : ∀ w ∈ am_U, w.before args s = true := fun w hw => hts w (List.mem_filter.mp hw).1
  have h : ∀ k : Nat, ∃ (q : ClassId × (Nat → Nat)), k < 11 → u_Kn s (am_N k) (am_T k) (am_nf k) q.1 q.2 := by
    intro k
    by_cases hk : k < 11
    · obtain ⟨cC, iS, h1⟩ := u_known (C := am_N k) (T := am_T k) (N := am_nf k) (n := am_nf k) hU (am_in_u k hk) (hU _ (law_inst k hk))
      exact ⟨(cC, iS), fun _ => h1⟩
    · exact ⟨(0, fun _ => 0), fun h => absurd h hk⟩
  refine ⟨fun k => (Classical.choose (h k)).1, fun k => (Classical.choose (h k)).2, fun e => Classical.choose (law_arr hts e), ?_, ?_⟩
  · intro k q hq
    have hk : k < 11 := (List.getElem?_eq_some_iff.mp hq).1
    rw [am_cl_at k hk] at hq
    cases hq
    exact Classical.choose_spec (h k) hk
  · intro k q hq
    have hl : k < 8 := (List.getElem?_eq_some_iff.mp hq).1
    match k, hl, hq with
    | 0, _, hq => cases hq; exact Classical.choose_spec (law_arr hts 0)
    | 1, _, hq => cases hq; exact Classical.choose_spec (law_arr hts 1)
    | 2, _, hq => cases hq; exact Classical.choose_spec (law_arr hts 2)
    | 3, _, hq => cases hq; exact Classical.choose_spec (law_arr hts 4)
    | 4, _, hq => cases hq; exact Classical.choose_spec (law_arr hts 7)
    | 5, _, hq => cases hq; exact Classical.choose_spec (law_arr hts 8)
    | 6, _, hq => cases hq; exact Classical.choose_spec (law_arr hts 9)
    | 7, _, hq => cases hq; exact Classical.choose_spec (law_arr hts 11)
theorem law_Nk {args : Array Value} (hts : ∀ w ∈ lw_tbl, w.before args s = true) (hgv : (Jvm.Cond.and given_1 narrow_1).before args s = true) : am_Nk s := by
  have hs := flat_of_before _ hgv
  refine ⟨fun q hq => va_Nw.of rfl (hts _ (law_nest q (List.mem_append_left _ hq))), fun w hw => ?_, fun E hE F hF hne => va_Nc.of (hs _ ?_)⟩
  · have h2 := (List.mem_filter.mp hw).2
    cases w with
    | castable a b => exact va_Nw.of rfl (hts _ (List.mem_filter.mp hw).1)
    | declares x => exact va_Nw.of rfl (hts _ (List.mem_filter.mp hw).1)
    | _ => cases h2
  · have key : ∀ E ∈ am_ex, ∀ F ∈ am_ex, E ≠ F → Cond.not (.castable E F) ∈ flatC (Jvm.Cond.and given_1 narrow_1) := by decide +kernel
    exact key E hE F hF hne
theorem law_bNk {args : Array Value} (hts : ∀ w ∈ lw_tbl, w.before args s = true) : bm_Nk s :=
  ⟨fun q hq => va_Nw.of rfl (hts _ (law_nest q (List.mem_append_right _ hq))), fun k hk => va_AO.of (hts _ (law_over k hk))⟩
end LAW
end
