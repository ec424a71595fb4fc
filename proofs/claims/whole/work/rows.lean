section
-- ===== PART A: goes FIRST, ahead of the names: the tables' words, and 'selects' of the private methods out of them =====
/-- a private method of a class that the tables say can be made, by its rows of tables_1 -/
def lw_okq (q : MethodName × Nat) : Prop := (q.1.cls ≠ "java/lang/invoke/MethodHandle" ∧ q.1.cls ≠ "java/lang/invoke/VarHandle") ∧ Cond.instantiable q.1.cls q.2 ∈ tables_1 ∧ Cond.privateMethod q.1 ∈ tables_1 ∧ Cond.instanceMethod q.1 ∈ tables_1
theorem lw_p0 : lw_okq (⟨"SampleAnalyser", "turnDisc", "()V"⟩, 13) := ⟨⟨by decide +kernel, by decide +kernel⟩, List.mem_of_getElem? (i := 21) (by decide +kernel), List.mem_of_getElem? (i := 301) (by decide +kernel), List.mem_of_getElem? (i := 302) (by decide +kernel)⟩
theorem lw_p1 : lw_okq (⟨"SampleAnalyser$ReagentArm", "clear", "(I)V"⟩, 3) := ⟨⟨by decide +kernel, by decide +kernel⟩, List.mem_of_getElem? (i := 39) (by decide +kernel), List.mem_of_getElem? (i := 313) (by decide +kernel), List.mem_of_getElem? (i := 314) (by decide +kernel)⟩
theorem lw_p2 : lw_okq (⟨"SampleAnalyser", "giveReagent", "()V"⟩, 13) := ⟨⟨by decide +kernel, by decide +kernel⟩, List.mem_of_getElem? (i := 21) (by decide +kernel), List.mem_of_getElem? (i := 317) (by decide +kernel), List.mem_of_getElem? (i := 318) (by decide +kernel)⟩
theorem lw_p3 : lw_okq (⟨"SampleAnalyser", "breakOff", "(II)V"⟩, 13) := ⟨⟨by decide +kernel, by decide +kernel⟩, List.mem_of_getElem? (i := 21) (by decide +kernel), List.mem_of_getElem? (i := 328) (by decide +kernel), List.mem_of_getElem? (i := 329) (by decide +kernel)⟩
theorem lw_p4 : lw_okq (⟨"SampleAnalyser", "giveNextDose", "(LSampleAnalyser$Cuvette;)V"⟩, 13) := ⟨⟨by decide +kernel, by decide +kernel⟩, List.mem_of_getElem? (i := 21) (by decide +kernel), List.mem_of_getElem? (i := 352) (by decide +kernel), List.mem_of_getElem? (i := 353) (by decide +kernel)⟩
theorem lw_p5 : lw_okq (⟨"SampleAnalyser", "takeReadings", "()V"⟩, 13) := ⟨⟨by decide +kernel, by decide +kernel⟩, List.mem_of_getElem? (i := 21) (by decide +kernel), List.mem_of_getElem? (i := 356) (by decide +kernel), List.mem_of_getElem? (i := 357) (by decide +kernel)⟩
theorem lw_p6 : lw_okq (⟨"SampleAnalyser", "cuvetteOf", "(LSampleAnalyser$Order;)LSampleAnalyser$Cuvette;"⟩, 13) := ⟨⟨by decide +kernel, by decide +kernel⟩, List.mem_of_getElem? (i := 21) (by decide +kernel), List.mem_of_getElem? (i := 366) (by decide +kernel), List.mem_of_getElem? (i := 367) (by decide +kernel)⟩
theorem lw_p7 : lw_okq (⟨"SampleAnalyser", "judgeEndedRuns", "()V"⟩, 13) := ⟨⟨by decide +kernel, by decide +kernel⟩, List.mem_of_getElem? (i := 21) (by decide +kernel), List.mem_of_getElem? (i := 379) (by decide +kernel), List.mem_of_getElem? (i := 380) (by decide +kernel)⟩
theorem lw_p8 : lw_okq (⟨"SampleAnalyser", "judge", "(ILSampleAnalyser$Cuvette;)V"⟩, 13) := ⟨⟨by decide +kernel, by decide +kernel⟩, List.mem_of_getElem? (i := 21) (by decide +kernel), List.mem_of_getElem? (i := 387) (by decide +kernel), List.mem_of_getElem? (i := 388) (by decide +kernel)⟩
theorem lw_p9 : lw_okq (⟨"SampleAnalyser", "startFirst", "(Z)I"⟩, 13) := ⟨⟨by decide +kernel, by decide +kernel⟩, List.mem_of_getElem? (i := 21) (by decide +kernel), List.mem_of_getElem? (i := 454) (by decide +kernel), List.mem_of_getElem? (i := 455) (by decide +kernel)⟩
theorem lw_p10 : lw_okq (⟨"SampleAnalyser", "tryStart", "(I)Z"⟩, 13) := ⟨⟨by decide +kernel, by decide +kernel⟩, List.mem_of_getElem? (i := 21) (by decide +kernel), List.mem_of_getElem? (i := 458) (by decide +kernel), List.mem_of_getElem? (i := 459) (by decide +kernel)⟩
theorem lw_p11 : lw_okq (⟨"SampleAnalyser", "slotOf", "(I)I"⟩, 13) := ⟨⟨by decide +kernel, by decide +kernel⟩, List.mem_of_getElem? (i := 21) (by decide +kernel), List.mem_of_getElem? (i := 462) (by decide +kernel), List.mem_of_getElem? (i := 463) (by decide +kernel)⟩
theorem lw_p12 : lw_okq (⟨"SampleAnalyser", "positionFor", "(LSampleAnalyser$Protocol;II)I"⟩, 13) := ⟨⟨by decide +kernel, by decide +kernel⟩, List.mem_of_getElem? (i := 21) (by decide +kernel), List.mem_of_getElem? (i := 471) (by decide +kernel), List.mem_of_getElem? (i := 472) (by decide +kernel)⟩
theorem lw_p13 : lw_okq (⟨"SampleAnalyser", "cleanCuvette", "()I"⟩, 13) := ⟨⟨by decide +kernel, by decide +kernel⟩, List.mem_of_getElem? (i := 21) (by decide +kernel), List.mem_of_getElem? (i := 492) (by decide +kernel), List.mem_of_getElem? (i := 493) (by decide +kernel)⟩
theorem lw_p14 : lw_okq (⟨"SampleAnalyser$ReagentArm", "isFree", "(I)Z"⟩, 3) := ⟨⟨by decide +kernel, by decide +kernel⟩, List.mem_of_getElem? (i := 39) (by decide +kernel), List.mem_of_getElem? (i := 509) (by decide +kernel), List.mem_of_getElem? (i := 510) (by decide +kernel)⟩
theorem lw_p15 : lw_okq (⟨"SampleAnalyser$ReagentArm", "hasForbiddenSuccession", "()Z"⟩, 3) := ⟨⟨by decide +kernel, by decide +kernel⟩, List.mem_of_getElem? (i := 39) (by decide +kernel), List.mem_of_getElem? (i := 514) (by decide +kernel), List.mem_of_getElem? (i := 515) (by decide +kernel)⟩
def lw_privs_1 : List (MethodName × Nat) := [(⟨"SampleAnalyser", "turnDisc", "()V"⟩, 13), (⟨"SampleAnalyser$ReagentArm", "clear", "(I)V"⟩, 3), (⟨"SampleAnalyser", "giveReagent", "()V"⟩, 13), (⟨"SampleAnalyser", "breakOff", "(II)V"⟩, 13), (⟨"SampleAnalyser", "giveNextDose", "(LSampleAnalyser$Cuvette;)V"⟩, 13), (⟨"SampleAnalyser", "takeReadings", "()V"⟩, 13), (⟨"SampleAnalyser", "cuvetteOf", "(LSampleAnalyser$Order;)LSampleAnalyser$Cuvette;"⟩, 13), (⟨"SampleAnalyser", "judgeEndedRuns", "()V"⟩, 13), (⟨"SampleAnalyser", "judge", "(ILSampleAnalyser$Cuvette;)V"⟩, 13), (⟨"SampleAnalyser", "startFirst", "(Z)I"⟩, 13), (⟨"SampleAnalyser", "tryStart", "(I)Z"⟩, 13), (⟨"SampleAnalyser", "slotOf", "(I)I"⟩, 13), (⟨"SampleAnalyser", "positionFor", "(LSampleAnalyser$Protocol;II)I"⟩, 13), (⟨"SampleAnalyser", "cleanCuvette", "()I"⟩, 13), (⟨"SampleAnalyser$ReagentArm", "isFree", "(I)Z"⟩, 3), (⟨"SampleAnalyser$ReagentArm", "hasForbiddenSuccession", "()Z"⟩, 3)]
theorem lw_r1 : ∀ q ∈ lw_privs_1, lw_okq q := List.forall_mem_cons.mpr ⟨lw_p0, List.forall_mem_cons.mpr ⟨lw_p1, List.forall_mem_cons.mpr ⟨lw_p2, List.forall_mem_cons.mpr ⟨lw_p3, List.forall_mem_cons.mpr ⟨lw_p4, List.forall_mem_cons.mpr ⟨lw_p5, List.forall_mem_cons.mpr ⟨lw_p6, List.forall_mem_cons.mpr ⟨lw_p7, List.forall_mem_cons.mpr ⟨lw_p8, List.forall_mem_cons.mpr ⟨lw_p9, List.forall_mem_cons.mpr ⟨lw_p10, List.forall_mem_cons.mpr ⟨lw_p11, List.forall_mem_cons.mpr ⟨lw_p12, List.forall_mem_cons.mpr ⟨lw_p13, List.forall_mem_cons.mpr ⟨lw_p14, List.forall_mem_cons.mpr ⟨lw_p15, fun _ h => absurd h List.not_mem_nil⟩⟩⟩⟩⟩⟩⟩⟩⟩⟩⟩⟩⟩⟩⟩⟩
theorem lw_p16 : lw_okq (⟨"SampleAnalyser", "reserve", "(LSampleAnalyser$Cuvette;III)V"⟩, 13) := ⟨⟨by decide +kernel, by decide +kernel⟩, List.mem_of_getElem? (i := 21) (by decide +kernel), List.mem_of_getElem? (i := 523) (by decide +kernel), List.mem_of_getElem? (i := 524) (by decide +kernel)⟩
theorem lw_p17 : lw_okq (⟨"SampleAnalyser", "takeSample", "(LSampleAnalyser$Slot;II)V"⟩, 13) := ⟨⟨by decide +kernel, by decide +kernel⟩, List.mem_of_getElem? (i := 21) (by decide +kernel), List.mem_of_getElem? (i := 531) (by decide +kernel), List.mem_of_getElem? (i := 532) (by decide +kernel)⟩
theorem lw_p18 : lw_okq (⟨"java/lang/Throwable", "fillInStackTrace", "(I)Ljava/lang/Throwable;"⟩, 6) := ⟨⟨by decide +kernel, by decide +kernel⟩, List.mem_of_getElem? (i := 597) (by decide +kernel), List.mem_of_getElem? (i := 595) (by decide +kernel), List.mem_of_getElem? (i := 596) (by decide +kernel)⟩
theorem lw_p19 : lw_okq (⟨"SampleAnalyser", "isOrdered", "(I)Z"⟩, 13) := ⟨⟨by decide +kernel, by decide +kernel⟩, List.mem_of_getElem? (i := 21) (by decide +kernel), List.mem_of_getElem? (i := 622) (by decide +kernel), List.mem_of_getElem? (i := 623) (by decide +kernel)⟩
theorem lw_p20 : lw_okq (⟨"SampleAnalyser$Protocol", "areReagentsRight", "()Z"⟩, 4) := ⟨⟨by decide +kernel, by decide +kernel⟩, List.mem_of_getElem? (i := 72) (by decide +kernel), List.mem_of_getElem? (i := 680) (by decide +kernel), List.mem_of_getElem? (i := 681) (by decide +kernel)⟩
theorem lw_p21 : lw_okq (⟨"SampleAnalyser$Protocol", "isReagentRight", "(I)Z"⟩, 4) := ⟨⟨by decide +kernel, by decide +kernel⟩, List.mem_of_getElem? (i := 72) (by decide +kernel), List.mem_of_getElem? (i := 684) (by decide +kernel), List.mem_of_getElem? (i := 685) (by decide +kernel)⟩
theorem lw_p22 : lw_okq (⟨"SampleAnalyser$Protocol", "areReadingsRight", "()Z"⟩, 4) := ⟨⟨by decide +kernel, by decide +kernel⟩, List.mem_of_getElem? (i := 72) (by decide +kernel), List.mem_of_getElem? (i := 690) (by decide +kernel), List.mem_of_getElem? (i := 691) (by decide +kernel)⟩
theorem lw_p23 : lw_okq (⟨"SampleAnalyser$Protocol", "isDilutionRight", "()Z"⟩, 4) := ⟨⟨by decide +kernel, by decide +kernel⟩, List.mem_of_getElem? (i := 72) (by decide +kernel), List.mem_of_getElem? (i := 694) (by decide +kernel), List.mem_of_getElem? (i := 695) (by decide +kernel)⟩
theorem lw_p24 : lw_okq (⟨"SampleAnalyser$Curve", "isMonotone", "(I)Z"⟩, 3) := ⟨⟨by decide +kernel, by decide +kernel⟩, List.mem_of_getElem? (i := 78) (by decide +kernel), List.mem_of_getElem? (i := 703) (by decide +kernel), List.mem_of_getElem? (i := 704) (by decide +kernel)⟩
theorem lw_p25 : lw_okq (⟨"SampleAnalyser", "isAwaited", "(I)Z"⟩, 13) := ⟨⟨by decide +kernel, by decide +kernel⟩, List.mem_of_getElem? (i := 21) (by decide +kernel), List.mem_of_getElem? (i := 750) (by decide +kernel), List.mem_of_getElem? (i := 751) (by decide +kernel)⟩
theorem lw_p26 : lw_okq (⟨"SampleAnalyserModel", "pending", "(I)Z"⟩, 48) := ⟨⟨by decide +kernel, by decide +kernel⟩, List.mem_of_getElem? (i := 904) (by decide +kernel), List.mem_of_getElem? (i := 1074) (by decide +kernel), List.mem_of_getElem? (i := 1075) (by decide +kernel)⟩
theorem lw_p27 : lw_okq (⟨"SampleAnalyserModel", "of", "(II)I"⟩, 48) := ⟨⟨by decide +kernel, by decide +kernel⟩, List.mem_of_getElem? (i := 904) (by decide +kernel), List.mem_of_getElem? (i := 1087) (by decide +kernel), List.mem_of_getElem? (i := 1088) (by decide +kernel)⟩
theorem lw_p28 : lw_okq (⟨"SampleAnalyserModel", "reagentGood", "(II)Z"⟩, 48) := ⟨⟨by decide +kernel, by decide +kernel⟩, List.mem_of_getElem? (i := 904) (by decide +kernel), List.mem_of_getElem? (i := 1091) (by decide +kernel), List.mem_of_getElem? (i := 1092) (by decide +kernel)⟩
theorem lw_p29 : lw_okq (⟨"SampleAnalyserModel", "curveGood", "(I)Z"⟩, 48) := ⟨⟨by decide +kernel, by decide +kernel⟩, List.mem_of_getElem? (i := 904) (by decide +kernel), List.mem_of_getElem? (i := 1095) (by decide +kernel), List.mem_of_getElem? (i := 1096) (by decide +kernel)⟩
theorem lw_p30 : lw_okq (⟨"SampleAnalyserModel", "slotOf", "(I)I"⟩, 48) := ⟨⟨by decide +kernel, by decide +kernel⟩, List.mem_of_getElem? (i := 904) (by decide +kernel), List.mem_of_getElem? (i := 1105) (by decide +kernel), List.mem_of_getElem? (i := 1106) (by decide +kernel)⟩
theorem lw_p31 : lw_okq (⟨"SampleAnalyserModel", "reserved", "(I)I"⟩, 48) := ⟨⟨by decide +kernel, by decide +kernel⟩, List.mem_of_getElem? (i := 904) (by decide +kernel), List.mem_of_getElem? (i := 1117) (by decide +kernel), List.mem_of_getElem? (i := 1118) (by decide +kernel)⟩
def lw_privs_2 : List (MethodName × Nat) := [(⟨"SampleAnalyser", "reserve", "(LSampleAnalyser$Cuvette;III)V"⟩, 13), (⟨"SampleAnalyser", "takeSample", "(LSampleAnalyser$Slot;II)V"⟩, 13), (⟨"java/lang/Throwable", "fillInStackTrace", "(I)Ljava/lang/Throwable;"⟩, 6), (⟨"SampleAnalyser", "isOrdered", "(I)Z"⟩, 13), (⟨"SampleAnalyser$Protocol", "areReagentsRight", "()Z"⟩, 4), (⟨"SampleAnalyser$Protocol", "isReagentRight", "(I)Z"⟩, 4), (⟨"SampleAnalyser$Protocol", "areReadingsRight", "()Z"⟩, 4), (⟨"SampleAnalyser$Protocol", "isDilutionRight", "()Z"⟩, 4), (⟨"SampleAnalyser$Curve", "isMonotone", "(I)Z"⟩, 3), (⟨"SampleAnalyser", "isAwaited", "(I)Z"⟩, 13), (⟨"SampleAnalyserModel", "pending", "(I)Z"⟩, 48), (⟨"SampleAnalyserModel", "of", "(II)I"⟩, 48), (⟨"SampleAnalyserModel", "reagentGood", "(II)Z"⟩, 48), (⟨"SampleAnalyserModel", "curveGood", "(I)Z"⟩, 48), (⟨"SampleAnalyserModel", "slotOf", "(I)I"⟩, 48), (⟨"SampleAnalyserModel", "reserved", "(I)I"⟩, 48)]
theorem lw_r2 : ∀ q ∈ lw_privs_2, lw_okq q := List.forall_mem_cons.mpr ⟨lw_p16, List.forall_mem_cons.mpr ⟨lw_p17, List.forall_mem_cons.mpr ⟨lw_p18, List.forall_mem_cons.mpr ⟨lw_p19, List.forall_mem_cons.mpr ⟨lw_p20, List.forall_mem_cons.mpr ⟨lw_p21, List.forall_mem_cons.mpr ⟨lw_p22, List.forall_mem_cons.mpr ⟨lw_p23, List.forall_mem_cons.mpr ⟨lw_p24, List.forall_mem_cons.mpr ⟨lw_p25, List.forall_mem_cons.mpr ⟨lw_p26, List.forall_mem_cons.mpr ⟨lw_p27, List.forall_mem_cons.mpr ⟨lw_p28, List.forall_mem_cons.mpr ⟨lw_p29, List.forall_mem_cons.mpr ⟨lw_p30, List.forall_mem_cons.mpr ⟨lw_p31, fun _ h => absurd h List.not_mem_nil⟩⟩⟩⟩⟩⟩⟩⟩⟩⟩⟩⟩⟩⟩⟩⟩
theorem lw_p32 : lw_okq (⟨"SampleAnalyserModel", "goOn", "()V"⟩, 48) := ⟨⟨by decide +kernel, by decide +kernel⟩, List.mem_of_getElem? (i := 904) (by decide +kernel), List.mem_of_getElem? (i := 1145) (by decide +kernel), List.mem_of_getElem? (i := 1146) (by decide +kernel)⟩
theorem lw_p33 : lw_okq (⟨"SampleAnalyserModel", "give", "()V"⟩, 48) := ⟨⟨by decide +kernel, by decide +kernel⟩, List.mem_of_getElem? (i := 904) (by decide +kernel), List.mem_of_getElem? (i := 1149) (by decide +kernel), List.mem_of_getElem? (i := 1150) (by decide +kernel)⟩
theorem lw_p34 : lw_okq (⟨"SampleAnalyserModel", "breaksOff", "(II)V"⟩, 48) := ⟨⟨by decide +kernel, by decide +kernel⟩, List.mem_of_getElem? (i := 904) (by decide +kernel), List.mem_of_getElem? (i := 1153) (by decide +kernel), List.mem_of_getElem? (i := 1154) (by decide +kernel)⟩
theorem lw_p35 : lw_okq (⟨"SampleAnalyserModel", "leave", "(I)V"⟩, 48) := ⟨⟨by decide +kernel, by decide +kernel⟩, List.mem_of_getElem? (i := 904) (by decide +kernel), List.mem_of_getElem? (i := 1157) (by decide +kernel), List.mem_of_getElem? (i := 1158) (by decide +kernel)⟩
theorem lw_p36 : lw_okq (⟨"SampleAnalyserModel", "cancel", "(I)V"⟩, 48) := ⟨⟨by decide +kernel, by decide +kernel⟩, List.mem_of_getElem? (i := 904) (by decide +kernel), List.mem_of_getElem? (i := 1161) (by decide +kernel), List.mem_of_getElem? (i := 1162) (by decide +kernel)⟩
theorem lw_p37 : lw_okq (⟨"SampleAnalyserModel", "copyBook", "(II)V"⟩, 48) := ⟨⟨by decide +kernel, by decide +kernel⟩, List.mem_of_getElem? (i := 904) (by decide +kernel), List.mem_of_getElem? (i := 1165) (by decide +kernel), List.mem_of_getElem? (i := 1166) (by decide +kernel)⟩
theorem lw_p38 : lw_okq (⟨"SampleAnalyserModel", "fail", "(II)V"⟩, 48) := ⟨⟨by decide +kernel, by decide +kernel⟩, List.mem_of_getElem? (i := 904) (by decide +kernel), List.mem_of_getElem? (i := 1169) (by decide +kernel), List.mem_of_getElem? (i := 1170) (by decide +kernel)⟩
theorem lw_p39 : lw_okq (⟨"SampleAnalyserModel", "measure", "()V"⟩, 48) := ⟨⟨by decide +kernel, by decide +kernel⟩, List.mem_of_getElem? (i := 904) (by decide +kernel), List.mem_of_getElem? (i := 1173) (by decide +kernel), List.mem_of_getElem? (i := 1174) (by decide +kernel)⟩
theorem lw_p40 : lw_okq (⟨"SampleAnalyserModel", "judge", "(I)V"⟩, 48) := ⟨⟨by decide +kernel, by decide +kernel⟩, List.mem_of_getElem? (i := 904) (by decide +kernel), List.mem_of_getElem? (i := 1183) (by decide +kernel), List.mem_of_getElem? (i := 1184) (by decide +kernel)⟩
theorem lw_p41 : lw_okq (⟨"SampleAnalyserModel", "resultOf", "(I)J"⟩, 48) := ⟨⟨by decide +kernel, by decide +kernel⟩, List.mem_of_getElem? (i := 904) (by decide +kernel), List.mem_of_getElem? (i := 1187) (by decide +kernel), List.mem_of_getElem? (i := 1188) (by decide +kernel)⟩
theorem lw_p42 : lw_okq (⟨"SampleAnalyserModel", "byCurve", "(IJ)J"⟩, 48) := ⟨⟨by decide +kernel, by decide +kernel⟩, List.mem_of_getElem? (i := 904) (by decide +kernel), List.mem_of_getElem? (i := 1199) (by decide +kernel), List.mem_of_getElem? (i := 1200) (by decide +kernel)⟩
theorem lw_p43 : lw_okq (⟨"SampleAnalyserModel", "remember", "(II)V"⟩, 48) := ⟨⟨by decide +kernel, by decide +kernel⟩, List.mem_of_getElem? (i := 904) (by decide +kernel), List.mem_of_getElem? (i := 1207) (by decide +kernel), List.mem_of_getElem? (i := 1208) (by decide +kernel)⟩
theorem lw_p44 : lw_okq (⟨"SampleAnalyserModel", "release", "(III)V"⟩, 48) := ⟨⟨by decide +kernel, by decide +kernel⟩, List.mem_of_getElem? (i := 904) (by decide +kernel), List.mem_of_getElem? (i := 1211) (by decide +kernel), List.mem_of_getElem? (i := 1212) (by decide +kernel)⟩
theorem lw_p45 : lw_okq (⟨"SampleAnalyserModel", "startOne", "()I"⟩, 48) := ⟨⟨by decide +kernel, by decide +kernel⟩, List.mem_of_getElem? (i := 904) (by decide +kernel), List.mem_of_getElem? (i := 1215) (by decide +kernel), List.mem_of_getElem? (i := 1216) (by decide +kernel)⟩
theorem lw_p46 : lw_okq (⟨"SampleAnalyserModel", "tries", "(I)Z"⟩, 48) := ⟨⟨by decide +kernel, by decide +kernel⟩, List.mem_of_getElem? (i := 904) (by decide +kernel), List.mem_of_getElem? (i := 1219) (by decide +kernel), List.mem_of_getElem? (i := 1220) (by decide +kernel)⟩
theorem lw_p47 : lw_okq (⟨"SampleAnalyserModel", "book", "(I)Z"⟩, 48) := ⟨⟨by decide +kernel, by decide +kernel⟩, List.mem_of_getElem? (i := 904) (by decide +kernel), List.mem_of_getElem? (i := 1223) (by decide +kernel), List.mem_of_getElem? (i := 1224) (by decide +kernel)⟩
def lw_privs_3 : List (MethodName × Nat) := [(⟨"SampleAnalyserModel", "goOn", "()V"⟩, 48), (⟨"SampleAnalyserModel", "give", "()V"⟩, 48), (⟨"SampleAnalyserModel", "breaksOff", "(II)V"⟩, 48), (⟨"SampleAnalyserModel", "leave", "(I)V"⟩, 48), (⟨"SampleAnalyserModel", "cancel", "(I)V"⟩, 48), (⟨"SampleAnalyserModel", "copyBook", "(II)V"⟩, 48), (⟨"SampleAnalyserModel", "fail", "(II)V"⟩, 48), (⟨"SampleAnalyserModel", "measure", "()V"⟩, 48), (⟨"SampleAnalyserModel", "judge", "(I)V"⟩, 48), (⟨"SampleAnalyserModel", "resultOf", "(I)J"⟩, 48), (⟨"SampleAnalyserModel", "byCurve", "(IJ)J"⟩, 48), (⟨"SampleAnalyserModel", "remember", "(II)V"⟩, 48), (⟨"SampleAnalyserModel", "release", "(III)V"⟩, 48), (⟨"SampleAnalyserModel", "startOne", "()I"⟩, 48), (⟨"SampleAnalyserModel", "tries", "(I)Z"⟩, 48), (⟨"SampleAnalyserModel", "book", "(I)Z"⟩, 48)]
theorem lw_r3 : ∀ q ∈ lw_privs_3, lw_okq q := List.forall_mem_cons.mpr ⟨lw_p32, List.forall_mem_cons.mpr ⟨lw_p33, List.forall_mem_cons.mpr ⟨lw_p34, List.forall_mem_cons.mpr ⟨lw_p35, List.forall_mem_cons.mpr ⟨lw_p36, List.forall_mem_cons.mpr ⟨lw_p37, List.forall_mem_cons.mpr ⟨lw_p38, List.forall_mem_cons.mpr ⟨lw_p39, List.forall_mem_cons.mpr ⟨lw_p40, List.forall_mem_cons.mpr ⟨lw_p41, List.forall_mem_cons.mpr ⟨lw_p42, List.forall_mem_cons.mpr ⟨lw_p43, List.forall_mem_cons.mpr ⟨lw_p44, List.forall_mem_cons.mpr ⟨lw_p45, List.forall_mem_cons.mpr ⟨lw_p46, List.forall_mem_cons.mpr ⟨lw_p47, fun _ h => absurd h List.not_mem_nil⟩⟩⟩⟩⟩⟩⟩⟩⟩⟩⟩⟩⟩⟩⟩⟩
theorem lw_p48 : lw_okq (⟨"SampleAnalyserModel", "placeFor", "(II)I"⟩, 48) := ⟨⟨by decide +kernel, by decide +kernel⟩, List.mem_of_getElem? (i := 904) (by decide +kernel), List.mem_of_getElem? (i := 1227) (by decide +kernel), List.mem_of_getElem? (i := 1228) (by decide +kernel)⟩
theorem lw_p49 : lw_okq (⟨"SampleAnalyserModel", "clean", "()I"⟩, 48) := ⟨⟨by decide +kernel, by decide +kernel⟩, List.mem_of_getElem? (i := 904) (by decide +kernel), List.mem_of_getElem? (i := 1231) (by decide +kernel), List.mem_of_getElem? (i := 1232) (by decide +kernel)⟩
theorem lw_p50 : lw_okq (⟨"SampleAnalyserModel", "allowed", "()Z"⟩, 48) := ⟨⟨by decide +kernel, by decide +kernel⟩, List.mem_of_getElem? (i := 904) (by decide +kernel), List.mem_of_getElem? (i := 1235) (by decide +kernel), List.mem_of_getElem? (i := 1236) (by decide +kernel)⟩
theorem lw_p51 : lw_okq (⟨"SampleAnalyserModel", "follows", "(II)Z"⟩, 48) := ⟨⟨by decide +kernel, by decide +kernel⟩, List.mem_of_getElem? (i := 904) (by decide +kernel), List.mem_of_getElem? (i := 1239) (by decide +kernel), List.mem_of_getElem? (i := 1240) (by decide +kernel)⟩
theorem lw_p52 : lw_okq (⟨"SampleAnalyserModel", "nextUse", "(I)I"⟩, 48) := ⟨⟨by decide +kernel, by decide +kernel⟩, List.mem_of_getElem? (i := 904) (by decide +kernel), List.mem_of_getElem? (i := 1243) (by decide +kernel), List.mem_of_getElem? (i := 1244) (by decide +kernel)⟩
theorem lw_p53 : lw_okq (⟨"SampleAnalyserModel", "start", "(IIII)V"⟩, 48) := ⟨⟨by decide +kernel, by decide +kernel⟩, List.mem_of_getElem? (i := 904) (by decide +kernel), List.mem_of_getElem? (i := 1247) (by decide +kernel), List.mem_of_getElem? (i := 1248) (by decide +kernel)⟩
theorem lw_p54 : lw_okq (⟨"SampleAnalyserModel", "above", "(II)J"⟩, 48) := ⟨⟨by decide +kernel, by decide +kernel⟩, List.mem_of_getElem? (i := 904) (by decide +kernel), List.mem_of_getElem? (i := 1275) (by decide +kernel), List.mem_of_getElem? (i := 1276) (by decide +kernel)⟩
def lw_privs_4 : List (MethodName × Nat) := [(⟨"SampleAnalyserModel", "placeFor", "(II)I"⟩, 48), (⟨"SampleAnalyserModel", "clean", "()I"⟩, 48), (⟨"SampleAnalyserModel", "allowed", "()Z"⟩, 48), (⟨"SampleAnalyserModel", "follows", "(II)Z"⟩, 48), (⟨"SampleAnalyserModel", "nextUse", "(I)I"⟩, 48), (⟨"SampleAnalyserModel", "start", "(IIII)V"⟩, 48), (⟨"SampleAnalyserModel", "above", "(II)J"⟩, 48)]
theorem lw_r4 : ∀ q ∈ lw_privs_4, lw_okq q := List.forall_mem_cons.mpr ⟨lw_p48, List.forall_mem_cons.mpr ⟨lw_p49, List.forall_mem_cons.mpr ⟨lw_p50, List.forall_mem_cons.mpr ⟨lw_p51, List.forall_mem_cons.mpr ⟨lw_p52, List.forall_mem_cons.mpr ⟨lw_p53, List.forall_mem_cons.mpr ⟨lw_p54, fun _ h => absurd h List.not_mem_nil⟩⟩⟩⟩⟩⟩⟩
def lw_privs : List (MethodName × Nat) := lw_privs_1 ++ (lw_privs_2 ++ (lw_privs_3 ++ (lw_privs_4)))
def lw_tbl : List Cond := k2_sels lw_privs ++ tables_1
theorem lw_privs_ok : ∀ q ∈ lw_privs, lw_okq q := by
  show ∀ q ∈ lw_privs_1 ++ (lw_privs_2 ++ (lw_privs_3 ++ (lw_privs_4))), lw_okq q
  exact List.forall_mem_append.mpr ⟨lw_r1, List.forall_mem_append.mpr ⟨lw_r2, List.forall_mem_append.mpr ⟨lw_r3, lw_r4⟩⟩⟩
end
section
def RX0 : String := "SampleAnalyser$Curve"
def TX0 : u_T := fun k => match k with
  | 0 => ("SampleAnalyser$Curve", "xs", "[I", true)
  | 1 => ("SampleAnalyser$Curve", "values", "[I", true)
  | _ => ("SampleAnalyser$Curve", "size", "I", false)
def tyX0 : Nat → FieldType := fun k => match k with
  | 0 => .array .int
  | 1 => .array .int
  | _ => .int
theorem nmX0 : ∀ a, a < 3 → ∀ b, b < 3 → a ≠ b → (TX0 a).2.1 ≠ (TX0 b).2.1 := by decide +kernel
theorem tyX0_ok : ∀ k, k < 3 → parseFieldDescriptor (TX0 k).2.2.1 = some (tyX0 k) := by decide +kernel
abbrev cX0_init : ByteArray := prog_2_method_1_code
def yX0_init : MethodName := ⟨RX0, "<init>", "()V"⟩
abbrev cX0_accepts : ByteArray := prog_2_method_2_code
def yX0_accepts : MethodName := ⟨RX0, "accepts", "(I)Z"⟩
abbrev cX0_takes : ByteArray := prog_2_method_3_code
def yX0_takes : MethodName := ⟨RX0, "takes", "(I)Z"⟩
abbrev cX0_add : ByteArray := prog_2_method_4_code
def yX0_add : MethodName := ⟨RX0, "add", "(II)V"⟩
abbrev cX0_isComplete : ByteArray := prog_2_method_5_code
def yX0_isComplete : MethodName := ⟨RX0, "isComplete", "()Z"⟩
abbrev cX0_isMonotone : ByteArray := prog_2_method_6_code
def yX0_isMonotone : MethodName := ⟨RX0, "isMonotone", "(I)Z"⟩
abbrev cX0_valueAt : ByteArray := prog_2_method_7_code
def yX0_valueAt : MethodName := ⟨RX0, "valueAt", "(J)J"⟩
def RX1 : String := "SampleAnalyser$Cuvette"
def TX1 : u_T := fun k => match k with
  | 0 => ("SampleAnalyser$Cuvette", "readings", "[I", true)
  | 1 => ("SampleAnalyser$Cuvette", "readingCount", "I", false)
  | 2 => ("SampleAnalyser$Cuvette", "sources", "[I", true)
  | 3 => ("SampleAnalyser$Cuvette", "doses", "[I", true)
  | 4 => ("SampleAnalyser$Cuvette", "dosesGiven", "I", false)
  | 5 => ("SampleAnalyser$Cuvette", "order", "I", false)
  | 6 => ("SampleAnalyser$Cuvette", "control", "Z", false)
  | 7 => ("SampleAnalyser$Cuvette", "age", "I", false)
  | 8 => ("SampleAnalyser$Cuvette", "wash", "I", false)
  | _ => ("SampleAnalyser$Cuvette", "content", "I", false)
def tyX1 : Nat → FieldType := fun k => match k with
  | 0 => .array .int
  | 1 => .int
  | 2 => .array .int
  | 3 => .array .int
  | 4 => .int
  | 5 => .int
  | 6 => .boolean
  | 7 => .int
  | 8 => .int
  | _ => .int
theorem nmX1 : ∀ a, a < 10 → ∀ b, b < 10 → a ≠ b → (TX1 a).2.1 ≠ (TX1 b).2.1 := by decide +kernel
theorem tyX1_ok : ∀ k, k < 10 → parseFieldDescriptor (TX1 k).2.2.1 = some (tyX1 k) := by decide +kernel
abbrev cX1_init : ByteArray := prog_3_method_1_code
def yX1_init : MethodName := ⟨RX1, "<init>", "()V"⟩
abbrev cX1_isClean : ByteArray := prog_3_method_2_code
def yX1_isClean : MethodName := ⟨RX1, "isClean", "()Z"⟩
abbrev cX1_turn : ByteArray := prog_3_method_3_code
def yX1_turn : MethodName := ⟨RX1, "turn", "()V"⟩
abbrev cX1_start : ByteArray := prog_3_method_4_code
def yX1_start : MethodName := ⟨RX1, "start", "(IZ)V"⟩
abbrev cX1_addReading : ByteArray := prog_3_method_5_code
def yX1_addReading : MethodName := ⟨RX1, "addReading", "(I)V"⟩
abbrev cX1_sendToWash : ByteArray := prog_3_method_6_code
def yX1_sendToWash : MethodName := ⟨RX1, "sendToWash", "()V"⟩
def RX2 : String := "SampleAnalyser$History"
def TX2 : u_T := fun k => match k with
  | 0 => ("SampleAnalyser$History", "values", "[I", true)
  | _ => ("SampleAnalyser$History", "size", "I", false)
def tyX2 : Nat → FieldType := fun k => match k with
  | 0 => .array .int
  | _ => .int
theorem nmX2 : ∀ a, a < 2 → ∀ b, b < 2 → a ≠ b → (TX2 a).2.1 ≠ (TX2 b).2.1 := by decide +kernel
theorem tyX2_ok : ∀ k, k < 2 → parseFieldDescriptor (TX2 k).2.2.1 = some (tyX2 k) := by decide +kernel
abbrev cX2_init : ByteArray := prog_4_method_1_code
def yX2_init : MethodName := ⟨RX2, "<init>", "()V"⟩
abbrev cX2_append : ByteArray := prog_4_method_2_code
def yX2_append : MethodName := ⟨RX2, "append", "(I)V"⟩
abbrev cX2_fromLatest : ByteArray := prog_4_method_3_code
def yX2_fromLatest : MethodName := ⟨RX2, "fromLatest", "(I)I"⟩
abbrev cX2_above : ByteArray := prog_4_method_4_code
def yX2_above : MethodName := ⟨RX2, "above", "(JI)I"⟩
abbrev cX2_below : ByteArray := prog_4_method_5_code
def yX2_below : MethodName := ⟨RX2, "below", "(JI)I"⟩
def RX3 : String := "SampleAnalyser$HostQueue"
def TX3 : u_T := fun k => match k with
  | 0 => ("SampleAnalyser$HostQueue", "numbers", "[I", true)
  | _ => ("SampleAnalyser$HostQueue", "size", "I", false)
def tyX3 : Nat → FieldType := fun k => match k with
  | 0 => .array .int
  | _ => .int
theorem nmX3 : ∀ a, a < 2 → ∀ b, b < 2 → a ≠ b → (TX3 a).2.1 ≠ (TX3 b).2.1 := by decide +kernel
theorem tyX3_ok : ∀ k, k < 2 → parseFieldDescriptor (TX3 k).2.2.1 = some (tyX3 k) := by decide +kernel
abbrev cX3_init : ByteArray := prog_5_method_1_code
def yX3_init : MethodName := ⟨RX3, "<init>", "()V"⟩
abbrev cX3_append : ByteArray := prog_5_method_2_code
def yX3_append : MethodName := ⟨RX3, "append", "(I)V"⟩
abbrev cX3_dropFirst : ByteArray := prog_5_method_3_code
def yX3_dropFirst : MethodName := ⟨RX3, "dropFirst", "(I)V"⟩
def RX4 : String := "SampleAnalyser$Order"
def TX4 : u_T := fun k => match k with
  | 0 => ("SampleAnalyser$Order", "code", "I", false)
  | 1 => ("SampleAnalyser$Order", "test", "I", false)
  | 2 => ("SampleAnalyser$Order", "urgent", "Z", false)
  | 3 => ("SampleAnalyser$Order", "state", "I", false)
  | 4 => ("SampleAnalyser$Order", "reason", "I", false)
  | 5 => ("SampleAnalyser$Order", "runs", "I", false)
  | 6 => ("SampleAnalyser$Order", "diluted", "Z", false)
  | 7 => ("SampleAnalyser$Order", "cuvette", "I", false)
  | 8 => ("SampleAnalyser$Order", "value", "I", false)
  | _ => ("SampleAnalyser$Order", "flags", "I", false)
def tyX4 : Nat → FieldType := fun k => match k with
  | 0 => .int
  | 1 => .int
  | 2 => .boolean
  | 3 => .int
  | 4 => .int
  | 5 => .int
  | 6 => .boolean
  | 7 => .int
  | 8 => .int
  | _ => .int
theorem nmX4 : ∀ a, a < 10 → ∀ b, b < 10 → a ≠ b → (TX4 a).2.1 ≠ (TX4 b).2.1 := by decide +kernel
theorem tyX4_ok : ∀ k, k < 10 → parseFieldDescriptor (TX4 k).2.2.1 = some (tyX4 k) := by decide +kernel
abbrev cX4_init : ByteArray := prog_6_method_1_code
def yX4_init : MethodName := ⟨RX4, "<init>", "()V"⟩
abbrev cX4_place : ByteArray := prog_6_method_2_code
def yX4_place : MethodName := ⟨RX4, "place", "(IIZ)V"⟩
abbrev cX4_isOpen : ByteArray := prog_6_method_3_code
def yX4_isOpen : MethodName := ⟨RX4, "isOpen", "()Z"⟩
abbrev cX4_startRun : ByteArray := prog_6_method_4_code
def yX4_startRun : MethodName := ⟨RX4, "startRun", "(I)V"⟩
abbrev cX4_waitAgain : ByteArray := prog_6_method_5_code
def yX4_waitAgain : MethodName := ⟨RX4, "waitAgain", "(Z)V"⟩
abbrev cX4_breakOff : ByteArray := prog_6_method_6_code
def yX4_breakOff : MethodName := ⟨RX4, "breakOff", "(I)V"⟩
abbrev cX4_fail : ByteArray := prog_6_method_7_code
def yX4_fail : MethodName := ⟨RX4, "fail", "(I)V"⟩
abbrev cX4_release : ByteArray := prog_6_method_8_code
def yX4_release : MethodName := ⟨RX4, "release", "(II)V"⟩
abbrev cX4_runFlags : ByteArray := prog_6_method_9_code
def yX4_runFlags : MethodName := ⟨RX4, "runFlags", "()I"⟩
def RX5 : String := "SampleAnalyser$Position"
def TX5 : u_T := fun k => match k with
  | 0 => ("SampleAnalyser$Position", "kind", "I", false)
  | 1 => ("SampleAnalyser$Position", "volume", "I", false)
  | 2 => ("SampleAnalyser$Position", "reserved", "I", false)
  | _ => ("SampleAnalyser$Position", "expires", "I", false)
def tyX5 : Nat → FieldType := fun k => match k with
  | 0 => .int
  | 1 => .int
  | 2 => .int
  | _ => .int
theorem nmX5 : ∀ a, a < 4 → ∀ b, b < 4 → a ≠ b → (TX5 a).2.1 ≠ (TX5 b).2.1 := by decide +kernel
theorem tyX5_ok : ∀ k, k < 4 → parseFieldDescriptor (TX5 k).2.2.1 = some (tyX5 k) := by decide +kernel
abbrev cX5_init : ByteArray := prog_7_method_1_code
def yX5_init : MethodName := ⟨RX5, "<init>", "()V"⟩
abbrev cX5_isEmpty : ByteArray := prog_7_method_2_code
def yX5_isEmpty : MethodName := ⟨RX5, "isEmpty", "()Z"⟩
abbrev cX5_fill : ByteArray := prog_7_method_3_code
def yX5_fill : MethodName := ⟨RX5, "fill", "(III)V"⟩
abbrev cX5_canGive : ByteArray := prog_7_method_4_code
def yX5_canGive : MethodName := ⟨RX5, "canGive", "(III)Z"⟩
def RX6 : String := "SampleAnalyser$Protocol"
def TX6 : u_T := fun k => match k with
  | 0 => ("SampleAnalyser$Protocol", "fields", "[I", true)
  | 1 => ("SampleAnalyser$Protocol", "points", "LSampleAnalyser$Curve;", true)
  | 2 => ("SampleAnalyser$Protocol", "history", "LSampleAnalyser$History;", true)
  | _ => ("SampleAnalyser$Protocol", "sealed", "Z", false)
def tyX6 : Nat → FieldType := fun k => match k with
  | 0 => .array .int
  | 1 => .object "SampleAnalyser$Curve"
  | 2 => .object "SampleAnalyser$History"
  | _ => .boolean
theorem nmX6 : ∀ a, a < 4 → ∀ b, b < 4 → a ≠ b → (TX6 a).2.1 ≠ (TX6 b).2.1 := by decide +kernel
theorem tyX6_ok : ∀ k, k < 4 → parseFieldDescriptor (TX6 k).2.2.1 = some (tyX6 k) := by decide +kernel
abbrev cX6_init : ByteArray := prog_8_method_1_code
def yX6_init : MethodName := ⟨RX6, "<init>", "()V"⟩
abbrev cX6_accepts : ByteArray := prog_8_method_2_code
def yX6_accepts : MethodName := ⟨RX6, "accepts", "(II)Z"⟩
abbrev cX6_kindOf : ByteArray := prog_8_method_3_code
def yX6_kindOf : MethodName := ⟨RX6, "kindOf", "(I)I"⟩
abbrev cX6_doseOf : ByteArray := prog_8_method_4_code
def yX6_doseOf : MethodName := ⟨RX6, "doseOf", "(I)I"⟩
abbrev cX6_ageOf : ByteArray := prog_8_method_5_code
def yX6_ageOf : MethodName := ⟨RX6, "ageOf", "(I)I"⟩
abbrev cX6_lacks : ByteArray := prog_8_method_6_code
def yX6_lacks : MethodName := ⟨RX6, "lacks", "(II)Z"⟩
abbrev cX6_sampleVolume : ByteArray := prog_8_method_7_code
def yX6_sampleVolume : MethodName := ⟨RX6, "sampleVolume", "(Z)I"⟩
abbrev cX6_isComplete : ByteArray := prog_8_method_8_code
def yX6_isComplete : MethodName := ⟨RX6, "isComplete", "()Z"⟩
abbrev cX6_areReagentsRight : ByteArray := prog_8_method_9_code
def yX6_areReagentsRight : MethodName := ⟨RX6, "areReagentsRight", "()Z"⟩
abbrev cX6_isReagentRight : ByteArray := prog_8_method_10_code
def yX6_isReagentRight : MethodName := ⟨RX6, "isReagentRight", "(I)Z"⟩
abbrev cX6_areReadingsRight : ByteArray := prog_8_method_11_code
def yX6_areReadingsRight : MethodName := ⟨RX6, "areReadingsRight", "()Z"⟩
abbrev cX6_isDilutionRight : ByteArray := prog_8_method_12_code
def yX6_isDilutionRight : MethodName := ⟨RX6, "isDilutionRight", "()Z"⟩
abbrev cX6_isReadAt : ByteArray := prog_8_method_13_code
def yX6_isReadAt : MethodName := ⟨RX6, "isReadAt", "(I)Z"⟩
abbrev cX6_isOverAt : ByteArray := prog_8_method_14_code
def yX6_isOverAt : MethodName := ⟨RX6, "isOverAt", "(I)Z"⟩
abbrev cX6_dilutes : ByteArray := prog_8_method_15_code
def yX6_dilutes : MethodName := ⟨RX6, "dilutes", "()Z"⟩
abbrev cX6_asksAgain : ByteArray := prog_8_method_16_code
def yX6_asksAgain : MethodName := ⟨RX6, "asksAgain", "(I)Z"⟩
abbrev cX6_limitFlags : ByteArray := prog_8_method_17_code
def yX6_limitFlags : MethodName := ⟨RX6, "limitFlags", "(I)I"⟩
abbrev cX6_valueAt : ByteArray := prog_8_method_18_code
def yX6_valueAt : MethodName := ⟨RX6, "valueAt", "(JZ)J"⟩
abbrev cX6_formulaOf : ByteArray := prog_8_method_19_code
def yX6_formulaOf : MethodName := ⟨RX6, "formulaOf", "([II)J"⟩
abbrev cX6_rateOf : ByteArray := prog_8_method_20_code
def yX6_rateOf : MethodName := ⟨RX6, "rateOf", "([II)J"⟩
abbrev cX6_brokenRules : ByteArray := prog_8_method_21_code
def yX6_brokenRules : MethodName := ⟨RX6, "brokenRules", "()I"⟩
def RX7 : String := "SampleAnalyser$ReagentArm"
def TX7 : u_T := fun k => match k with
  | 0 => ("SampleAnalyser$ReagentArm", "kinds", "[I", true)
  | 1 => ("SampleAnalyser$ReagentArm", "users", "[I", true)
  | _ => ("SampleAnalyser$ReagentArm", "forbidden", "[Z", true)
def tyX7 : Nat → FieldType := fun k => match k with
  | 0 => .array .int
  | 1 => .array .int
  | _ => .array .boolean
theorem nmX7 : ∀ a, a < 3 → ∀ b, b < 3 → a ≠ b → (TX7 a).2.1 ≠ (TX7 b).2.1 := by decide +kernel
theorem tyX7_ok : ∀ k, k < 3 → parseFieldDescriptor (TX7 k).2.2.1 = some (tyX7 k) := by decide +kernel
abbrev cX7_init : ByteArray := prog_9_method_1_code
def yX7_init : MethodName := ⟨RX7, "<init>", "()V"⟩
abbrev cX7_turnSuccession : ByteArray := prog_9_method_2_code
def yX7_turnSuccession : MethodName := ⟨RX7, "turnSuccession", "(II)Z"⟩
abbrev cX7_turn : ByteArray := prog_9_method_3_code
def yX7_turn : MethodName := ⟨RX7, "turn", "()V"⟩
abbrev cX7_userNow : ByteArray := prog_9_method_4_code
def yX7_userNow : MethodName := ⟨RX7, "userNow", "()I"⟩
abbrev cX7_book : ByteArray := prog_9_method_5_code
def yX7_book : MethodName := ⟨RX7, "book", "(LSampleAnalyser$Protocol;I)Z"⟩
abbrev cX7_isFree : ByteArray := prog_9_method_6_code
def yX7_isFree : MethodName := ⟨RX7, "isFree", "(I)Z"⟩
abbrev cX7_hasForbiddenSuccession : ByteArray := prog_9_method_7_code
def yX7_hasForbiddenSuccession : MethodName := ⟨RX7, "hasForbiddenSuccession", "()Z"⟩
abbrev cX7_cancel : ByteArray := prog_9_method_8_code
def yX7_cancel : MethodName := ⟨RX7, "cancel", "(I)V"⟩
abbrev cX7_clear : ByteArray := prog_9_method_9_code
def yX7_clear : MethodName := ⟨RX7, "clear", "(I)V"⟩
def RX8 : String := "SampleAnalyser$Slot"
def TX8 : u_T := fun k => match k with
  | 0 => ("SampleAnalyser$Slot", "code", "I", false)
  | 1 => ("SampleAnalyser$Slot", "control", "Z", false)
  | _ => ("SampleAnalyser$Slot", "volume", "I", false)
def tyX8 : Nat → FieldType := fun k => match k with
  | 0 => .int
  | 1 => .boolean
  | _ => .int
theorem nmX8 : ∀ a, a < 3 → ∀ b, b < 3 → a ≠ b → (TX8 a).2.1 ≠ (TX8 b).2.1 := by decide +kernel
theorem tyX8_ok : ∀ k, k < 3 → parseFieldDescriptor (TX8 k).2.2.1 = some (tyX8 k) := by decide +kernel
abbrev cX8_init : ByteArray := prog_10_method_1_code
def yX8_init : MethodName := ⟨RX8, "<init>", "()V"⟩
abbrev cX8_isEmpty : ByteArray := prog_10_method_2_code
def yX8_isEmpty : MethodName := ⟨RX8, "isEmpty", "()Z"⟩
abbrev cX8_fill : ByteArray := prog_10_method_3_code
def yX8_fill : MethodName := ⟨RX8, "fill", "(IZI)V"⟩
def RX9 : String := "SampleAnalyser"
def TX9 : u_T := fun k => match k with
  | 0 => ("SampleAnalyser", "protocols", "[LSampleAnalyser$Protocol;", true)
  | 1 => ("SampleAnalyser", "slots", "[LSampleAnalyser$Slot;", true)
  | 2 => ("SampleAnalyser", "positions", "[LSampleAnalyser$Position;", true)
  | 3 => ("SampleAnalyser", "cuvettes", "[LSampleAnalyser$Cuvette;", true)
  | 4 => ("SampleAnalyser", "orders", "[LSampleAnalyser$Order;", true)
  | 5 => ("SampleAnalyser", "arm", "LSampleAnalyser$ReagentArm;", true)
  | 6 => ("SampleAnalyser", "queue", "LSampleAnalyser$HostQueue;", true)
  | 7 => ("SampleAnalyser", "orderCount", "I", false)
  | 8 => ("SampleAnalyser", "minute", "I", false)
  | 9 => ("SampleAnalyser", "counts", "I", false)
  | 10 => ("SampleAnalyser", "clotIsDue", "Z", false)
  | 11 => ("SampleAnalyser", "missIsDue", "Z", false)
  | _ => ("SampleAnalyser", "idleSteps", "I", false)
def tyX9 : Nat → FieldType := fun k => match k with
  | 0 => .array (.object "SampleAnalyser$Protocol")
  | 1 => .array (.object "SampleAnalyser$Slot")
  | 2 => .array (.object "SampleAnalyser$Position")
  | 3 => .array (.object "SampleAnalyser$Cuvette")
  | 4 => .array (.object "SampleAnalyser$Order")
  | 5 => .object "SampleAnalyser$ReagentArm"
  | 6 => .object "SampleAnalyser$HostQueue"
  | 7 => .int
  | 8 => .int
  | 9 => .int
  | 10 => .boolean
  | 11 => .boolean
  | _ => .int
theorem nmX9 : ∀ a, a < 13 → ∀ b, b < 13 → a ≠ b → (TX9 a).2.1 ≠ (TX9 b).2.1 := by decide +kernel
theorem tyX9_ok : ∀ k, k < 13 → parseFieldDescriptor (TX9 k).2.2.1 = some (tyX9 k) := by decide +kernel
abbrev cX9_init : ByteArray := prog_1_method_1_code
def yX9_init : MethodName := ⟨RX9, "<init>", "()V"⟩
abbrev cX9_define : ByteArray := prog_1_method_2_code
def yX9_define : MethodName := ⟨RX9, "define", "(III)V"⟩
abbrev cX9_curve : ByteArray := prog_1_method_3_code
def yX9_curve : MethodName := ⟨RX9, "curve", "(III)I"⟩
abbrev cX9_seal : ByteArray := prog_1_method_4_code
def yX9_seal : MethodName := ⟨RX9, "seal", "(I)Z"⟩
abbrev cX9_rack : ByteArray := prog_1_method_5_code
def yX9_rack : MethodName := ⟨RX9, "rack", "(IIII)V"⟩
abbrev cX9_removeRack : ByteArray := prog_1_method_6_code
def yX9_removeRack : MethodName := ⟨RX9, "removeRack", "(I)I"⟩
abbrev cX9_reagent : ByteArray := prog_1_method_7_code
def yX9_reagent : MethodName := ⟨RX9, "reagent", "(IIII)V"⟩
abbrev cX9_forbid : ByteArray := prog_1_method_8_code
def yX9_forbid : MethodName := ⟨RX9, "forbid", "(II)Z"⟩
abbrev cX9_order : ByteArray := prog_1_method_9_code
def yX9_order : MethodName := ⟨RX9, "order", "(IIZ)I"⟩
abbrev cX9_clock : ByteArray := prog_1_method_10_code
def yX9_clock : MethodName := ⟨RX9, "clock", "(I)V"⟩
abbrev cX9_light : ByteArray := prog_1_method_11_code
def yX9_light : MethodName := ⟨RX9, "light", "(I)V"⟩
abbrev cX9_spoil : ByteArray := prog_1_method_12_code
def yX9_spoil : MethodName := ⟨RX9, "spoil", "(I)V"⟩
abbrev cX9_step : ByteArray := prog_1_method_13_code
def yX9_step : MethodName := ⟨RX9, "step", "()I"⟩
abbrev cX9_idle : ByteArray := prog_1_method_14_code
def yX9_idle : MethodName := ⟨RX9, "idle", "()I"⟩
abbrev cX9_state : ByteArray := prog_1_method_15_code
def yX9_state : MethodName := ⟨RX9, "state", "(II)I"⟩
abbrev cX9_cuvette : ByteArray := prog_1_method_16_code
def yX9_cuvette : MethodName := ⟨RX9, "cuvette", "(II)I"⟩
abbrev cX9_volume : ByteArray := prog_1_method_17_code
def yX9_volume : MethodName := ⟨RX9, "volume", "(II)I"⟩
abbrev cX9_trend : ByteArray := prog_1_method_18_code
def yX9_trend : MethodName := ⟨RX9, "trend", "(II)I"⟩
abbrev cX9_rules : ByteArray := prog_1_method_19_code
def yX9_rules : MethodName := ⟨RX9, "rules", "(I)I"⟩
abbrev cX9_host : ByteArray := prog_1_method_20_code
def yX9_host : MethodName := ⟨RX9, "host", "(I)I"⟩
abbrev cX9_took : ByteArray := prog_1_method_21_code
def yX9_took : MethodName := ⟨RX9, "took", "(I)I"⟩
abbrev cX9_turnDisc : ByteArray := prog_1_method_22_code
def yX9_turnDisc : MethodName := ⟨RX9, "turnDisc", "()V"⟩
abbrev cX9_giveReagent : ByteArray := prog_1_method_23_code
def yX9_giveReagent : MethodName := ⟨RX9, "giveReagent", "()V"⟩
abbrev cX9_giveNextDose : ByteArray := prog_1_method_24_code
def yX9_giveNextDose : MethodName := ⟨RX9, "giveNextDose", "(LSampleAnalyser$Cuvette;)V"⟩
abbrev cX9_takeReadings : ByteArray := prog_1_method_25_code
def yX9_takeReadings : MethodName := ⟨RX9, "takeReadings", "()V"⟩
abbrev cX9_judgeEndedRuns : ByteArray := prog_1_method_26_code
def yX9_judgeEndedRuns : MethodName := ⟨RX9, "judgeEndedRuns", "()V"⟩
abbrev cX9_judge : ByteArray := prog_1_method_27_code
def yX9_judge : MethodName := ⟨RX9, "judge", "(ILSampleAnalyser$Cuvette;)V"⟩
abbrev cX9_startFirst : ByteArray := prog_1_method_28_code
def yX9_startFirst : MethodName := ⟨RX9, "startFirst", "(Z)I"⟩
abbrev cX9_tryStart : ByteArray := prog_1_method_29_code
def yX9_tryStart : MethodName := ⟨RX9, "tryStart", "(I)Z"⟩
abbrev cX9_reserve : ByteArray := prog_1_method_30_code
def yX9_reserve : MethodName := ⟨RX9, "reserve", "(LSampleAnalyser$Cuvette;III)V"⟩
abbrev cX9_takeSample : ByteArray := prog_1_method_31_code
def yX9_takeSample : MethodName := ⟨RX9, "takeSample", "(LSampleAnalyser$Slot;II)V"⟩
abbrev cX9_breakOff : ByteArray := prog_1_method_32_code
def yX9_breakOff : MethodName := ⟨RX9, "breakOff", "(II)V"⟩
abbrev cX9_isOrdered : ByteArray := prog_1_method_33_code
def yX9_isOrdered : MethodName := ⟨RX9, "isOrdered", "(I)Z"⟩
abbrev cX9_isAwaited : ByteArray := prog_1_method_34_code
def yX9_isAwaited : MethodName := ⟨RX9, "isAwaited", "(I)Z"⟩
abbrev cX9_slotOf : ByteArray := prog_1_method_35_code
def yX9_slotOf : MethodName := ⟨RX9, "slotOf", "(I)I"⟩
abbrev cX9_cleanCuvette : ByteArray := prog_1_method_36_code
def yX9_cleanCuvette : MethodName := ⟨RX9, "cleanCuvette", "()I"⟩
abbrev cX9_positionFor : ByteArray := prog_1_method_37_code
def yX9_positionFor : MethodName := ⟨RX9, "positionFor", "(LSampleAnalyser$Protocol;II)I"⟩
abbrev cX9_cuvetteOf : ByteArray := prog_1_method_38_code
def yX9_cuvetteOf : MethodName := ⟨RX9, "cuvetteOf", "(LSampleAnalyser$Order;)LSampleAnalyser$Cuvette;"⟩
abbrev cX9_isWithin : ByteArray := prog_1_method_39_code
def yX9_isWithin : MethodName := ⟨RX9, "isWithin", "(III)Z"⟩
abbrev cX9_absorbanceOf : ByteArray := prog_1_method_40_code
def yX9_absorbanceOf : MethodName := ⟨RX9, "absorbanceOf", "(I)I"⟩
abbrev cX9_limited : ByteArray := prog_1_method_41_code
def yX9_limited : MethodName := ⟨RX9, "limited", "(J)I"⟩
abbrev cX9_rounded : ByteArray := prog_1_method_42_code
def yX9_rounded : MethodName := ⟨RX9, "rounded", "(JJ)J"⟩
abbrev cX9_demandArgument : ByteArray := prog_1_method_43_code
def yX9_demandArgument : MethodName := ⟨RX9, "demandArgument", "(Z)V"⟩
abbrev cX9_demandState : ByteArray := prog_1_method_44_code
def yX9_demandState : MethodName := ⟨RX9, "demandState", "(Z)V"⟩
abbrev cX9_demandElement : ByteArray := prog_1_method_45_code
def yX9_demandElement : MethodName := ⟨RX9, "demandElement", "(Z)V"⟩
abbrev cX9_demandIndex : ByteArray := prog_1_method_46_code
def yX9_demandIndex : MethodName := ⟨RX9, "demandIndex", "(Z)V"⟩
def RX10 : String := "SampleAnalyserModel"
def TX10 : u_T := fun k => match k with
  | 0 => ("SampleAnalyserModel", "field", "[I", true)
  | 1 => ("SampleAnalyserModel", "sealed", "[Z", true)
  | 2 => ("SampleAnalyserModel", "curveX", "[I", true)
  | 3 => ("SampleAnalyserModel", "curveY", "[I", true)
  | 4 => ("SampleAnalyserModel", "points", "[I", true)
  | 5 => ("SampleAnalyserModel", "history", "[I", true)
  | 6 => ("SampleAnalyserModel", "past", "[I", true)
  | 7 => ("SampleAnalyserModel", "slotCode", "[I", true)
  | 8 => ("SampleAnalyserModel", "slotKind", "[I", true)
  | 9 => ("SampleAnalyserModel", "slotVolume", "[I", true)
  | 10 => ("SampleAnalyserModel", "placeKind", "[I", true)
  | 11 => ("SampleAnalyserModel", "placeVolume", "[I", true)
  | 12 => ("SampleAnalyserModel", "placeExpires", "[I", true)
  | 13 => ("SampleAnalyserModel", "forbidden", "[Z", true)
  | 14 => ("SampleAnalyserModel", "orders", "I", false)
  | 15 => ("SampleAnalyserModel", "code", "[I", true)
  | 16 => ("SampleAnalyserModel", "testOf", "[I", true)
  | 17 => ("SampleAnalyserModel", "urgent", "[Z", true)
  | 18 => ("SampleAnalyserModel", "status", "[I", true)
  | 19 => ("SampleAnalyserModel", "reason", "[I", true)
  | 20 => ("SampleAnalyserModel", "runs", "[I", true)
  | 21 => ("SampleAnalyserModel", "cuvette", "[I", true)
  | 22 => ("SampleAnalyserModel", "age", "[I", true)
  | 23 => ("SampleAnalyserModel", "diluted", "[Z", true)
  | 24 => ("SampleAnalyserModel", "control", "[Z", true)
  | 25 => ("SampleAnalyserModel", "readings", "[I", true)
  | 26 => ("SampleAnalyserModel", "readingsLong", "[I", true)
  | 27 => ("SampleAnalyserModel", "value", "[I", true)
  | 28 => ("SampleAnalyserModel", "flags", "[I", true)
  | 29 => ("SampleAnalyserModel", "wash", "[I", true)
  | 30 => ("SampleAnalyserModel", "inCuvette", "[I", true)
  | 31 => ("SampleAnalyserModel", "bookStep", "[I", true)
  | 32 => ("SampleAnalyserModel", "bookKind", "[I", true)
  | 33 => ("SampleAnalyserModel", "bookPlace", "[I", true)
  | 34 => ("SampleAnalyserModel", "bookVolume", "[I", true)
  | 35 => ("SampleAnalyserModel", "bookOrder", "[I", true)
  | 36 => ("SampleAnalyserModel", "books", "I", false)
  | 37 => ("SampleAnalyserModel", "usedStep", "I", false)
  | 38 => ("SampleAnalyserModel", "usedKind", "I", false)
  | 39 => ("SampleAnalyserModel", "host", "[I", true)
  | 40 => ("SampleAnalyserModel", "hostLong", "I", false)
  | 41 => ("SampleAnalyserModel", "now", "I", false)
  | 42 => ("SampleAnalyserModel", "steps", "I", false)
  | 43 => ("SampleAnalyserModel", "idleSteps", "I", false)
  | 44 => ("SampleAnalyserModel", "counts", "I", false)
  | 45 => ("SampleAnalyserModel", "thrown", "I", false)
  | 46 => ("SampleAnalyserModel", "clot", "Z", false)
  | _ => ("SampleAnalyserModel", "miss", "Z", false)
def tyX10 : Nat → FieldType := fun k => match k with
  | 0 => .array .int
  | 1 => .array .boolean
  | 2 => .array .int
  | 3 => .array .int
  | 4 => .array .int
  | 5 => .array .int
  | 6 => .array .int
  | 7 => .array .int
  | 8 => .array .int
  | 9 => .array .int
  | 10 => .array .int
  | 11 => .array .int
  | 12 => .array .int
  | 13 => .array .boolean
  | 14 => .int
  | 15 => .array .int
  | 16 => .array .int
  | 17 => .array .boolean
  | 18 => .array .int
  | 19 => .array .int
  | 20 => .array .int
  | 21 => .array .int
  | 22 => .array .int
  | 23 => .array .boolean
  | 24 => .array .boolean
  | 25 => .array .int
  | 26 => .array .int
  | 27 => .array .int
  | 28 => .array .int
  | 29 => .array .int
  | 30 => .array .int
  | 31 => .array .int
  | 32 => .array .int
  | 33 => .array .int
  | 34 => .array .int
  | 35 => .array .int
  | 36 => .int
  | 37 => .int
  | 38 => .int
  | 39 => .array .int
  | 40 => .int
  | 41 => .int
  | 42 => .int
  | 43 => .int
  | 44 => .int
  | 45 => .int
  | 46 => .boolean
  | _ => .boolean
theorem nmX10 : ∀ a, a < 48 → ∀ b, b < 48 → a ≠ b → (TX10 a).2.1 ≠ (TX10 b).2.1 := by decide +kernel
theorem tyX10_ok : ∀ k, k < 48 → parseFieldDescriptor (TX10 k).2.2.1 = some (tyX10 k) := by decide +kernel
abbrev cX10_init : ByteArray := prog_12_method_1_code
def yX10_init : MethodName := ⟨RX10, "<init>", "()V"⟩
abbrev cX10_thrown : ByteArray := prog_12_method_2_code
def yX10_thrown : MethodName := ⟨RX10, "thrown", "()I"⟩
abbrev cX10_within : ByteArray := prog_12_method_3_code
def yX10_within : MethodName := ⟨RX10, "within", "(III)Z"⟩
abbrev cX10_isTest : ByteArray := prog_12_method_4_code
def yX10_isTest : MethodName := ⟨RX10, "isTest", "(I)Z"⟩
abbrev cX10_of : ByteArray := prog_12_method_5_code
def yX10_of : MethodName := ⟨RX10, "of", "(II)I"⟩
abbrev cX10_pending : ByteArray := prog_12_method_6_code
def yX10_pending : MethodName := ⟨RX10, "pending", "(I)Z"⟩
abbrev cX10_fits : ByteArray := prog_12_method_7_code
def yX10_fits : MethodName := ⟨RX10, "fits", "(II)Z"⟩
abbrev cX10_define : ByteArray := prog_12_method_8_code
def yX10_define : MethodName := ⟨RX10, "define", "(III)V"⟩
abbrev cX10_curve : ByteArray := prog_12_method_9_code
def yX10_curve : MethodName := ⟨RX10, "curve", "(III)I"⟩
abbrev cX10_reagentGood : ByteArray := prog_12_method_10_code
def yX10_reagentGood : MethodName := ⟨RX10, "reagentGood", "(II)Z"⟩
abbrev cX10_curveGood : ByteArray := prog_12_method_11_code
def yX10_curveGood : MethodName := ⟨RX10, "curveGood", "(I)Z"⟩
abbrev cX10_seal : ByteArray := prog_12_method_12_code
def yX10_seal : MethodName := ⟨RX10, "seal", "(I)Z"⟩
abbrev cX10_slotOf : ByteArray := prog_12_method_13_code
def yX10_slotOf : MethodName := ⟨RX10, "slotOf", "(I)I"⟩
abbrev cX10_rack : ByteArray := prog_12_method_14_code
def yX10_rack : MethodName := ⟨RX10, "rack", "(IIII)V"⟩
abbrev cX10_removeRack : ByteArray := prog_12_method_15_code
def yX10_removeRack : MethodName := ⟨RX10, "removeRack", "(I)I"⟩
abbrev cX10_reserved : ByteArray := prog_12_method_16_code
def yX10_reserved : MethodName := ⟨RX10, "reserved", "(I)I"⟩
abbrev cX10_reagent : ByteArray := prog_12_method_17_code
def yX10_reagent : MethodName := ⟨RX10, "reagent", "(IIII)V"⟩
abbrev cX10_forbid : ByteArray := prog_12_method_18_code
def yX10_forbid : MethodName := ⟨RX10, "forbid", "(II)Z"⟩
abbrev cX10_order : ByteArray := prog_12_method_19_code
def yX10_order : MethodName := ⟨RX10, "order", "(IIZ)I"⟩
abbrev cX10_clock : ByteArray := prog_12_method_20_code
def yX10_clock : MethodName := ⟨RX10, "clock", "(I)V"⟩
abbrev cX10_light : ByteArray := prog_12_method_21_code
def yX10_light : MethodName := ⟨RX10, "light", "(I)V"⟩
abbrev cX10_spoil : ByteArray := prog_12_method_22_code
def yX10_spoil : MethodName := ⟨RX10, "spoil", "(I)V"⟩
abbrev cX10_cancel : ByteArray := prog_12_method_23_code
def yX10_cancel : MethodName := ⟨RX10, "cancel", "(I)V"⟩
abbrev cX10_copyBook : ByteArray := prog_12_method_24_code
def yX10_copyBook : MethodName := ⟨RX10, "copyBook", "(II)V"⟩
abbrev cX10_nextUse : ByteArray := prog_12_method_25_code
def yX10_nextUse : MethodName := ⟨RX10, "nextUse", "(I)I"⟩
abbrev cX10_follows : ByteArray := prog_12_method_26_code
def yX10_follows : MethodName := ⟨RX10, "follows", "(II)Z"⟩
abbrev cX10_allowed : ByteArray := prog_12_method_27_code
def yX10_allowed : MethodName := ⟨RX10, "allowed", "()Z"⟩
abbrev cX10_placeFor : ByteArray := prog_12_method_28_code
def yX10_placeFor : MethodName := ⟨RX10, "placeFor", "(II)I"⟩
abbrev cX10_book : ByteArray := prog_12_method_29_code
def yX10_book : MethodName := ⟨RX10, "book", "(I)Z"⟩
abbrev cX10_fail : ByteArray := prog_12_method_30_code
def yX10_fail : MethodName := ⟨RX10, "fail", "(II)V"⟩
abbrev cX10_leave : ByteArray := prog_12_method_31_code
def yX10_leave : MethodName := ⟨RX10, "leave", "(I)V"⟩
abbrev cX10_breaksOff : ByteArray := prog_12_method_32_code
def yX10_breaksOff : MethodName := ⟨RX10, "breaksOff", "(II)V"⟩
abbrev cX10_give : ByteArray := prog_12_method_33_code
def yX10_give : MethodName := ⟨RX10, "give", "()V"⟩
abbrev cX10_absorbance : ByteArray := prog_12_method_34_code
def yX10_absorbance : MethodName := ⟨RX10, "absorbance", "(I)I"⟩
abbrev cX10_floor : ByteArray := prog_12_method_35_code
def yX10_floor : MethodName := ⟨RX10, "floor", "(JJ)J"⟩
abbrev cX10_rounded : ByteArray := prog_12_method_36_code
def yX10_rounded : MethodName := ⟨RX10, "rounded", "(JJ)J"⟩
abbrev cX10_resultOf : ByteArray := prog_12_method_37_code
def yX10_resultOf : MethodName := ⟨RX10, "resultOf", "(I)J"⟩
abbrev cX10_byCurve : ByteArray := prog_12_method_38_code
def yX10_byCurve : MethodName := ⟨RX10, "byCurve", "(IJ)J"⟩
abbrev cX10_release : ByteArray := prog_12_method_39_code
def yX10_release : MethodName := ⟨RX10, "release", "(III)V"⟩
abbrev cX10_remember : ByteArray := prog_12_method_40_code
def yX10_remember : MethodName := ⟨RX10, "remember", "(II)V"⟩
abbrev cX10_judge : ByteArray := prog_12_method_41_code
def yX10_judge : MethodName := ⟨RX10, "judge", "(I)V"⟩
abbrev cX10_goOn : ByteArray := prog_12_method_42_code
def yX10_goOn : MethodName := ⟨RX10, "goOn", "()V"⟩
abbrev cX10_measure : ByteArray := prog_12_method_43_code
def yX10_measure : MethodName := ⟨RX10, "measure", "()V"⟩
abbrev cX10_clean : ByteArray := prog_12_method_44_code
def yX10_clean : MethodName := ⟨RX10, "clean", "()I"⟩
abbrev cX10_start : ByteArray := prog_12_method_45_code
def yX10_start : MethodName := ⟨RX10, "start", "(IIII)V"⟩
abbrev cX10_tries : ByteArray := prog_12_method_46_code
def yX10_tries : MethodName := ⟨RX10, "tries", "(I)Z"⟩
abbrev cX10_startOne : ByteArray := prog_12_method_47_code
def yX10_startOne : MethodName := ⟨RX10, "startOne", "()I"⟩
abbrev cX10_step : ByteArray := prog_12_method_48_code
def yX10_step : MethodName := ⟨RX10, "step", "()I"⟩
abbrev cX10_idle : ByteArray := prog_12_method_49_code
def yX10_idle : MethodName := ⟨RX10, "idle", "()I"⟩
abbrev cX10_state : ByteArray := prog_12_method_50_code
def yX10_state : MethodName := ⟨RX10, "state", "(II)I"⟩
abbrev cX10_cuvette : ByteArray := prog_12_method_51_code
def yX10_cuvette : MethodName := ⟨RX10, "cuvette", "(II)I"⟩
abbrev cX10_volume : ByteArray := prog_12_method_52_code
def yX10_volume : MethodName := ⟨RX10, "volume", "(II)I"⟩
abbrev cX10_trend : ByteArray := prog_12_method_53_code
def yX10_trend : MethodName := ⟨RX10, "trend", "(II)I"⟩
abbrev cX10_above : ByteArray := prog_12_method_54_code
def yX10_above : MethodName := ⟨RX10, "above", "(II)J"⟩
abbrev cX10_rules : ByteArray := prog_12_method_55_code
def yX10_rules : MethodName := ⟨RX10, "rules", "(I)I"⟩
abbrev cX10_host : ByteArray := prog_12_method_56_code
def yX10_host : MethodName := ⟨RX10, "host", "(I)I"⟩
abbrev cX10_took : ByteArray := prog_12_method_57_code
def yX10_took : MethodName := ⟨RX10, "took", "(I)I"⟩
def RJ9 : String := "java/lang/Math"
abbrev cJ9_floorDiv_f86c9 : ByteArray := prog_17_method_49_code
def yJ9_floorDiv_f86c9 : MethodName := ⟨RJ9, "floorDiv", "(JJ)J"⟩
abbrev cJ9_max_f86c9 : ByteArray := prog_17_method_66_code
def yJ9_max_f86c9 : MethodName := ⟨RJ9, "max", "(JJ)J"⟩
abbrev cJ9_min_f86c9 : ByteArray := prog_17_method_70_code
def yJ9_min_f86c9 : MethodName := ⟨RJ9, "min", "(JJ)J"⟩
def RL : String := "SampleAnalyserLaw"
abbrev cL_define : ByteArray := method_3_code
def yL_define : MethodName := ⟨RL, "define", "(LSampleAnalyser;III)I"⟩
abbrev cL_curve : ByteArray := method_4_code
def yL_curve : MethodName := ⟨RL, "curve", "(LSampleAnalyser;III[J)I"⟩
abbrev cL_seal : ByteArray := method_5_code
def yL_seal : MethodName := ⟨RL, "seal", "(LSampleAnalyser;I[J)I"⟩
abbrev cL_rack : ByteArray := method_6_code
def yL_rack : MethodName := ⟨RL, "rack", "(LSampleAnalyser;IIII)I"⟩
abbrev cL_removeRack : ByteArray := method_7_code
def yL_removeRack : MethodName := ⟨RL, "removeRack", "(LSampleAnalyser;I[J)I"⟩
abbrev cL_reagent : ByteArray := method_8_code
def yL_reagent : MethodName := ⟨RL, "reagent", "(LSampleAnalyser;IIII)I"⟩
abbrev cL_forbid : ByteArray := method_9_code
def yL_forbid : MethodName := ⟨RL, "forbid", "(LSampleAnalyser;II[J)I"⟩
abbrev cL_order : ByteArray := method_10_code
def yL_order : MethodName := ⟨RL, "order", "(LSampleAnalyser;IIZ[J)I"⟩
abbrev cL_clock : ByteArray := method_11_code
def yL_clock : MethodName := ⟨RL, "clock", "(LSampleAnalyser;I)I"⟩
abbrev cL_light : ByteArray := method_12_code
def yL_light : MethodName := ⟨RL, "light", "(LSampleAnalyser;I)I"⟩
abbrev cL_spoil : ByteArray := method_13_code
def yL_spoil : MethodName := ⟨RL, "spoil", "(LSampleAnalyser;I)I"⟩
abbrev cL_state : ByteArray := method_14_code
def yL_state : MethodName := ⟨RL, "state", "(LSampleAnalyser;II[J)I"⟩
abbrev cL_cuvette : ByteArray := method_15_code
def yL_cuvette : MethodName := ⟨RL, "cuvette", "(LSampleAnalyser;II[J)I"⟩
abbrev cL_volume : ByteArray := method_16_code
def yL_volume : MethodName := ⟨RL, "volume", "(LSampleAnalyser;II[J)I"⟩
abbrev cL_trend : ByteArray := method_17_code
def yL_trend : MethodName := ⟨RL, "trend", "(LSampleAnalyser;II[J)I"⟩
abbrev cL_rules : ByteArray := method_18_code
def yL_rules : MethodName := ⟨RL, "rules", "(LSampleAnalyser;I[J)I"⟩
abbrev cL_host : ByteArray := method_19_code
def yL_host : MethodName := ⟨RL, "host", "(LSampleAnalyser;I[J)I"⟩
abbrev cL_took : ByteArray := method_20_code
def yL_took : MethodName := ⟨RL, "took", "(LSampleAnalyser;I[J)I"⟩
abbrev cL_law : ByteArray := code
def yL_law : MethodName := ⟨RL, "law", "([I)Z"⟩
abbrev vwCl : List vw_C := [(RX0, TX0, 3), (RX1, TX1, 10), (RX2, TX2, 2), (RX3, TX3, 2), (RX4, TX4, 10), (RX5, TX5, 4), (RX6, TX6, 4), (RX7, TX7, 3), (RX8, TX8, 3), (RX9, TX9, 13), (RX10, TX10, 48)]
end
section
/-! ===== the small machine: values, memory, rows, one step, a run ===== -/
/-- a value: a number or null as it is, a reference as (kind, place) -/
abbrev am_V : Type := Value ⊕ (Nat × Nat)
/-- what all cells hold: kind, place, slot -/
abbrev am_M : Type := Nat → Nat → Nat → Int32
/-- returned (with what), or thrown (of which class) -/
abbrev am_O : Type := Option am_V ⊕ String
abbrev am_R : Type := Option (am_O × am_M)
abbrev am_F : Type := List am_V → am_M → am_R
/-- instruction, length, two numbers, a constant -/
abbrev am_Row : Type := Instr × Nat × Nat × Nat × Value
abbrev am_P : Type := List (List (Nat × am_Row))
def am_find : List (Nat × am_Row) → Nat → Option am_Row
  | [], _ => none
  | q :: l, pc => cond (Nat.beq q.1 pc) (some q.2) (am_find l pc)
def am_at (P : am_P) (pc : Nat) : Option am_Row := match P[pc / 16]? with
  | none => none
  | some l => am_find l pc
def am_D : am_V := .inl (.float 0)
def am_isD : am_V → Bool
  | .inl (.float _) => true
  | _ => false
def am_kill (ls : List am_V) (i : Nat) : List am_V := match i with
  | 0 => ls
  | j + 1 => match ls[j]? with
    | some (.inl (.long _)) => ls.set j am_D
    | _ => ls
def am_set1 (ls : List am_V) (i : Nat) (v : am_V) : List am_V := (am_kill ls i).set i v
def am_set2 (ls : List am_V) (i : Nat) (v : am_V) : List am_V := ((am_kill ls i).set i v).set (i + 1) am_D
def am_put (M : am_M) (k i f : Nat) (v : Int32) : am_M := fun k' i' f' => if k' = k ∧ i' = i ∧ f' = f then v else M k' i' f'
/-- a number as a boolean cell holds it -/
def am_b (x : Int32) : Int32 := if x = 0 then 0 else 1
/-- a long as two cells -/
def am_hi (x : Int64) : Int32 := Int32.ofNat (x.toBitVec.toNat / 4294967296)
def am_lo (x : Int64) : Int32 := Int32.ofNat (x.toBitVec.toNat % 4294967296)
def am_jn (h l : Int32) : Int64 := Int64.ofNat (h.toBitVec.toNat * 4294967296 + l.toBitVec.toNat)
abbrev am_in (x : Int32) (n : Nat) : Prop := 0 ≤ x.toInt ∧ x.toInt < n
/-- a switch by ifs -/
def am_sw {R : Type} (K : Nat → R) (d : Nat) (x : Int32) : List (Int32 × Nat) → R
  | [] => K d
  | q :: l => if x = q.1 then K q.2 else am_sw K d x l
/-- which handler catches at a pc, by the class's name: the constant that is then returned -/
def am_catch (hs : List (Nat × Nat × String × Value)) (pc : Nat) (E : String) : Option Value := match hs with
  | [] => none
  | h :: l => if h.1 ≤ pc ∧ pc < h.2.1 ∧ h.2.2.1 = E then some h.2.2.2 else am_catch l pc E
def am_wt : List am_V → Nat
  | [] => 0
  | .inl (.long _) :: l => 2 + am_wt l
  | _ :: l => 1 + am_wt l
/-- reference fields: which kind they lead to (at the same place); none: a number -/
def am_ftl : List (List (Option Nat)) := [
  [some 11, some 12, none],
  [some 13, none, some 14, some 15, none, none, none, none, none, none],
  [some 16, none],
  [some 17, none],
  [none, none, none, none, none, none, none, none, none, none],
  [none, none, none, none],
  [some 18, some 0, some 2, none],
  [some 19, some 20, some 21],
  [none, none, none],
  [some 22, some 23, some 24, some 25, some 26, some 7, some 3, none, none, none, none, none, none],
  [some 30, some 31, some 32, some 33, some 34, some 35, some 36, some 37, some 38, some 39, some 40, some 41, some 42, some 43, none, some 45, some 46, some 47, some 48, some 49, some 50, some 51, some 52, some 53, some 54, some 55, some 56, some 57, some 58, some 59, some 60, some 61, some 62, some 63, some 64, some 65, none, none, none, some 69, none, none, none, none, none, none, none, none]]
def am_ft (c f : Nat) : Option Nat := ((am_ftl.getD c []).getD f none)
/-- boolean fields -/
def am_fzl : List (List Bool) := [
  [false, false, false],
  [false, false, false, false, false, false, true, false, false, false],
  [false, false],
  [false, false],
  [false, false, true, false, false, false, true, false, false, false],
  [false, false, false, false],
  [false, false, false, true],
  [false, false, false],
  [false, true, false],
  [false, false, false, false, false, false, false, false, false, false, true, true, false],
  [false, false, false, false, false, false, false, false, false, false, false, false, false, false, false, false, false, false, false, false, false, false, false, false, false, false, false, false, false, false, false, false, false, false, false, false, false, false, false, false, false, false, false, false, false, false, true, true]]
def am_fz (c f : Nat) : Bool := ((am_fzl.getD c []).getD f false)
/-- how many fields a class has -/
def am_nf (c : Nat) : Nat := (am_ftl.getD c []).length
/-- arrays: what they hold (0 int, 1 boolean, 2 long, 3 + k: references to kind k), how many -/
def am_arl : List (Option (Nat × Nat)) := [none, none, none, none, none, none, none, none, none, none, none, some (0, 5), some (0, 5), some (0, 6), some (0, 2), some (0, 2), some (0, 10), some (0, 40), some (0, 16), some (0, 13), some (0, 13), some (1, 36), some (9, 4), some (11, 6), some (8, 8), some (4, 10), some (7, 40), none, none, none, some (0, 64), some (1, 4), some (0, 20), some (0, 20), some (0, 4), some (0, 40), some (0, 4), some (0, 6), some (0, 6), some (0, 6), some (0, 8), some (0, 8), some (0, 8), some (1, 36), none, some (0, 40), some (0, 40), some (1, 40), some (0, 40), some (0, 40), some (0, 40), some (0, 40), some (0, 40), some (1, 40), some (1, 40), some (0, 240), some (0, 40), some (0, 40), some (0, 40), some (0, 10), some (0, 10), some (0, 24), some (0, 24), some (0, 24), some (0, 24), some (0, 24), none, none, none, some (0, 40), none, none, none, none, none, none, none, none, none, none, some (2, 1)]
def am_ar (k : Nat) : Option (Nat × Nat) := am_arl.getD k none
/-- how many cells of a kind there are -/
def am_ctl : List Nat := [4, 10, 4, 1, 40, 8, 4, 1, 6, 1, 1, 4, 4, 10, 10, 10, 4, 1, 4, 1, 1, 1, 1, 1, 1, 1, 1, 0, 0, 0, 1, 1, 1, 1, 1, 1, 1, 1, 1, 1, 1, 1, 1, 1, 0, 1, 1, 1, 1, 1, 1, 1, 1, 1, 1, 1, 1, 1, 1, 1, 1, 1, 1, 1, 1, 1, 0, 0, 0, 1, 0, 0, 0, 0, 0, 0, 0, 0, 0, 0, 1]
def am_ct (k : Nat) : Nat := am_ctl.getD k 0
/-- the class's two rows of constants, kinds 27 and 28 -/
def am_st (k j : Nat) : Int32 := (if k = 27 then [0, -1, 0, 0, -1, 0, 0, 0, 0, 0, -2147483648, -2147483648, 0, 2, -2147483648, 1] else [500, 5, 2000, 12, 5, 2000, 12, 12, 12, 2, 2147483647, 2147483647, 2, 10, 2147483647, 1000000] : List Int32).getD j 0
/-- a method's end by a return (rt: 0 nothing, 1 int, 2 boolean, 3 long, 4 reference), or the law's loop's head (nop) -/
def am_fin (rt : Nat) (i : Instr) (ls st : List am_V) : Option am_O := match i with
  | .return_ => match st with
    | [] => cond (Nat.beq rt 0) (some (.inl none)) none
    | _ => none
  | .ireturn => match st with
    | [.inl (.int x)] => cond (Nat.beq rt 1) (some (.inl (some (.inl (.int x))))) (cond (Nat.beq rt 2) (if am_b x = x then some (.inl (some (.inl (.int x)))) else none) none)
    | _ => none
  | .lreturn => match st with
    | [.inl (.long x)] => cond (Nat.beq rt 3) (some (.inl (some (.inl (.long x))))) none
    | _ => none
  | .areturn => match st with
    | [.inr q] => cond (Nat.beq rt 4) (some (.inl (some (.inr q)))) none
    | [.inl .null] => cond (Nat.beq rt 4) (some (.inl (some (.inl .null)))) none
    | _ => none
  | .nop => match ls, st with
    | .inr a0 :: .inr a1 :: .inr a2 :: .inr a3 :: .inl (.int x) :: _, [] => if a0 = (29, 0) ∧ a1 = (9, 0) ∧ a2 = (10, 0) ∧ a3 = (80, 0) ∧ rt = 5 then some (.inl (some (.inl (.int x)))) else none
    | _, _ => none
  | _ => none
/-- behind a call -/
def am_ret (hs : List (Nat × Nat × String × Value)) (pc : Nat) (rest : List am_V) (K : List am_V → am_M → am_R) (r : am_R) : am_R := match r with
  | none => none
  | some (.inl v, M) => K (v.toList ++ rest) M
  | some (.inr E, M) => match am_catch hs pc E with
    | none => some (.inr E, M)
    | some v => some (.inl (some (.inl v)), M)
def am_call (cs : List am_F) (a : Nat) (av : List am_V) (M : am_M) : am_R := match cs[a]? with
  | none => none
  | some F => F av M
def am_step (cs : List am_F) (hs : List (Nat × Nat × String × Value)) (rt : Nat) (X : Nat × (Nat → Int32)) (P : am_P) (K : Nat → List am_V → List am_V → am_M → am_R) (pc : Nat) (ls st : List am_V) (M : am_M) : am_R :=
  match am_at P pc with
  | none => none
  | some (i, len, a, b, z) => match i with
    | .iconst _ => K (pc + len) ls (.inl z :: st) M
    | .bipush _ => K (pc + len) ls (.inl z :: st) M
    | .sipush _ => K (pc + len) ls (.inl z :: st) M
    | .ldc _ => K (pc + len) ls (.inl z :: st) M
    | .lconst _ => K (pc + len) ls (.inl z :: st) M
    | .ldc2_w _ => K (pc + len) ls (.inl z :: st) M
    | .aconst_null => K (pc + len) ls (.inl .null :: st) M
    | .iload_n _ => match ls[a]? with
      | some (.inl (.int x)) => K (pc + len) ls (.inl (.int x) :: st) M
      | _ => none
    | .iload _ => match ls[a]? with
      | some (.inl (.int x)) => K (pc + len) ls (.inl (.int x) :: st) M
      | _ => none
    | .lload_n _ => match ls[a]? with
      | some (.inl (.long x)) => K (pc + len) ls (.inl (.long x) :: st) M
      | _ => none
    | .lload _ => match ls[a]? with
      | some (.inl (.long x)) => K (pc + len) ls (.inl (.long x) :: st) M
      | _ => none
    | .aload_n _ => match ls[a]? with
      | some (.inr q) => K (pc + len) ls (.inr q :: st) M
      | some (.inl .null) => K (pc + len) ls (.inl .null :: st) M
      | _ => none
    | .aload _ => match ls[a]? with
      | some (.inr q) => K (pc + len) ls (.inr q :: st) M
      | some (.inl .null) => K (pc + len) ls (.inl .null :: st) M
      | _ => none
    | .istore_n _ => match st with
      | .inl (.int x) :: r => K (pc + len) (am_set1 ls a (.inl (.int x))) r M
      | _ => none
    | .istore _ => match st with
      | .inl (.int x) :: r => K (pc + len) (am_set1 ls a (.inl (.int x))) r M
      | _ => none
    | .lstore_n _ => match st with
      | .inl (.long x) :: r => K (pc + len) (am_set2 ls a (.inl (.long x))) r M
      | _ => none
    | .lstore _ => match st with
      | .inl (.long x) :: r => K (pc + len) (am_set2 ls a (.inl (.long x))) r M
      | _ => none
    | .astore_n _ => match st with
      | .inr q :: r => K (pc + len) (am_set1 ls a (.inr q)) r M
      | .inl .null :: r => K (pc + len) (am_set1 ls a (.inl .null)) r M
      | _ => none
    | .astore _ => match st with
      | .inr q :: r => K (pc + len) (am_set1 ls a (.inr q)) r M
      | .inl .null :: r => K (pc + len) (am_set1 ls a (.inl .null)) r M
      | _ => none
    | .iinc _ _ => match ls[a]?, z with
      | some (.inl (.int x)), .int v => K (pc + len) (am_set1 ls a (.inl (.int (x + v)))) st M
      | _, _ => none
    | .iadd => match st with
      | .inl (.int y) :: .inl (.int x) :: r => K (pc + len) ls (.inl (.int (x + y)) :: r) M
      | _ => none
    | .isub => match st with
      | .inl (.int y) :: .inl (.int x) :: r => K (pc + len) ls (.inl (.int (x - y)) :: r) M
      | _ => none
    | .imul => match st with
      | .inl (.int y) :: .inl (.int x) :: r => K (pc + len) ls (.inl (.int (x * y)) :: r) M
      | _ => none
    | .iand => match st with
      | .inl (.int y) :: .inl (.int x) :: r => K (pc + len) ls (.inl (.int (x &&& y)) :: r) M
      | _ => none
    | .ior => match st with
      | .inl (.int y) :: .inl (.int x) :: r => K (pc + len) ls (.inl (.int (x ||| y)) :: r) M
      | _ => none
    | .ishr => match st with
      | .inl (.int y) :: .inl (.int x) :: r => K (pc + len) ls (.inl (.int (x >>> (y &&& 31))) :: r) M
      | _ => none
    | .idiv => match st with
      | .inl (.int y) :: .inl (.int x) :: r => if y = 0 then none else K (pc + len) ls (.inl (.int (x / y)) :: r) M
      | _ => none
    | .irem => match st with
      | .inl (.int y) :: .inl (.int x) :: r => if y = 0 then none else K (pc + len) ls (.inl (.int (x - x / y * y)) :: r) M
      | _ => none
    | .ladd => match st with
      | .inl (.long y) :: .inl (.long x) :: r => K (pc + len) ls (.inl (.long (x + y)) :: r) M
      | _ => none
    | .lsub => match st with
      | .inl (.long y) :: .inl (.long x) :: r => K (pc + len) ls (.inl (.long (x - y)) :: r) M
      | _ => none
    | .lmul => match st with
      | .inl (.long y) :: .inl (.long x) :: r => K (pc + len) ls (.inl (.long (x * y)) :: r) M
      | _ => none
    | .lxor => match st with
      | .inl (.long y) :: .inl (.long x) :: r => K (pc + len) ls (.inl (.long (x ^^^ y)) :: r) M
      | _ => none
    | .ldiv => match st with
      | .inl (.long y) :: .inl (.long x) :: r => if y = 0 then none else K (pc + len) ls (.inl (.long (x / y)) :: r) M
      | _ => none
    | .lrem => match st with
      | .inl (.long y) :: .inl (.long x) :: r => if y = 0 then none else K (pc + len) ls (.inl (.long (x - x / y * y)) :: r) M
      | _ => none
    | .lshl => match st with
      | .inl (.int y) :: .inl (.long x) :: r => K (pc + len) ls (.inl (.long (x <<< (y.toInt64 &&& 63))) :: r) M
      | _ => none
    | .lcmp => match st with
      | .inl (.long y) :: .inl (.long x) :: r => K (pc + len) ls (.inl (.int (lg_cmp x y)) :: r) M
      | _ => none
    | .i2l => match st with
      | .inl (.int x) :: r => K (pc + len) ls (.inl (.long x.toInt64) :: r) M
      | _ => none
    | .l2i => match st with
      | .inl (.long x) :: r => K (pc + len) ls (.inl (.int x.toInt32) :: r) M
      | _ => none
    | .dup => match st with
      | .inl (.int x) :: r => K (pc + len) ls (.inl (.int x) :: .inl (.int x) :: r) M
      | .inr q :: r => K (pc + len) ls (.inr q :: .inr q :: r) M
      | _ => none
    | .dup2 => match st with
      | .inl (.int x) :: .inr q :: r => K (pc + len) ls (.inl (.int x) :: .inr q :: .inl (.int x) :: .inr q :: r) M
      | _ => none
    | .pop => match st with
      | .inl (.int _) :: r => K (pc + len) ls r M
      | .inr _ :: r => K (pc + len) ls r M
      | _ => none
    | .goto _ => K a ls st M
    | .ifCond c _ => match st with
      | .inl (.int x) :: r => match c with
        | .eq => if x = 0 then K a ls r M else K (pc + len) ls r M
        | .ne => if x = 0 then K (pc + len) ls r M else K a ls r M
        | .lt => if x < 0 then K a ls r M else K (pc + len) ls r M
        | .ge => if 0 ≤ x then K a ls r M else K (pc + len) ls r M
        | .gt => if 0 < x then K a ls r M else K (pc + len) ls r M
        | .le => if x ≤ 0 then K a ls r M else K (pc + len) ls r M
      | _ => none
    | .if_icmp c _ => match st with
      | .inl (.int y) :: .inl (.int x) :: r => match c with
        | .eq => if x = y then K a ls r M else K (pc + len) ls r M
        | .ne => if x = y then K (pc + len) ls r M else K a ls r M
        | .lt => if x < y then K a ls r M else K (pc + len) ls r M
        | .ge => if y ≤ x then K a ls r M else K (pc + len) ls r M
        | .gt => if y < x then K a ls r M else K (pc + len) ls r M
        | .le => if x ≤ y then K a ls r M else K (pc + len) ls r M
      | _ => none
    | .ifnull _ => match st with
      | .inr _ :: r => K (pc + len) ls r M
      | .inl .null :: r => K a ls r M
      | _ => none
    | .ifnonnull _ => match st with
      | .inr _ :: r => K a ls r M
      | .inl .null :: r => K (pc + len) ls r M
      | _ => none
    | .tableswitch d lo _ os => match st with
      | .inl (.int x) :: r => am_sw (fun t => K t ls r M) (((pc : Int) + d).toNat) x ((List.range os.size).map (fun (j : Nat) => (Int32.ofInt (lo + (j : Int)), ((pc : Int) + os.getD j 0).toNat)))
      | _ => none
    | .lookupswitch d ps => match st with
      | .inl (.int x) :: r => am_sw (fun t => K t ls r M) (((pc : Int) + d).toNat) x (ps.toList.map (fun q => (Int32.ofInt q.1, ((pc : Int) + q.2).toNat)))
      | _ => none
    | .getfield _ => match st with
      | .inr (k, j) :: r => cond (Nat.beq k b) (match am_ft b a with
        | some k' => K (pc + len) ls (.inr (k', j) :: r) M
        | none => cond (am_fz b a) (K (pc + len) ls (.inl (.int (am_b (M k j a))) :: r) M) (K (pc + len) ls (.inl (.int (M k j a)) :: r) M)) none
      | _ => none
    | .putfield _ => match st with
      | .inl (.int x) :: .inr (k, j) :: r => cond (Nat.beq k b) (match am_ft b a with
        | some _ => none
        | none => cond (am_fz b a) (if am_b x = x then K (pc + len) ls r (am_put M k j a x) else none) (K (pc + len) ls r (am_put M k j a x))) none
      | _ => none
    | .getstatic _ => K (pc + len) ls (.inr (a, 0) :: st) M
    | .arraylength => match st with
      | .inr (k, _) :: r => cond (Nat.beq k 29 && Nat.beq rt 5) (K (pc + len) ls (.inl (.int (Int32.ofNat X.1)) :: r) M) (match am_ar k with
        | some (_, n) => K (pc + len) ls (.inl (.int (Int32.ofNat n)) :: r) M
        | none => none)
      | _ => none
    | .iaload => match st with
      | .inl (.int x) :: .inr (k, j) :: r => cond (Nat.beq k 27 || Nat.beq k 28) (if am_in x 16 then K (pc + len) ls (.inl (.int (am_st k x.toNatClampNeg)) :: r) M else none)
        (cond (Nat.beq k 29 && Nat.beq rt 5) (if am_in x X.1 then K (pc + len) ls (.inl (.int (X.2 x.toNatClampNeg)) :: r) M else none) (match am_ar k with
        | some (0, n) => if am_in x n then K (pc + len) ls (.inl (.int (M k j x.toNatClampNeg)) :: r) M else none
        | _ => none))
      | _ => none
    | .iastore => match st with
      | .inl (.int y) :: .inl (.int x) :: .inr (k, j) :: r => match am_ar k with
        | some (0, n) => if am_in x n then K (pc + len) ls r (am_put M k j x.toNatClampNeg y) else none
        | _ => none
      | _ => none
    | .baload => match st with
      | .inl (.int x) :: .inr (k, j) :: r => match am_ar k with
        | some (1, n) => if am_in x n then K (pc + len) ls (.inl (.int (am_b (M k j x.toNatClampNeg))) :: r) M else none
        | _ => none
      | _ => none
    | .bastore => match st with
      | .inl (.int y) :: .inl (.int x) :: .inr (k, j) :: r => match am_ar k with
        | some (1, n) => if am_in x n ∧ am_b y = y then K (pc + len) ls r (am_put M k j x.toNatClampNeg y) else none
        | _ => none
      | _ => none
    | .laload => match st with
      | .inl (.int x) :: .inr (k, j) :: r => match am_ar k with
        | some (2, n) => if am_in x n then K (pc + len) ls (.inl (.long (am_jn (M k j (2 * x.toNatClampNeg)) (M k j (2 * x.toNatClampNeg + 1)))) :: r) M else none
        | _ => none
      | _ => none
    | .lastore => match st with
      | .inl (.long y) :: .inl (.int x) :: .inr (k, j) :: r => match am_ar k with
        | some (2, n) => if am_in x n then K (pc + len) ls r (am_put (am_put M k j (2 * x.toNatClampNeg) (am_hi y)) k j (2 * x.toNatClampNeg + 1) (am_lo y)) else none
        | _ => none
      | _ => none
    | .aaload => match st with
      | .inl (.int x) :: .inr (k, _) :: r => match am_ar k with
        | some (e + 3, n) => if am_in x n then K (pc + len) ls (.inr (e, x.toNatClampNeg) :: r) M else none
        | _ => none
      | _ => none
    | .invokestatic _ => cond (Nat.beq (st.take b).length b && Nat.ble (am_wt (st.drop b)) 8) (am_ret hs pc (st.drop b) (K (pc + len) ls) (am_call cs a (st.take b).reverse M)) none
    | .invokevirtual _ => match z, (st.take b).reverse with
      | .ref c, .inr (k, j) :: as => cond (Nat.beq k c && Nat.beq (st.take b).length b && Nat.ble (am_wt (st.drop b)) 8) (am_ret hs pc (st.drop b) (K (pc + len) ls) (am_call cs a (.inr (k, j) :: as) M)) none
      | _, _ => none
    | i => (am_fin rt i ls st).map (fun o => (o, M))
def am_run (cs : List am_F) (hs : List (Nat × Nat × String × Value)) (rt : Nat) (X : Nat × (Nat → Int32)) (P : am_P) : Nat → Nat → List am_V → List am_V → am_M → am_R
  | 0 => fun _ _ _ _ => none
  | n + 1 => am_step cs hs rt X P (am_run cs hs rt X P n)
def am_lay : List am_V → List am_V
  | [] => []
  | .inl (.long x) :: l => .inl (.long x) :: am_D :: am_lay l
  | v :: l => v :: am_lay l
def am_ent (n : Nat) (av : List am_V) : List am_V := am_lay av ++ List.replicate (n - (am_lay av).length) am_D
def am_X0 : Nat × (Nat → Int32) := (0, fun _ => 0)
/-- a method of the program: its callees, handlers, the code of its answer's type, its locals, its rows -/
def am_meth (cs : List am_F) (hs : List (Nat × Nat × String × Value)) (rt nL N : Nat) (P : am_P) : am_F := fun av M => am_run cs hs rt am_X0 P N 0 (am_ent nL av) [] M
end
section
/-! ===== the small machine's memory as a world of cells ===== -/
def am_co (ad : Nat → Nat → Nat) : am_V → Value
  | .inl v => v
  | .inr q => .ref (ad q.1 q.2)
/-- a reference is to a cell that is there (27, 28: the two rows of constants, 29: the script) -/
def am_ok : am_V → Prop
  | .inl _ => True
  | .inr q => q.2 < am_ct q.1 ∨ ((q.1 = 27 ∨ q.1 = 28 ∨ q.1 = 29) ∧ q.2 = 0)
def am_en (ad : Nat → Nat → Nat) (cy : Nat → ClassId) (k i : Nat) (f : Nat → Int32) : va_E := match am_ar k with
  | none => .inr (k, (List.range (am_nf k)).map (fun j => match am_ft k j with
    | some k' => .ref (ad k' i)
    | none => .int (cond (am_fz k j) (am_b (f j)) (f j))))
  | some (0, n) => .inl (cy 0, n, .inl f)
  | some (1, n) => .inl (cy 1, n, .inl (fun j => am_b (f j)))
  | some (2, n) => .inl (cy 2, n, .inr (.inl (fun j => am_jn (f (2 * j)) (f (2 * j + 1)))))
  | some (e + 3, n) => .inl (cy (e + 3), n, .inr (.inr (.inr (.inr (fun j => some (ad e j))))))
def am_KI : List (Nat × Nat) := (List.range 81).flatMap (fun k => (List.range (am_ct k)).map (fun i => (k, i)))
def am_W (ad : Nat → Nat → Nat) (cy : Nat → ClassId) (M : am_M) : va_W := am_KI.map (fun q => (ad q.1 q.2, am_en ad cy q.1 q.2 (M q.1 q.2)))
def am_A (ad : Nat → Nat → Nat) : Nat → Prop := fun q => ∃ k i, i < am_ct k ∧ q = ad k i
def am_up (M : am_M) (k i : Nat) (f : Nat → Int32) : am_M := fun k' i' => if k' = k ∧ i' = i then f else M k' i'
theorem am_ct_lt {k i : Nat} (h : i < am_ct k) : k < 81 := by
  rcases Nat.lt_or_ge k 81 with q | q
  · exact q
  · exfalso
    have h0 : am_ct k = 0 := by
      unfold am_ct
      rw [List.getD_eq_getElem?_getD, List.getElem?_eq_none (by show 81 ≤ k; exact q)]
      rfl
    omega
theorem am_mem {k i : Nat} (h : i < am_ct k) : (k, i) ∈ am_KI :=
  List.mem_flatMap.mpr ⟨k, List.mem_range.mpr (am_ct_lt h), List.mem_map.mpr ⟨i, List.mem_range.mpr h, rfl⟩⟩
theorem am_mem_of {q : Nat × Nat} (h : q ∈ am_KI) : q.2 < am_ct q.1 := by
  obtain ⟨k, -, h2⟩ := List.mem_flatMap.mp h
  obtain ⟨i, h3, rfl⟩ := List.mem_map.mp h2
  exact List.mem_range.mp h3
theorem am_KI_nd : va_nd (am_KI.map (fun q => q.1 * 1000 + q.2)) = true := by decide +kernel
theorem am_KI_small : ∀ q ∈ am_KI, q.2 < 1000 := by decide +kernel
theorem am_KI_inj {i j : Nat} {q : Nat × Nat} (h1 : am_KI[i]? = some q) (h2 : am_KI[j]? = some q) : i = j :=
  va_nd_inj _ am_KI_nd i j (q.1 * 1000 + q.2) (by rw [List.getElem?_map, h1]; rfl) (by rw [List.getElem?_map, h2]; rfl)
theorem am_wget {ad : Nat → Nat → Nat} {cy : Nat → ClassId} (M : am_M) {k i : Nat} (h : i < am_ct k) :
    ∃ q0, (am_W ad cy M)[q0]? = some (ad k i, am_en ad cy k i (M k i)) ∧ ∀ f, (am_W ad cy M).set q0 (ad k i, am_en ad cy k i f) = am_W ad cy (am_up M k i f) := by
  obtain ⟨q0, hq⟩ := List.getElem?_of_mem (am_mem h)
  refine ⟨q0, by unfold am_W; rw [List.getElem?_map, hq]; rfl, fun f => ?_⟩
  apply List.ext_getElem?
  intro j
  by_cases hj : j = q0
  · subst hj
    have hl : j < (am_W ad cy M).length := by
      unfold am_W
      rw [List.length_map]
      exact (List.getElem?_eq_some_iff.mp hq).1
    rw [List.getElem?_set_self hl]
    unfold am_W
    rw [List.getElem?_map, hq]
    simp [am_up]
  · rw [List.getElem?_set_ne (Ne.symm hj)]
    unfold am_W
    rw [List.getElem?_map, List.getElem?_map]
    cases hz : am_KI[j]? with
    | none => rfl
    | some z =>
      have hne : ¬ (z.1 = k ∧ z.2 = i) := fun e => hj (am_KI_inj hz (by rw [hq, ← e.1, ← e.2]))
      simp [am_up, hne]
theorem am_put_up (M : am_M) (k i f : Nat) (v : Int32) : am_put M k i f v = am_up M k i (upd (M k i) f v) := by
  funext k' i' f'
  unfold am_put am_up upd
  by_cases h : k' = k ∧ i' = i
  · obtain ⟨rfl, rfl⟩ := h
    by_cases hf : f' = f <;> simp [hf]
  · rw [if_neg h, if_neg (fun q => h ⟨q.1, q.2.1⟩)]
theorem am_W_at {ad : Nat → Nat → Nat} {cy : Nat → ClassId} {M : am_M} {q : Nat} {x : Nat × va_E} (h : (am_W ad cy M)[q]? = some x) : ∃ z, am_KI[q]? = some z ∧ x.1 = ad z.1 z.2 := by
  unfold am_W at h
  rw [List.getElem?_map] at h
  cases hz : am_KI[q]? with
  | none => rw [hz] at h; cases h
  | some z => rw [hz] at h; cases h; exact ⟨z, rfl, rfl⟩
theorem am_D_of {ad : Nat → Nat → Nat} {cy : Nat → ClassId} {A B : Nat → Prop} {M : am_M} (h : va_D A (am_W ad cy M)) (hB : ∀ k i, i < am_ct k → A (ad k i) → B (ad k i)) (M' : am_M) : va_D B (am_W ad cy M') := by
  have key : ∀ {q : Nat} {x : Nat × va_E}, (am_W ad cy M')[q]? = some x → ∃ y, (am_W ad cy M)[q]? = some y ∧ y.1 = x.1 := by
    intro q x hx
    obtain ⟨z, hz, e⟩ := am_W_at hx
    refine ⟨(ad z.1 z.2, am_en ad cy z.1 z.2 (M z.1 z.2)), by unfold am_W; rw [List.getElem?_map, hz]; rfl, e.symm⟩
  refine ⟨fun i j p q hp hq hpq => ?_, fun k q hq => ?_⟩
  · obtain ⟨y1, h1, e1⟩ := key hp
    obtain ⟨y2, h2, e2⟩ := key hq
    exact h.1 i j y1 y2 h1 h2 (e1.trans (hpq.trans e2.symm))
  · obtain ⟨z, hz, e⟩ := am_W_at hq
    obtain ⟨y, hy, e2⟩ := key hq
    rw [e]
    exact hB z.1 z.2 (am_mem_of (List.mem_of_getElem? hz)) (by rw [← e, ← e2]; exact h.2 k y hy)
theorem am_b_b (x : Int32) : am_b (am_b x) = am_b x := by
  unfold am_b
  by_cases h : x = 0
  · simp [h]
  · simp [h]
theorem am_b01 {x : Int32} (h : am_b x = x) : x = 0 ∨ x = 1 := by
  unfold am_b at h
  by_cases q : x = 0
  · exact Or.inl q
  · rw [if_neg q] at h; exact Or.inr h.symm
theorem am_jn_eq (x : Int64) : am_jn (am_hi x) (am_lo x) = x := by
  have hx : x.toBitVec.toNat < 18446744073709551616 := x.toBitVec.isLt
  have h1 : (am_hi x).toBitVec.toNat = x.toBitVec.toNat / 4294967296 := by
    unfold am_hi
    show (x.toBitVec.toNat / 4294967296) % 4294967296 = _
    omega
  have h2 : (am_lo x).toBitVec.toNat = x.toBitVec.toNat % 4294967296 := by
    unfold am_lo
    show (x.toBitVec.toNat % 4294967296) % 4294967296 = _
    omega
  unfold am_jn
  rw [h1, h2, show x.toBitVec.toNat / 4294967296 * 4294967296 + x.toBitVec.toNat % 4294967296 = x.toBitVec.toNat by omega]
  apply Int64.toBitVec_inj.mp
  apply BitVec.eq_of_toNat_eq
  show x.toBitVec.toNat % 18446744073709551616 = _
  omega
/-! the locals -/
def am_lv (ad : Nat → Nat → Nat) : Nat → List am_V → List (Nat × Value)
  | _, [] => []
  | n, v :: l => cond (am_isD v) (am_lv ad (n + 1) l) ((n, am_co ad v) :: am_lv ad (n + 1) l)
theorem am_lv_mem {ad : Nat → Nat → Nat} {q : Nat × Value} : ∀ {n : Nat} {ls : List am_V}, q ∈ am_lv ad n ls ↔ ∃ j v, ls[j]? = some v ∧ am_isD v = false ∧ q = (n + j, am_co ad v)
  | n, [] => by simp [am_lv]
  | n, v :: l => by
    have ih := @am_lv_mem ad q (n + 1) l
    constructor
    · intro h
      unfold am_lv at h
      cases hd : am_isD v with
      | true =>
        rw [hd] at h
        obtain ⟨j, w, h1, h2, h3⟩ := ih.mp h
        exact ⟨j + 1, w, by simpa using h1, h2, by rw [h3]; simp; omega⟩
      | false =>
        rw [hd] at h
        rcases List.mem_cons.mp h with h | h
        · exact ⟨0, v, rfl, hd, by rw [h]; rfl⟩
        · obtain ⟨j, w, h1, h2, h3⟩ := ih.mp h
          exact ⟨j + 1, w, by simpa using h1, h2, by rw [h3]; simp; omega⟩
    · rintro ⟨j, w, h1, h2, h3⟩
      unfold am_lv
      cases j with
      | zero =>
        simp at h1
        subst h1
        rw [h2]
        exact List.mem_cons.mpr (Or.inl (by rw [h3]; rfl))
      | succ j =>
        have hm : q ∈ am_lv ad (n + 1) l := ih.mpr ⟨j, w, by simpa using h1, h2, by rw [h3]; simp; omega⟩
        cases am_isD v with
        | true => exact hm
        | false => exact List.mem_cons.mpr (Or.inr hm)
theorem am_lv_at {ad : Nat → Nat → Nat} {lsA : Array Slot} {nL : Nat} {ls : List am_V} (h : lv_has lsA nL (am_lv ad 0 ls)) {j : Nat} {v : am_V} (hv : ls[j]? = some v) (hd : am_isD v = false) : lsA[j]? = some (.val (am_co ad v)) :=
  h.2.2 (j, am_co ad v) (am_lv_mem.mpr ⟨j, v, hv, hd, by simp⟩)
theorem am_isD_co {ad : Nat → Nat → Nat} {v : am_V} (h : am_isD v = false) (h2 : (am_co ad v).category = 2) : (∃ x, v = .inl (.long x)) ∨ ∃ x, v = .inl (.double x) := by
  cases v with
  | inl w => cases w <;> first | exact Or.inl ⟨_, rfl⟩ | exact Or.inr ⟨_, rfl⟩ | (simp [am_co, Value.category] at h2)
  | inr q => simp [am_co, Value.category] at h2
theorem am_kill_at {ls : List am_V} {i j : Nat} {v : am_V} (h : (am_kill ls i)[j]? = some v) (hd : am_isD v = false) : ls[j]? = some v ∧ ¬ (j + 1 = i ∧ ∃ x, v = .inl (.long x)) := by
  unfold am_kill at h
  cases i with
  | zero => exact ⟨h, fun q => by omega⟩
  | succ i =>
    simp only at h
    split at h
    · rename_i x hx
      by_cases hj : j = i
      · subst hj
        rw [List.getElem?_set_self (List.getElem?_eq_some_iff.mp hx).1] at h
        cases h
        cases hd
      · rw [List.getElem?_set_ne (Ne.symm hj)] at h
        exact ⟨h, fun q => hj (by omega)⟩
    · rename_i hx
      refine ⟨h, fun q => ?_⟩
      obtain ⟨e1, x, rfl⟩ := q
      have : j = i := by omega
      subst this
      exact hx x h
def am_nod : List am_V → Prop := fun ls => ∀ (j : Nat) (x : UInt64), ls[j]? ≠ some (.inl (.double x))
theorem am_lv_set1 {ad : Nat → Nat → Nat} {lsA : Array Slot} {nL : Nat} {ls : List am_V} {i : Nat} {v : am_V} (hn : am_nod ls) (h : lv_has lsA nL ((i, am_co ad v) :: (am_lv ad 0 ls).filter (fun q => !(q.1 == i) && !(q.1 + 1 == i && q.2.category == 2)))) : lv_has lsA nL (am_lv ad 0 (am_set1 ls i v)) := by
  refine ⟨h.1, h.2.1, fun q hq => h.2.2 q ?_⟩
  obtain ⟨j, w, h1, h2, rfl⟩ := am_lv_mem.mp hq
  unfold am_set1 at h1
  by_cases hj : j = i
  · subst hj
    by_cases hl : j < (am_kill ls j).length
    · rw [List.getElem?_set_self hl] at h1
      cases h1
      exact List.mem_cons.mpr (Or.inl (by simp))
    · rw [List.getElem?_eq_none (by simpa using hl)] at h1
      cases h1
  · rw [List.getElem?_set_ne (Ne.symm hj)] at h1
    obtain ⟨h3, h4⟩ := am_kill_at h1 h2
    refine List.mem_cons.mpr (Or.inr (List.mem_filter.mpr ⟨am_lv_mem.mpr ⟨j, w, h3, h2, rfl⟩, ?_⟩))
    have h5 : ¬ (j + 1 = i ∧ (am_co ad w).category = 2) := fun e => by
      rcases am_isD_co h2 e.2 with ⟨x, hx⟩ | ⟨x, hx⟩
      · exact h4 ⟨e.1, x, hx⟩
      · exact hn j x (by rw [h3, hx])
    simp only [Bool.and_eq_true, Bool.not_eq_true', beq_eq_false_iff_ne, ne_eq, Bool.and_eq_false_iff, Nat.zero_add]
    refine ⟨hj, ?_⟩
    by_cases hz : j + 1 = i
    · exact Or.inr (fun e => h5 ⟨hz, e⟩)
    · exact Or.inl hz
theorem am_lv_set2 {ad : Nat → Nat → Nat} {lsA : Array Slot} {nL : Nat} {ls : List am_V} {i : Nat} {v : am_V} (hn : am_nod ls) (h : lv_has lsA nL ((i, am_co ad v) :: (am_lv ad 0 ls).filter (fun q => !(q.1 == i) && (!(q.1 == i + 1) && !(q.1 + 1 == i && q.2.category == 2))))) : lv_has lsA nL (am_lv ad 0 (am_set2 ls i v)) := by
  refine ⟨h.1, h.2.1, fun q hq => h.2.2 q ?_⟩
  obtain ⟨j, w, h1, h2, rfl⟩ := am_lv_mem.mp hq
  unfold am_set2 at h1
  have hj1 : ¬ j = i + 1 := fun e => by
    subst e
    by_cases hl : i + 1 < ((am_kill ls i).set i v).length
    · rw [List.getElem?_set_self hl] at h1
      cases h1
      cases h2
    · rw [List.getElem?_eq_none (by simpa using hl)] at h1
      cases h1
  rw [List.getElem?_set_ne (Ne.symm hj1)] at h1
  by_cases hj : j = i
  · subst hj
    by_cases hl : j < (am_kill ls j).length
    · rw [List.getElem?_set_self hl] at h1
      cases h1
      exact List.mem_cons.mpr (Or.inl (by simp))
    · rw [List.getElem?_eq_none (by simpa using hl)] at h1
      cases h1
  · rw [List.getElem?_set_ne (Ne.symm hj)] at h1
    obtain ⟨h3, h4⟩ := am_kill_at h1 h2
    refine List.mem_cons.mpr (Or.inr (List.mem_filter.mpr ⟨am_lv_mem.mpr ⟨j, w, h3, h2, rfl⟩, ?_⟩))
    have h5 : ¬ (j + 1 = i ∧ (am_co ad w).category = 2) := fun e => by
      rcases am_isD_co h2 e.2 with ⟨x, hx⟩ | ⟨x, hx⟩
      · exact h4 ⟨e.1, x, hx⟩
      · exact hn j x (by rw [h3, hx])
    simp only [Bool.and_eq_true, Bool.not_eq_true', beq_eq_false_iff_ne, ne_eq, Bool.and_eq_false_iff, Nat.zero_add]
    refine ⟨hj, hj1, ?_⟩
    by_cases hz : j + 1 = i
    · exact Or.inr (fun e => h5 ⟨hz, e⟩)
    · exact Or.inl hz
end
