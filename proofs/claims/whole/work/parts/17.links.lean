/-! the links. Written by wip/whole/lnk.py. -/
set_option maxRecDepth 100000 in
set_option maxHeartbeats 4000000 in
theorem lk_1 : en_FP "EvenSteps$Circle" true 9 0 2 [(0, 0)] := ⟨"EvenSteps$Circle", (List.forall_mem_cons.mpr ⟨⟨"EvenSteps$Circle", en_T0, 8, .array .int, rfl, by decide, wd_162, Or.inl rfl, by decide +kernel, rfl, Or.inr ⟨rfl, rfl, rfl⟩⟩, (fun _ h => absurd h List.not_mem_nil)⟩)⟩
set_option maxRecDepth 100000 in
set_option maxHeartbeats 4000000 in
theorem lk_2 : en_FP "EvenSteps$Circle" true 15 1 2 [(0, 0)] := ⟨"EvenSteps$Circle", (List.forall_mem_cons.mpr ⟨⟨"EvenSteps$Circle", en_T0, 8, .array .int, rfl, by decide, wd_164, Or.inl rfl, by decide +kernel, rfl, Or.inr ⟨rfl, rfl, rfl⟩⟩, (fun _ h => absurd h List.not_mem_nil)⟩)⟩
set_option maxRecDepth 100000 in
set_option maxHeartbeats 4000000 in
theorem lk_3 : en_FP "EvenSteps$Circle" true 18 2 2 [(0, 0)] := ⟨"EvenSteps$Circle", (List.forall_mem_cons.mpr ⟨⟨"EvenSteps$Circle", en_T0, 8, .array .int, rfl, by decide, wd_166, Or.inl rfl, by decide +kernel, rfl, Or.inr ⟨rfl, rfl, rfl⟩⟩, (fun _ h => absurd h List.not_mem_nil)⟩)⟩
set_option maxRecDepth 100000 in
set_option maxHeartbeats 4000000 in
theorem lk_4 : en_FP "EvenSteps$Circle" true 21 3 2 [(0, 0)] := ⟨"EvenSteps$Circle", (List.forall_mem_cons.mpr ⟨⟨"EvenSteps$Circle", en_T0, 8, .array .int, rfl, by decide, wd_168, Or.inl rfl, by decide +kernel, rfl, Or.inr ⟨rfl, rfl, rfl⟩⟩, (fun _ h => absurd h List.not_mem_nil)⟩)⟩
set_option maxRecDepth 100000 in
set_option maxHeartbeats 4000000 in
theorem lk_5 : en_FP "EvenSteps$Circle" true 24 5 2 [(0, 0)] := ⟨"EvenSteps$Circle", (List.forall_mem_cons.mpr ⟨⟨"EvenSteps$Circle", en_T0, 8, .array .int, rfl, by decide, wd_172, Or.inl rfl, by decide +kernel, rfl, Or.inr ⟨rfl, rfl, rfl⟩⟩, (fun _ h => absurd h List.not_mem_nil)⟩)⟩
set_option maxRecDepth 100000 in
set_option maxHeartbeats 4000000 in
theorem lk_6 : en_FP "EvenSteps$Circle" true 27 6 2 [(0, 0)] := ⟨"EvenSteps$Circle", (List.forall_mem_cons.mpr ⟨⟨"EvenSteps$Circle", en_T0, 8, .array .int, rfl, by decide, wd_173, Or.inl rfl, by decide +kernel, rfl, Or.inr ⟨rfl, rfl, rfl⟩⟩, (fun _ h => absurd h List.not_mem_nil)⟩)⟩
set_option maxRecDepth 100000 in
set_option maxHeartbeats 4000000 in
theorem lk_7 : en_FP "EvenSteps$Circle" false 30 7 2 [(0, 0)] := ⟨"EvenSteps$Circle", (List.forall_mem_cons.mpr ⟨⟨"EvenSteps$Circle", en_T0, 8, .object "EvenSteps$Slope", rfl, by decide, wd_174, Or.inl rfl, by decide +kernel, rfl, Or.inl rfl⟩, (fun _ h => absurd h List.not_mem_nil)⟩)⟩
set_option maxRecDepth 100000 in
set_option maxHeartbeats 4000000 in
theorem lk_8 : en_FG "EvenSteps$Circle" 27 6 [(0, 0)] := ⟨"EvenSteps$Circle", (List.forall_mem_cons.mpr ⟨⟨"EvenSteps$Circle", en_T0, 8, rfl, by decide, wd_173, Or.inl rfl⟩, (fun _ h => absurd h List.not_mem_nil)⟩)⟩
set_option maxRecDepth 100000 in
set_option maxHeartbeats 4000000 in
theorem me_44 : en_ME 44 ⟨"EvenSteps$Slope", "wholeOf", "(JJJ)J"⟩ prog_9_method_6_code 15 (some .long) := ⟨⟨p_X7_wholeOf, rfl⟩, wd_399, wd_71, ⟨by decide, by decide⟩, by decide⟩
set_option maxRecDepth 100000 in
set_option maxHeartbeats 4000000 in
theorem np_0 : en_np "(JJJ)J" 3 := by unfold en_np; decide +kernel
set_option maxRecDepth 100000 in
set_option maxHeartbeats 4000000 in
theorem lk_9 : en_LV "EvenSteps$Circle" 34 3 [(6, 44)] := (List.forall_mem_cons.mpr ⟨⟨"EvenSteps$Slope", en_T6, 8, ⟨"EvenSteps$Slope", "wholeOf", "(JJJ)J"⟩, ⟨"EvenSteps$Slope", "wholeOf", "(JJJ)J"⟩, prog_9_method_6_code, 15, (some .long), "EvenSteps$Slope", rfl, me_44, np_0, wd_746, wd_398, wd_397, Or.inl ⟨rfl, rfl⟩⟩, (fun _ h => absurd h List.not_mem_nil)⟩)
set_option maxRecDepth 100000 in
set_option maxHeartbeats 4000000 in
theorem me_2 : en_ME 2 ⟨"EvenSteps$Circle", "place", "(I)V"⟩ prog_2_method_3_code 3 none := ⟨⟨p_X0_place, rfl⟩, wd_750, wd_66, ⟨by decide, by decide⟩, by decide⟩
set_option maxRecDepth 100000 in
set_option maxHeartbeats 4000000 in
theorem np_1 : en_np "(I)V" 1 := by unfold en_np; decide +kernel
set_option maxRecDepth 100000 in
set_option maxHeartbeats 4000000 in
theorem lk_10 : en_LV "EvenSteps$Circle" 40 1 [(0, 2)] := (List.forall_mem_cons.mpr ⟨⟨"EvenSteps$Circle", en_T0, 8, ⟨"EvenSteps$Circle", "place", "(I)V"⟩, ⟨"EvenSteps$Circle", "place", "(I)V"⟩, prog_2_method_3_code, 3, none, "EvenSteps$Circle", rfl, me_2, np_1, wd_747, wd_19, wd_749, Or.inl ⟨rfl, rfl⟩⟩, (fun _ h => absurd h List.not_mem_nil)⟩)
set_option maxRecDepth 100000 in
set_option maxHeartbeats 4000000 in
theorem lk_11 : en_FG "EvenSteps$Circle" 9 0 [(0, 0)] := ⟨"EvenSteps$Circle", (List.forall_mem_cons.mpr ⟨⟨"EvenSteps$Circle", en_T0, 8, rfl, by decide, wd_162, Or.inl rfl⟩, (fun _ h => absurd h List.not_mem_nil)⟩)⟩
set_option maxRecDepth 100000 in
set_option maxHeartbeats 4000000 in
theorem lk_12 : en_FG "EvenSteps$Circle" 24 5 [(0, 0)] := ⟨"EvenSteps$Circle", (List.forall_mem_cons.mpr ⟨⟨"EvenSteps$Circle", en_T0, 8, rfl, by decide, wd_172, Or.inl rfl⟩, (fun _ h => absurd h List.not_mem_nil)⟩)⟩
set_option maxRecDepth 100000 in
set_option maxHeartbeats 4000000 in
theorem lk_13 : en_FP "EvenSteps$Circle" false 44 4 0 [(0, 0)] := ⟨"EvenSteps$Circle", (List.forall_mem_cons.mpr ⟨⟨"EvenSteps$Circle", en_T0, 8, .int, rfl, by decide, wd_170, Or.inl rfl, by decide +kernel, rfl, Or.inl rfl⟩, (fun _ h => absurd h List.not_mem_nil)⟩)⟩
set_option maxRecDepth 100000 in
set_option maxHeartbeats 4000000 in
theorem me_4 : en_ME 4 ⟨"EvenSteps$Circle", "addGap", "(II)V"⟩ prog_2_method_5_code 4 none := ⟨⟨p_X0_addGap, rfl⟩, wd_759, wd_66, ⟨by decide, by decide⟩, by decide⟩
set_option maxRecDepth 100000 in
set_option maxHeartbeats 4000000 in
theorem np_2 : en_np "(II)V" 2 := by unfold en_np; decide +kernel
set_option maxRecDepth 100000 in
set_option maxHeartbeats 4000000 in
theorem lk_14 : en_LV "EvenSteps$Circle" 48 2 [(0, 4)] := (List.forall_mem_cons.mpr ⟨⟨"EvenSteps$Circle", en_T0, 8, ⟨"EvenSteps$Circle", "addGap", "(II)V"⟩, ⟨"EvenSteps$Circle", "addGap", "(II)V"⟩, prog_2_method_5_code, 4, none, "EvenSteps$Circle", rfl, me_4, np_2, wd_756, wd_21, wd_758, Or.inl ⟨rfl, rfl⟩⟩, (fun _ h => absurd h List.not_mem_nil)⟩)
set_option maxRecDepth 100000 in
set_option maxHeartbeats 4000000 in
theorem me_3 : en_ME 3 ⟨"EvenSteps$Circle", "isAhead", "(II)Z"⟩ prog_2_method_4_code 3 (some .boolean) := ⟨⟨p_X0_isAhead, rfl⟩, wd_754, wd_66, ⟨by decide, by decide⟩, by decide⟩
set_option maxRecDepth 100000 in
set_option maxHeartbeats 4000000 in
theorem np_3 : en_np "(II)Z" 2 := by unfold en_np; decide +kernel
set_option maxRecDepth 100000 in
set_option maxHeartbeats 4000000 in
theorem lk_15 : en_LV "EvenSteps$Circle" 52 2 [(0, 3)] := (List.forall_mem_cons.mpr ⟨⟨"EvenSteps$Circle", en_T0, 8, ⟨"EvenSteps$Circle", "isAhead", "(II)Z"⟩, ⟨"EvenSteps$Circle", "isAhead", "(II)Z"⟩, prog_2_method_4_code, 3, (some .boolean), "EvenSteps$Circle", rfl, me_3, np_3, wd_751, wd_20, wd_753, Or.inl ⟨rfl, rfl⟩⟩, (fun _ h => absurd h List.not_mem_nil)⟩)
set_option maxRecDepth 100000 in
set_option maxHeartbeats 4000000 in
theorem lk_16 : en_FG "EvenSteps$Circle" 30 7 [(0, 0)] := ⟨"EvenSteps$Circle", (List.forall_mem_cons.mpr ⟨⟨"EvenSteps$Circle", en_T0, 8, rfl, by decide, wd_174, Or.inl rfl⟩, (fun _ h => absurd h List.not_mem_nil)⟩)⟩
set_option maxRecDepth 100000 in
set_option maxHeartbeats 4000000 in
theorem me_45 : en_ME 45 ⟨"EvenSteps$Slope", "signOfSum", "(JJ)I"⟩ prog_9_method_7_code 5 (some .int) := ⟨⟨p_X7_signOfSum, rfl⟩, wd_562, wd_71, ⟨by decide, by decide⟩, by decide⟩
set_option maxRecDepth 100000 in
set_option maxHeartbeats 4000000 in
theorem np_4 : en_np "(JJ)I" 2 := by unfold en_np; decide +kernel
set_option maxRecDepth 100000 in
set_option maxHeartbeats 4000000 in
theorem lk_17 : en_LV "EvenSteps$Circle" 56 2 [(6, 45)] := (List.forall_mem_cons.mpr ⟨⟨"EvenSteps$Slope", en_T6, 8, ⟨"EvenSteps$Slope", "signOfSum", "(JJ)I"⟩, ⟨"EvenSteps$Slope", "signOfSum", "(JJ)I"⟩, prog_9_method_7_code, 5, (some .int), "EvenSteps$Slope", rfl, me_45, np_4, wd_755, wd_561, wd_560, Or.inl ⟨rfl, rfl⟩⟩, (fun _ h => absurd h List.not_mem_nil)⟩)
set_option maxRecDepth 100000 in
set_option maxHeartbeats 4000000 in
theorem lk_18 : en_FG "EvenSteps$Circle" 44 4 [(0, 0)] := ⟨"EvenSteps$Circle", (List.forall_mem_cons.mpr ⟨⟨"EvenSteps$Circle", en_T0, 8, rfl, by decide, wd_170, Or.inl rfl⟩, (fun _ h => absurd h List.not_mem_nil)⟩)⟩
set_option maxRecDepth 100000 in
set_option maxHeartbeats 4000000 in
theorem me_5 : en_ME 5 ⟨"EvenSteps$Circle", "signBeside", "(III)I"⟩ prog_2_method_6_code 4 (some .int) := ⟨⟨p_X0_signBeside, rfl⟩, wd_763, wd_66, ⟨by decide, by decide⟩, by decide⟩
set_option maxRecDepth 100000 in
set_option maxHeartbeats 4000000 in
theorem np_5 : en_np "(III)I" 3 := by unfold en_np; decide +kernel
set_option maxRecDepth 100000 in
set_option maxHeartbeats 4000000 in
theorem lk_19 : en_LV "EvenSteps$Circle" 60 3 [(0, 5)] := (List.forall_mem_cons.mpr ⟨⟨"EvenSteps$Circle", en_T0, 8, ⟨"EvenSteps$Circle", "signBeside", "(III)I"⟩, ⟨"EvenSteps$Circle", "signBeside", "(III)I"⟩, prog_2_method_6_code, 4, (some .int), "EvenSteps$Circle", rfl, me_5, np_5, wd_760, wd_22, wd_762, Or.inl ⟨rfl, rfl⟩⟩, (fun _ h => absurd h List.not_mem_nil)⟩)
set_option maxRecDepth 100000 in
set_option maxHeartbeats 4000000 in
theorem lk_20 : en_FG "EvenSteps$Circle" 15 1 [(0, 0)] := ⟨"EvenSteps$Circle", (List.forall_mem_cons.mpr ⟨⟨"EvenSteps$Circle", en_T0, 8, rfl, by decide, wd_164, Or.inl rfl⟩, (fun _ h => absurd h List.not_mem_nil)⟩)⟩
set_option maxRecDepth 100000 in
set_option maxHeartbeats 4000000 in
theorem me_6 : en_ME 6 ⟨"EvenSteps$Circle", "insertSort", "(III)V"⟩ prog_2_method_7_code 5 none := ⟨⟨p_X0_insertSort, rfl⟩, wd_767, wd_66, ⟨by decide, by decide⟩, by decide⟩
set_option maxRecDepth 100000 in
set_option maxHeartbeats 4000000 in
theorem np_6 : en_np "(III)V" 3 := by unfold en_np; decide +kernel
set_option maxRecDepth 100000 in
set_option maxHeartbeats 4000000 in
theorem lk_21 : en_LV "EvenSteps$Circle" 64 3 [(0, 6)] := (List.forall_mem_cons.mpr ⟨⟨"EvenSteps$Circle", en_T0, 8, ⟨"EvenSteps$Circle", "insertSort", "(III)V"⟩, ⟨"EvenSteps$Circle", "insertSort", "(III)V"⟩, prog_2_method_7_code, 5, none, "EvenSteps$Circle", rfl, me_6, np_6, wd_764, wd_23, wd_766, Or.inl ⟨rfl, rfl⟩⟩, (fun _ h => absurd h List.not_mem_nil)⟩)
set_option maxRecDepth 100000 in
set_option maxHeartbeats 4000000 in
theorem lk_22 : en_FG "EvenSteps$Circle" 18 2 [(0, 0)] := ⟨"EvenSteps$Circle", (List.forall_mem_cons.mpr ⟨⟨"EvenSteps$Circle", en_T0, 8, rfl, by decide, wd_166, Or.inl rfl⟩, (fun _ h => absurd h List.not_mem_nil)⟩)⟩
set_option maxRecDepth 100000 in
set_option maxHeartbeats 4000000 in
theorem lk_23 : en_FG "EvenSteps$Circle" 21 3 [(0, 0)] := ⟨"EvenSteps$Circle", (List.forall_mem_cons.mpr ⟨⟨"EvenSteps$Circle", en_T0, 8, rfl, by decide, wd_168, Or.inl rfl⟩, (fun _ h => absurd h List.not_mem_nil)⟩)⟩
set_option maxRecDepth 100000 in
set_option maxHeartbeats 4000000 in
theorem me_29 : en_ME 29 ⟨"EvenSteps$Row", "<init>", "(I)V"⟩ prog_7_method_1_code 2 none := ⟨⟨p_X5_init, rfl⟩, wd_362, wd_73, ⟨by decide, by decide⟩, by decide⟩
set_option maxRecDepth 100000 in
set_option maxHeartbeats 4000000 in
theorem lk_24 : en_LI "EvenSteps$Cut" 3 1 [(1, 29), (2, 29), (3, 29), (4, 29), (8, 29)] := ⟨⟨"EvenSteps$Row", "<init>", "(I)V"⟩, prog_7_method_1_code, 2, (List.forall_mem_cons.mpr ⟨me_29, (List.forall_mem_cons.mpr ⟨me_29, (List.forall_mem_cons.mpr ⟨me_29, (List.forall_mem_cons.mpr ⟨me_29, (List.forall_mem_cons.mpr ⟨me_29, (fun _ h => absurd h List.not_mem_nil)⟩)⟩)⟩)⟩)⟩), np_1, wd_361, rfl, wd_478⟩
set_option maxRecDepth 100000 in
set_option maxHeartbeats 4000000 in
theorem lk_25 : en_FP "EvenSteps$Cut" true 9 7 2 [(1, 0)] := ⟨"EvenSteps$Cut", (List.forall_mem_cons.mpr ⟨⟨"EvenSteps$Cut", en_T1, 11, .array .long, rfl, by decide, wd_484, Or.inl rfl, by decide +kernel, rfl, Or.inr ⟨rfl, rfl, rfl⟩⟩, (fun _ h => absurd h List.not_mem_nil)⟩)⟩
set_option maxRecDepth 100000 in
set_option maxHeartbeats 4000000 in
theorem lk_26 : en_FP "EvenSteps$Cut" true 15 2 2 [(1, 0)] := ⟨"EvenSteps$Cut", (List.forall_mem_cons.mpr ⟨⟨"EvenSteps$Cut", en_T1, 11, .object "EvenSteps$Row", rfl, by decide, wd_479, Or.inl rfl, by decide +kernel, rfl, Or.inr ⟨rfl, rfl, rfl⟩⟩, (fun _ h => absurd h List.not_mem_nil)⟩)⟩
set_option maxRecDepth 100000 in
set_option maxHeartbeats 4000000 in
theorem lk_27 : en_FP "EvenSteps$Cut" true 19 3 0 [(1, 0)] := ⟨"EvenSteps$Cut", (List.forall_mem_cons.mpr ⟨⟨"EvenSteps$Cut", en_T1, 11, .int, rfl, by decide, wd_480, Or.inl rfl, by decide +kernel, rfl, Or.inr ⟨rfl, rfl, rfl⟩⟩, (fun _ h => absurd h List.not_mem_nil)⟩)⟩
set_option maxRecDepth 100000 in
set_option maxHeartbeats 4000000 in
theorem lk_28 : en_FP "EvenSteps$Cut" true 23 4 0 [(1, 0)] := ⟨"EvenSteps$Cut", (List.forall_mem_cons.mpr ⟨⟨"EvenSteps$Cut", en_T1, 11, .int, rfl, by decide, wd_481, Or.inl rfl, by decide +kernel, rfl, Or.inr ⟨rfl, rfl, rfl⟩⟩, (fun _ h => absurd h List.not_mem_nil)⟩)⟩
set_option maxRecDepth 100000 in
set_option maxHeartbeats 4000000 in
theorem lk_29 : en_FP "EvenSteps$Cut" true 26 5 0 [(1, 0)] := ⟨"EvenSteps$Cut", (List.forall_mem_cons.mpr ⟨⟨"EvenSteps$Cut", en_T1, 11, .int, rfl, by decide, wd_482, Or.inl rfl, by decide +kernel, rfl, Or.inr ⟨rfl, rfl, rfl⟩⟩, (fun _ h => absurd h List.not_mem_nil)⟩)⟩
set_option maxRecDepth 100000 in
set_option maxHeartbeats 4000000 in
theorem lk_30 : en_FP "EvenSteps$Cut" true 29 6 0 [(1, 0)] := ⟨"EvenSteps$Cut", (List.forall_mem_cons.mpr ⟨⟨"EvenSteps$Cut", en_T1, 11, .int, rfl, by decide, wd_483, Or.inl rfl, by decide +kernel, rfl, Or.inr ⟨rfl, rfl, rfl⟩⟩, (fun _ h => absurd h List.not_mem_nil)⟩)⟩
set_option maxRecDepth 100000 in
set_option maxHeartbeats 4000000 in
theorem me_11 : en_ME 11 ⟨"EvenSteps$Cut", "learn", "(I)V"⟩ prog_3_method_5_code 4 none := ⟨⟨p_X1_learn, rfl⟩, wd_392, wd_77, ⟨by decide, by decide⟩, by decide⟩
set_option maxRecDepth 100000 in
set_option maxHeartbeats 4000000 in
theorem lk_31 : en_LV "EvenSteps$Cut" 32 1 [(1, 11)] := (List.forall_mem_cons.mpr ⟨⟨"EvenSteps$Cut", en_T1, 11, ⟨"EvenSteps$Cut", "learn", "(I)V"⟩, ⟨"EvenSteps$Cut", "learn", "(I)V"⟩, prog_3_method_5_code, 4, none, "EvenSteps$Cut", rfl, me_11, np_1, wd_388, wd_3, wd_390, Or.inl ⟨rfl, rfl⟩⟩, (fun _ h => absurd h List.not_mem_nil)⟩)
set_option maxRecDepth 100000 in
set_option maxHeartbeats 4000000 in
theorem lk_32 : en_FG "EvenSteps$Cut" 35 8 [(1, 0)] := ⟨"EvenSteps$Cut", (List.forall_mem_cons.mpr ⟨⟨"EvenSteps$Cut", en_T1, 11, rfl, by decide, wd_485, Or.inl rfl⟩, (fun _ h => absurd h List.not_mem_nil)⟩)⟩
set_option maxRecDepth 100000 in
set_option maxHeartbeats 4000000 in
theorem lk_33 : en_FG "EvenSteps$Cut" 9 7 [(1, 0)] := ⟨"EvenSteps$Cut", (List.forall_mem_cons.mpr ⟨⟨"EvenSteps$Cut", en_T1, 11, rfl, by decide, wd_484, Or.inl rfl⟩, (fun _ h => absurd h List.not_mem_nil)⟩)⟩
set_option maxRecDepth 100000 in
set_option maxHeartbeats 4000000 in
theorem me_210 : en_ME 210 ⟨"java/lang/Long", "bitCount", "(J)I"⟩ prog_16_method_50_code 2 (some .int) := ⟨⟨p_J13_bitCount_95d88, rfl⟩, wd_649, wd_69, ⟨by decide, by decide⟩, by decide⟩
set_option maxRecDepth 100000 in
set_option maxHeartbeats 4000000 in
theorem np_7 : en_np "(J)I" 1 := by unfold en_np; decide +kernel
set_option maxRecDepth 100000 in
set_option maxHeartbeats 4000000 in
theorem lk_34 : en_LS "EvenSteps$Cut" 38 1 [(0, 210)] := ⟨0, 210, ⟨"java/lang/Long", "bitCount", "(J)I"⟩, prog_16_method_50_code, 2, (some .int), rfl, me_210, np_7, wd_648, Or.inl wd_647⟩
set_option maxRecDepth 100000 in
set_option maxHeartbeats 4000000 in
theorem lk_35 : en_FG "EvenSteps$Cut" 44 10 [(1, 0)] := ⟨"EvenSteps$Cut", (List.forall_mem_cons.mpr ⟨⟨"EvenSteps$Cut", en_T1, 11, rfl, by decide, wd_487, Or.inl rfl⟩, (fun _ h => absurd h List.not_mem_nil)⟩)⟩
set_option maxRecDepth 100000 in
set_option maxHeartbeats 4000000 in
theorem lk_36 : en_FG "EvenSteps$Cut" 15 2 [(1, 0)] := ⟨"EvenSteps$Cut", (List.forall_mem_cons.mpr ⟨⟨"EvenSteps$Cut", en_T1, 11, rfl, by decide, wd_479, Or.inl rfl⟩, (fun _ h => absurd h List.not_mem_nil)⟩)⟩
set_option maxRecDepth 100000 in
set_option maxHeartbeats 4000000 in
theorem lk_37 : en_FG "EvenSteps$Cut" 48 9 [(1, 0)] := ⟨"EvenSteps$Cut", (List.forall_mem_cons.mpr ⟨⟨"EvenSteps$Cut", en_T1, 11, rfl, by decide, wd_486, Or.inl rfl⟩, (fun _ h => absurd h List.not_mem_nil)⟩)⟩
set_option maxRecDepth 100000 in
set_option maxHeartbeats 4000000 in
theorem me_9 : en_ME 9 ⟨"EvenSteps$Cut", "stepAt", "(I)I"⟩ prog_3_method_3_code 2 (some .int) := ⟨⟨p_X1_stepAt, rfl⟩, wd_387, wd_77, ⟨by decide, by decide⟩, by decide⟩
set_option maxRecDepth 100000 in
set_option maxHeartbeats 4000000 in
theorem np_8 : en_np "(I)I" 1 := by unfold en_np; decide +kernel
set_option maxRecDepth 100000 in
set_option maxHeartbeats 4000000 in
theorem me_17 : en_ME 17 ⟨"EvenSteps$Even", "stepAt", "(I)I"⟩ prog_4_method_3_code 2 (some .int) := ⟨⟨p_X2_stepAt, rfl⟩, wd_395, wd_75, ⟨by decide, by decide⟩, by decide⟩
set_option maxRecDepth 100000 in
set_option maxHeartbeats 4000000 in
theorem me_57 : en_ME 57 ⟨"EvenSteps$Told", "stepAt", "(I)I"⟩ prog_11_method_3_code 2 (some .int) := ⟨⟨p_X9_stepAt, rfl⟩, wd_401, wd_74, ⟨by decide, by decide⟩, by decide⟩
set_option maxRecDepth 100000 in
set_option maxHeartbeats 4000000 in
theorem lk_38 : en_LV "EvenSteps$Cut" 51 1 [(1, 9), (2, 17), (3, 17), (4, 17), (8, 57)] := (List.forall_mem_cons.mpr ⟨⟨"EvenSteps$Cut", en_T1, 11, ⟨"EvenSteps$Row", "stepAt", "(I)I"⟩, ⟨"EvenSteps$Cut", "stepAt", "(I)I"⟩, prog_3_method_3_code, 2, (some .int), "EvenSteps$Row", rfl, me_9, np_8, wd_393, wd_385, wd_386, Or.inr ⟨wd_384, ⟨by decide, by decide⟩, Or.inr (Or.inr (by decide +kernel))⟩⟩, (List.forall_mem_cons.mpr ⟨⟨"EvenSteps$Even", en_T2, 6, ⟨"EvenSteps$Row", "stepAt", "(I)I"⟩, ⟨"EvenSteps$Even", "stepAt", "(I)I"⟩, prog_4_method_3_code, 2, (some .int), "EvenSteps$Row", rfl, me_17, np_8, wd_393, wd_406, wd_394, Or.inr ⟨wd_384, ⟨by decide, by decide⟩, Or.inr (Or.inr (by decide +kernel))⟩⟩, (List.forall_mem_cons.mpr ⟨⟨"EvenSteps$Points", en_T3, 6, ⟨"EvenSteps$Row", "stepAt", "(I)I"⟩, ⟨"EvenSteps$Even", "stepAt", "(I)I"⟩, prog_4_method_3_code, 2, (some .int), "EvenSteps$Row", rfl, me_17, np_8, wd_393, wd_407, wd_394, Or.inr ⟨wd_384, ⟨by decide, by decide⟩, Or.inr (Or.inr (by decide +kernel))⟩⟩, (List.forall_mem_cons.mpr ⟨⟨"EvenSteps$Ring", en_T4, 6, ⟨"EvenSteps$Row", "stepAt", "(I)I"⟩, ⟨"EvenSteps$Even", "stepAt", "(I)I"⟩, prog_4_method_3_code, 2, (some .int), "EvenSteps$Row", rfl, me_17, np_8, wd_393, wd_408, wd_394, Or.inr ⟨wd_384, ⟨by decide, by decide⟩, Or.inr (Or.inr (by decide +kernel))⟩⟩, (List.forall_mem_cons.mpr ⟨⟨"EvenSteps$Told", en_T8, 3, ⟨"EvenSteps$Row", "stepAt", "(I)I"⟩, ⟨"EvenSteps$Told", "stepAt", "(I)I"⟩, prog_11_method_3_code, 2, (some .int), "EvenSteps$Row", rfl, me_57, np_8, wd_393, wd_409, wd_400, Or.inr ⟨wd_384, ⟨by decide, by decide⟩, Or.inr (Or.inr (by decide +kernel))⟩⟩, (fun _ h => absurd h List.not_mem_nil)⟩)⟩)⟩)⟩)⟩)
set_option maxRecDepth 100000 in
set_option maxHeartbeats 4000000 in
theorem lk_39 : en_FP "EvenSteps$Cut" false 48 9 0 [(1, 0)] := ⟨"EvenSteps$Cut", (List.forall_mem_cons.mpr ⟨⟨"EvenSteps$Cut", en_T1, 11, .int, rfl, by decide, wd_486, Or.inl rfl, by decide +kernel, rfl, Or.inl rfl⟩, (fun _ h => absurd h List.not_mem_nil)⟩)⟩
set_option maxRecDepth 100000 in
set_option maxHeartbeats 4000000 in
theorem lk_40 : en_FG "EvenSteps$Cut" 19 3 [(1, 0)] := ⟨"EvenSteps$Cut", (List.forall_mem_cons.mpr ⟨⟨"EvenSteps$Cut", en_T1, 11, rfl, by decide, wd_480, Or.inl rfl⟩, (fun _ h => absurd h List.not_mem_nil)⟩)⟩
set_option maxRecDepth 100000 in
set_option maxHeartbeats 4000000 in
theorem lk_41 : en_FG "EvenSteps$Cut" 23 4 [(1, 0)] := ⟨"EvenSteps$Cut", (List.forall_mem_cons.mpr ⟨⟨"EvenSteps$Cut", en_T1, 11, rfl, by decide, wd_481, Or.inl rfl⟩, (fun _ h => absurd h List.not_mem_nil)⟩)⟩
set_option maxRecDepth 100000 in
set_option maxHeartbeats 4000000 in
theorem me_12 : en_ME 12 ⟨"EvenSteps$Cut", "put", "(II)V"⟩ prog_3_method_6_code 4 none := ⟨⟨p_X1_put, rfl⟩, wd_405, wd_77, ⟨by decide, by decide⟩, by decide⟩
set_option maxRecDepth 100000 in
set_option maxHeartbeats 4000000 in
theorem lk_42 : en_LV "EvenSteps$Cut" 55 2 [(1, 12)] := (List.forall_mem_cons.mpr ⟨⟨"EvenSteps$Cut", en_T1, 11, ⟨"EvenSteps$Cut", "put", "(II)V"⟩, ⟨"EvenSteps$Cut", "put", "(II)V"⟩, prog_3_method_6_code, 4, none, "EvenSteps$Cut", rfl, me_12, np_2, wd_402, wd_4, wd_404, Or.inl ⟨rfl, rfl⟩⟩, (fun _ h => absurd h List.not_mem_nil)⟩)
set_option maxRecDepth 100000 in
set_option maxHeartbeats 4000000 in
theorem lk_43 : en_FG "EvenSteps$Cut" 26 5 [(1, 0)] := ⟨"EvenSteps$Cut", (List.forall_mem_cons.mpr ⟨⟨"EvenSteps$Cut", en_T1, 11, rfl, by decide, wd_482, Or.inl rfl⟩, (fun _ h => absurd h List.not_mem_nil)⟩)⟩
set_option maxRecDepth 100000 in
set_option maxHeartbeats 4000000 in
theorem lk_44 : en_FG "EvenSteps$Cut" 29 6 [(1, 0)] := ⟨"EvenSteps$Cut", (List.forall_mem_cons.mpr ⟨⟨"EvenSteps$Cut", en_T1, 11, rfl, by decide, wd_483, Or.inl rfl⟩, (fun _ h => absurd h List.not_mem_nil)⟩)⟩
set_option maxRecDepth 100000 in
set_option maxHeartbeats 4000000 in
theorem lk_45 : en_FP "EvenSteps$Cut" false 44 10 3 [(1, 0)] := ⟨"EvenSteps$Cut", (List.forall_mem_cons.mpr ⟨⟨"EvenSteps$Cut", en_T1, 11, .boolean, rfl, by decide, wd_487, Or.inl rfl, by decide +kernel, rfl, Or.inl rfl⟩, (fun _ h => absurd h List.not_mem_nil)⟩)⟩
set_option maxRecDepth 100000 in
set_option maxHeartbeats 4000000 in
theorem lk_46 : en_FP "EvenSteps$Cut" false 35 8 0 [(1, 0)] := ⟨"EvenSteps$Cut", (List.forall_mem_cons.mpr ⟨⟨"EvenSteps$Cut", en_T1, 11, .int, rfl, by decide, wd_485, Or.inl rfl, by decide +kernel, rfl, Or.inl rfl⟩, (fun _ h => absurd h List.not_mem_nil)⟩)⟩
set_option maxRecDepth 100000 in
set_option maxHeartbeats 4000000 in
theorem me_60 : en_ME 60 ⟨"EvenSteps$Trace", "add", "(I)V"⟩ prog_12_method_2_code 2 none := ⟨⟨p_X10_add, rfl⟩, wd_826, wd_64, ⟨by decide, by decide⟩, by decide⟩
set_option maxRecDepth 100000 in
set_option maxHeartbeats 4000000 in
theorem lk_47 : en_LV "EvenSteps$Cut" 59 1 [(9, 60)] := (List.forall_mem_cons.mpr ⟨⟨"EvenSteps$Trace", en_T9, 2, ⟨"EvenSteps$Trace", "add", "(I)V"⟩, ⟨"EvenSteps$Trace", "add", "(I)V"⟩, prog_12_method_2_code, 2, none, "EvenSteps$Trace", rfl, me_60, np_1, wd_823, wd_825, wd_824, Or.inl ⟨rfl, rfl⟩⟩, (fun _ h => absurd h List.not_mem_nil)⟩)
set_option maxRecDepth 100000 in
set_option maxHeartbeats 4000000 in
theorem lk_48 : en_FG "EvenSteps$Cut" 64 1 [(1, 0)] := ⟨"EvenSteps$Cut", (List.forall_mem_cons.mpr ⟨⟨"EvenSteps$Cut", en_T1, 11, rfl, by decide, wd_368, Or.inr wd_369⟩, (fun _ h => absurd h List.not_mem_nil)⟩)⟩
set_option maxRecDepth 100000 in
set_option maxHeartbeats 4000000 in
theorem me_30 : en_ME 30 ⟨"EvenSteps$Row", "doGo", "(ILEvenSteps$Trace;)I"⟩ prog_7_method_5_code 3 (some .int) := ⟨⟨p_X5_doGo, rfl⟩, wd_836, wd_73, ⟨by decide, by decide⟩, by decide⟩
set_option maxRecDepth 100000 in
set_option maxHeartbeats 4000000 in
theorem np_9 : en_np "(ILEvenSteps$Trace;)I" 2 := by unfold en_np; decide +kernel
set_option maxRecDepth 100000 in
set_option maxHeartbeats 4000000 in
theorem lk_49 : en_LU "EvenSteps$Cut" 67 2 [(1, 30)] := ⟨⟨"EvenSteps$Row", "doGo", "(ILEvenSteps$Trace;)I"⟩, "EvenSteps$Row", prog_7_method_5_code, 3, (some .int), (List.forall_mem_cons.mpr ⟨⟨me_30, _, rfl⟩, (fun _ h => absurd h List.not_mem_nil)⟩), np_9, wd_818, by decide, wd_827, wd_819, wd_508, Or.inl rfl⟩
set_option maxRecDepth 100000 in
set_option maxHeartbeats 4000000 in
theorem me_32 : en_ME 32 ⟨"EvenSteps$Row", "doGrow", "(ILEvenSteps$Trace;)I"⟩ prog_7_method_7_code 3 (some .int) := ⟨⟨p_X5_doGrow, rfl⟩, wd_876, wd_73, ⟨by decide, by decide⟩, by decide⟩
set_option maxRecDepth 100000 in
set_option maxHeartbeats 4000000 in
theorem lk_50 : en_LU "EvenSteps$Cut" 71 2 [(1, 32)] := ⟨⟨"EvenSteps$Row", "doGrow", "(ILEvenSteps$Trace;)I"⟩, "EvenSteps$Row", prog_7_method_7_code, 3, (some .int), (List.forall_mem_cons.mpr ⟨⟨me_32, _, rfl⟩, (fun _ h => absurd h List.not_mem_nil)⟩), np_9, wd_860, by decide, wd_865, wd_861, wd_508, Or.inl rfl⟩
set_option maxRecDepth 100000 in
set_option maxHeartbeats 4000000 in
theorem lk_51 : en_LI "EvenSteps$Even" 3 1 [(1, 29), (2, 29), (3, 29), (4, 29), (8, 29)] := ⟨⟨"EvenSteps$Row", "<init>", "(I)V"⟩, prog_7_method_1_code, 2, (List.forall_mem_cons.mpr ⟨me_29, (List.forall_mem_cons.mpr ⟨me_29, (List.forall_mem_cons.mpr ⟨me_29, (List.forall_mem_cons.mpr ⟨me_29, (List.forall_mem_cons.mpr ⟨me_29, (fun _ h => absurd h List.not_mem_nil)⟩)⟩)⟩)⟩)⟩), np_1, wd_361, rfl, wd_424⟩
set_option maxRecDepth 100000 in
set_option maxHeartbeats 4000000 in
theorem lk_52 : en_FP "EvenSteps$Even" true 9 2 2 [(2, 0), (3, 0), (4, 0)] := ⟨"EvenSteps$Even", (List.forall_mem_cons.mpr ⟨⟨"EvenSteps$Even", en_T2, 6, .object "EvenSteps$Slope", rfl, by decide, wd_425, Or.inl rfl, by decide +kernel, rfl, Or.inr ⟨rfl, rfl, rfl⟩⟩, (List.forall_mem_cons.mpr ⟨⟨"EvenSteps$Points", en_T3, 6, .object "EvenSteps$Slope", rfl, by decide, wd_425, Or.inl rfl, by decide +kernel, rfl, Or.inr ⟨rfl, rfl, rfl⟩⟩, (List.forall_mem_cons.mpr ⟨⟨"EvenSteps$Ring", en_T4, 6, .object "EvenSteps$Slope", rfl, by decide, wd_425, Or.inl rfl, by decide +kernel, rfl, Or.inr ⟨rfl, rfl, rfl⟩⟩, (fun _ h => absurd h List.not_mem_nil)⟩)⟩)⟩)⟩
set_option maxRecDepth 100000 in
set_option maxHeartbeats 4000000 in
theorem lk_53 : en_FP "EvenSteps$Even" true 15 3 0 [(2, 0), (3, 0), (4, 0)] := ⟨"EvenSteps$Even", (List.forall_mem_cons.mpr ⟨⟨"EvenSteps$Even", en_T2, 6, .int, rfl, by decide, wd_428, Or.inl rfl, by decide +kernel, rfl, Or.inr ⟨rfl, rfl, rfl⟩⟩, (List.forall_mem_cons.mpr ⟨⟨"EvenSteps$Points", en_T3, 6, .int, rfl, by decide, wd_428, Or.inl rfl, by decide +kernel, rfl, Or.inr ⟨rfl, rfl, rfl⟩⟩, (List.forall_mem_cons.mpr ⟨⟨"EvenSteps$Ring", en_T4, 6, .int, rfl, by decide, wd_428, Or.inl rfl, by decide +kernel, rfl, Or.inr ⟨rfl, rfl, rfl⟩⟩, (fun _ h => absurd h List.not_mem_nil)⟩)⟩)⟩)⟩
set_option maxRecDepth 100000 in
set_option maxHeartbeats 4000000 in
theorem lk_54 : en_FP "EvenSteps$Even" true 19 4 0 [(2, 0), (3, 0), (4, 0)] := ⟨"EvenSteps$Even", (List.forall_mem_cons.mpr ⟨⟨"EvenSteps$Even", en_T2, 6, .int, rfl, by decide, wd_430, Or.inl rfl, by decide +kernel, rfl, Or.inr ⟨rfl, rfl, rfl⟩⟩, (List.forall_mem_cons.mpr ⟨⟨"EvenSteps$Points", en_T3, 6, .int, rfl, by decide, wd_430, Or.inl rfl, by decide +kernel, rfl, Or.inr ⟨rfl, rfl, rfl⟩⟩, (List.forall_mem_cons.mpr ⟨⟨"EvenSteps$Ring", en_T4, 6, .int, rfl, by decide, wd_430, Or.inl rfl, by decide +kernel, rfl, Or.inr ⟨rfl, rfl, rfl⟩⟩, (fun _ h => absurd h List.not_mem_nil)⟩)⟩)⟩)⟩
set_option maxRecDepth 100000 in
set_option maxHeartbeats 4000000 in
theorem lk_55 : en_FP "EvenSteps$Even" true 22 5 0 [(2, 0), (3, 0), (4, 0)] := ⟨"EvenSteps$Even", (List.forall_mem_cons.mpr ⟨⟨"EvenSteps$Even", en_T2, 6, .int, rfl, by decide, wd_431, Or.inl rfl, by decide +kernel, rfl, Or.inr ⟨rfl, rfl, rfl⟩⟩, (List.forall_mem_cons.mpr ⟨⟨"EvenSteps$Points", en_T3, 6, .int, rfl, by decide, wd_431, Or.inl rfl, by decide +kernel, rfl, Or.inr ⟨rfl, rfl, rfl⟩⟩, (List.forall_mem_cons.mpr ⟨⟨"EvenSteps$Ring", en_T4, 6, .int, rfl, by decide, wd_431, Or.inl rfl, by decide +kernel, rfl, Or.inr ⟨rfl, rfl, rfl⟩⟩, (fun _ h => absurd h List.not_mem_nil)⟩)⟩)⟩)⟩
set_option maxRecDepth 100000 in
set_option maxHeartbeats 4000000 in
theorem lk_56 : en_FG "EvenSteps$Even" 9 2 [(2, 0), (3, 0), (4, 0)] := ⟨"EvenSteps$Even", (List.forall_mem_cons.mpr ⟨⟨"EvenSteps$Even", en_T2, 6, rfl, by decide, wd_425, Or.inl rfl⟩, (List.forall_mem_cons.mpr ⟨⟨"EvenSteps$Points", en_T3, 6, rfl, by decide, wd_425, Or.inl rfl⟩, (List.forall_mem_cons.mpr ⟨⟨"EvenSteps$Ring", en_T4, 6, rfl, by decide, wd_425, Or.inl rfl⟩, (fun _ h => absurd h List.not_mem_nil)⟩)⟩)⟩)⟩
set_option maxRecDepth 100000 in
set_option maxHeartbeats 4000000 in
theorem lk_57 : en_FG "EvenSteps$Even" 19 4 [(2, 0), (3, 0), (4, 0)] := ⟨"EvenSteps$Even", (List.forall_mem_cons.mpr ⟨⟨"EvenSteps$Even", en_T2, 6, rfl, by decide, wd_430, Or.inl rfl⟩, (List.forall_mem_cons.mpr ⟨⟨"EvenSteps$Points", en_T3, 6, rfl, by decide, wd_430, Or.inl rfl⟩, (List.forall_mem_cons.mpr ⟨⟨"EvenSteps$Ring", en_T4, 6, rfl, by decide, wd_430, Or.inl rfl⟩, (fun _ h => absurd h List.not_mem_nil)⟩)⟩)⟩)⟩
set_option maxRecDepth 100000 in
set_option maxHeartbeats 4000000 in
theorem lk_58 : en_FG "EvenSteps$Even" 22 5 [(2, 0), (3, 0), (4, 0)] := ⟨"EvenSteps$Even", (List.forall_mem_cons.mpr ⟨⟨"EvenSteps$Even", en_T2, 6, rfl, by decide, wd_431, Or.inl rfl⟩, (List.forall_mem_cons.mpr ⟨⟨"EvenSteps$Points", en_T3, 6, rfl, by decide, wd_431, Or.inl rfl⟩, (List.forall_mem_cons.mpr ⟨⟨"EvenSteps$Ring", en_T4, 6, rfl, by decide, wd_431, Or.inl rfl⟩, (fun _ h => absurd h List.not_mem_nil)⟩)⟩)⟩)⟩
set_option maxRecDepth 100000 in
set_option maxHeartbeats 4000000 in
theorem lk_59 : en_LV "EvenSteps$Even" 25 3 [(6, 44)] := (List.forall_mem_cons.mpr ⟨⟨"EvenSteps$Slope", en_T6, 8, ⟨"EvenSteps$Slope", "wholeOf", "(JJJ)J"⟩, ⟨"EvenSteps$Slope", "wholeOf", "(JJJ)J"⟩, prog_9_method_6_code, 15, (some .long), "EvenSteps$Slope", rfl, me_44, np_0, wd_396, wd_398, wd_397, Or.inl ⟨rfl, rfl⟩⟩, (fun _ h => absurd h List.not_mem_nil)⟩)
set_option maxRecDepth 100000 in
set_option maxHeartbeats 4000000 in
theorem lk_60 : en_LV "EvenSteps$Even" 31 1 [(9, 60)] := (List.forall_mem_cons.mpr ⟨⟨"EvenSteps$Trace", en_T9, 2, ⟨"EvenSteps$Trace", "add", "(I)V"⟩, ⟨"EvenSteps$Trace", "add", "(I)V"⟩, prog_12_method_2_code, 2, none, "EvenSteps$Trace", rfl, me_60, np_1, wd_831, wd_825, wd_824, Or.inl ⟨rfl, rfl⟩⟩, (fun _ h => absurd h List.not_mem_nil)⟩)
set_option maxRecDepth 100000 in
set_option maxHeartbeats 4000000 in
theorem lk_61 : en_LU "EvenSteps$Even" 36 2 [(2, 30), (3, 30), (4, 30)] := ⟨⟨"EvenSteps$Row", "doGo", "(ILEvenSteps$Trace;)I"⟩, "EvenSteps$Row", prog_7_method_5_code, 3, (some .int), (List.forall_mem_cons.mpr ⟨⟨me_30, _, rfl⟩, (List.forall_mem_cons.mpr ⟨⟨me_30, _, rfl⟩, (List.forall_mem_cons.mpr ⟨⟨me_30, _, rfl⟩, (fun _ h => absurd h List.not_mem_nil)⟩)⟩)⟩), np_9, wd_818, by decide, wd_832, wd_819, wd_442, Or.inl rfl⟩
set_option maxRecDepth 100000 in
set_option maxHeartbeats 4000000 in
theorem lk_62 : en_LU "EvenSteps$Even" 40 2 [(2, 32), (3, 32), (4, 32)] := ⟨⟨"EvenSteps$Row", "doGrow", "(ILEvenSteps$Trace;)I"⟩, "EvenSteps$Row", prog_7_method_7_code, 3, (some .int), (List.forall_mem_cons.mpr ⟨⟨me_32, _, rfl⟩, (List.forall_mem_cons.mpr ⟨⟨me_32, _, rfl⟩, (List.forall_mem_cons.mpr ⟨⟨me_32, _, rfl⟩, (fun _ h => absurd h List.not_mem_nil)⟩)⟩)⟩), np_9, wd_860, by decide, wd_869, wd_861, wd_442, Or.inl rfl⟩
set_option maxRecDepth 100000 in
set_option maxHeartbeats 4000000 in
theorem me_15 : en_ME 15 ⟨"EvenSteps$Even", "<init>", "(ILEvenSteps$Slope;III)V"⟩ prog_4_method_1_code 6 none := ⟨⟨p_X2_init, rfl⟩, wd_423, wd_75, ⟨by decide, by decide⟩, by decide⟩
set_option maxRecDepth 100000 in
set_option maxHeartbeats 4000000 in
theorem np_10 : en_np "(ILEvenSteps$Slope;III)V" 5 := by unfold en_np; decide +kernel
set_option maxRecDepth 100000 in
set_option maxHeartbeats 4000000 in
theorem lk_63 : en_LI "EvenSteps$Points" 1 5 [(2, 15), (3, 15), (4, 15)] := ⟨⟨"EvenSteps$Even", "<init>", "(ILEvenSteps$Slope;III)V"⟩, prog_4_method_1_code, 6, (List.forall_mem_cons.mpr ⟨me_15, (List.forall_mem_cons.mpr ⟨me_15, (List.forall_mem_cons.mpr ⟨me_15, (fun _ h => absurd h List.not_mem_nil)⟩)⟩)⟩), np_10, wd_422, rfl, wd_519⟩
set_option maxRecDepth 100000 in
set_option maxHeartbeats 4000000 in
theorem lk_64 : en_LV "EvenSteps$Points" 7 1 [(9, 60)] := (List.forall_mem_cons.mpr ⟨⟨"EvenSteps$Trace", en_T9, 2, ⟨"EvenSteps$Trace", "add", "(I)V"⟩, ⟨"EvenSteps$Trace", "add", "(I)V"⟩, prog_12_method_2_code, 2, none, "EvenSteps$Trace", rfl, me_60, np_1, wd_846, wd_825, wd_824, Or.inl ⟨rfl, rfl⟩⟩, (fun _ h => absurd h List.not_mem_nil)⟩)
set_option maxRecDepth 100000 in
set_option maxHeartbeats 4000000 in
theorem me_20 : en_ME 20 ⟨"EvenSteps$Even", "doGrow", "(ILEvenSteps$Trace;)I"⟩ prog_4_method_6_code 3 (some .int) := ⟨⟨p_X2_doGrow, rfl⟩, wd_868, wd_75, ⟨by decide, by decide⟩, by decide⟩
set_option maxRecDepth 100000 in
set_option maxHeartbeats 4000000 in
theorem lk_65 : en_LU "EvenSteps$Points" 13 2 [(3, 20)] := ⟨⟨"EvenSteps$Even", "doGrow", "(ILEvenSteps$Trace;)I"⟩, "EvenSteps$Even", prog_4_method_6_code, 3, (some .int), (List.forall_mem_cons.mpr ⟨⟨me_20, _, rfl⟩, (fun _ h => absurd h List.not_mem_nil)⟩), np_9, wd_867, by decide, wd_873, wd_1360, wd_526, Or.inl rfl⟩
set_option maxRecDepth 100000 in
set_option maxHeartbeats 4000000 in
theorem me_31 : en_ME 31 ⟨"EvenSteps$Row", "doGap", "(ILEvenSteps$Trace;)I"⟩ prog_7_method_6_code 3 (some .int) := ⟨⟨p_X5_doGap, rfl⟩, wd_857, wd_73, ⟨by decide, by decide⟩, by decide⟩
set_option maxRecDepth 100000 in
set_option maxHeartbeats 4000000 in
theorem lk_66 : en_LU "EvenSteps$Points" 17 2 [(3, 31)] := ⟨⟨"EvenSteps$Even", "doGap", "(ILEvenSteps$Trace;)I"⟩, "EvenSteps$Row", prog_7_method_6_code, 3, (some .int), (List.forall_mem_cons.mpr ⟨⟨me_31, _, rfl⟩, (fun _ h => absurd h List.not_mem_nil)⟩), np_9, wd_839, by decide, wd_847, wd_848, wd_526, Or.inr wd_442⟩
set_option maxRecDepth 100000 in
set_option maxHeartbeats 4000000 in
theorem me_19 : en_ME 19 ⟨"EvenSteps$Even", "doGo", "(ILEvenSteps$Trace;)I"⟩ prog_4_method_5_code 3 (some .int) := ⟨⟨p_X2_doGo, rfl⟩, wd_830, wd_75, ⟨by decide, by decide⟩, by decide⟩
set_option maxRecDepth 100000 in
set_option maxHeartbeats 4000000 in
theorem lk_67 : en_LU "EvenSteps$Points" 20 2 [(3, 19)] := ⟨⟨"EvenSteps$Even", "doGo", "(ILEvenSteps$Trace;)I"⟩, "EvenSteps$Even", prog_4_method_5_code, 3, (some .int), (List.forall_mem_cons.mpr ⟨⟨me_19, _, rfl⟩, (fun _ h => absurd h List.not_mem_nil)⟩), np_9, wd_829, by decide, wd_850, wd_1359, wd_526, Or.inl rfl⟩
set_option maxRecDepth 100000 in
set_option maxHeartbeats 4000000 in
theorem me_39 : en_ME 39 ⟨"EvenSteps$Slope", "<init>", "(JJJJ)V"⟩ prog_9_method_1_code 13 none := ⟨⟨p_X7_init, rfl⟩, wd_273, wd_71, ⟨by decide, by decide⟩, by decide⟩
set_option maxRecDepth 100000 in
set_option maxHeartbeats 4000000 in
theorem np_11 : en_np "(JJJJ)V" 4 := by unfold en_np; decide +kernel
set_option maxRecDepth 100000 in
set_option maxHeartbeats 4000000 in
theorem lk_70 : en_LI "EvenSteps$Ring" 7 4 [(6, 39)] := ⟨⟨"EvenSteps$Slope", "<init>", "(JJJJ)V"⟩, prog_9_method_1_code, 13, (List.forall_mem_cons.mpr ⟨me_39, (fun _ h => absurd h List.not_mem_nil)⟩), np_11, wd_272, rfl, wd_454⟩
set_option maxRecDepth 100000 in
set_option maxHeartbeats 4000000 in
theorem lk_71 : en_LI "EvenSteps$Ring" 11 5 [(2, 15), (3, 15), (4, 15)] := ⟨⟨"EvenSteps$Even", "<init>", "(ILEvenSteps$Slope;III)V"⟩, prog_4_method_1_code, 6, (List.forall_mem_cons.mpr ⟨me_15, (List.forall_mem_cons.mpr ⟨me_15, (List.forall_mem_cons.mpr ⟨me_15, (fun _ h => absurd h List.not_mem_nil)⟩)⟩)⟩), np_10, wd_422, rfl, wd_455⟩
set_option maxRecDepth 100000 in
set_option maxHeartbeats 4000000 in
theorem lk_72 : en_LV "EvenSteps$Ring" 16 1 [(9, 60)] := (List.forall_mem_cons.mpr ⟨⟨"EvenSteps$Trace", en_T9, 2, ⟨"EvenSteps$Trace", "add", "(I)V"⟩, ⟨"EvenSteps$Trace", "add", "(I)V"⟩, prog_12_method_2_code, 2, none, "EvenSteps$Trace", rfl, me_60, np_1, wd_854, wd_825, wd_824, Or.inl ⟨rfl, rfl⟩⟩, (fun _ h => absurd h List.not_mem_nil)⟩)
set_option maxRecDepth 100000 in
set_option maxHeartbeats 4000000 in
theorem lk_73 : en_LU "EvenSteps$Ring" 22 2 [(4, 31)] := ⟨⟨"EvenSteps$Even", "doGap", "(ILEvenSteps$Trace;)I"⟩, "EvenSteps$Row", prog_7_method_6_code, 3, (some .int), (List.forall_mem_cons.mpr ⟨⟨me_31, _, rfl⟩, (fun _ h => absurd h List.not_mem_nil)⟩), np_9, wd_839, by decide, wd_855, wd_848, wd_462, Or.inr wd_442⟩
set_option maxRecDepth 100000 in
set_option maxHeartbeats 4000000 in
theorem me_33 : en_ME 33 ⟨"EvenSteps$Row", "doTell", "(ILEvenSteps$Trace;)I"⟩ prog_7_method_8_code 3 (some .int) := ⟨⟨p_X5_doTell, rfl⟩, wd_894, wd_73, ⟨by decide, by decide⟩, by decide⟩
set_option maxRecDepth 100000 in
set_option maxHeartbeats 4000000 in
theorem lk_74 : en_LU "EvenSteps$Ring" 26 2 [(4, 33)] := ⟨⟨"EvenSteps$Even", "doTell", "(ILEvenSteps$Trace;)I"⟩, "EvenSteps$Row", prog_7_method_8_code, 3, (some .int), (List.forall_mem_cons.mpr ⟨⟨me_33, _, rfl⟩, (fun _ h => absurd h List.not_mem_nil)⟩), np_9, wd_878, by decide, wd_886, wd_887, wd_462, Or.inr wd_442⟩
set_option maxRecDepth 100000 in
set_option maxHeartbeats 4000000 in
theorem lk_75 : en_LV "EvenSteps$Ring" 29 2 [(4, 20)] := (List.forall_mem_cons.mpr ⟨⟨"EvenSteps$Ring", en_T4, 6, ⟨"EvenSteps$Ring", "doGrow", "(ILEvenSteps$Trace;)I"⟩, ⟨"EvenSteps$Even", "doGrow", "(ILEvenSteps$Trace;)I"⟩, prog_4_method_6_code, 3, (some .int), "EvenSteps$Even", rfl, me_20, np_9, wd_889, wd_892, wd_867, Or.inr ⟨wd_890, ⟨by decide, by decide⟩, Or.inl rfl⟩⟩, (fun _ h => absurd h List.not_mem_nil)⟩)
set_option maxRecDepth 100000 in
set_option maxHeartbeats 4000000 in
theorem lk_77 : en_FP "EvenSteps$Row" true 7 0 0 [(1, 0), (2, 0), (3, 0), (4, 0), (8, 0)] := ⟨"EvenSteps$Row", (List.forall_mem_cons.mpr ⟨⟨"EvenSteps$Cut", en_T1, 11, .int, rfl, by decide, wd_365, Or.inl rfl, by decide +kernel, rfl, Or.inr ⟨rfl, rfl, rfl⟩⟩, (List.forall_mem_cons.mpr ⟨⟨"EvenSteps$Even", en_T2, 6, .int, rfl, by decide, wd_365, Or.inl rfl, by decide +kernel, rfl, Or.inr ⟨rfl, rfl, rfl⟩⟩, (List.forall_mem_cons.mpr ⟨⟨"EvenSteps$Points", en_T3, 6, .int, rfl, by decide, wd_365, Or.inl rfl, by decide +kernel, rfl, Or.inr ⟨rfl, rfl, rfl⟩⟩, (List.forall_mem_cons.mpr ⟨⟨"EvenSteps$Ring", en_T4, 6, .int, rfl, by decide, wd_365, Or.inl rfl, by decide +kernel, rfl, Or.inr ⟨rfl, rfl, rfl⟩⟩, (List.forall_mem_cons.mpr ⟨⟨"EvenSteps$Told", en_T8, 3, .int, rfl, by decide, wd_365, Or.inl rfl, by decide +kernel, rfl, Or.inr ⟨rfl, rfl, rfl⟩⟩, (fun _ h => absurd h List.not_mem_nil)⟩)⟩)⟩)⟩)⟩)⟩
set_option maxRecDepth 100000 in
set_option maxHeartbeats 4000000 in
theorem lk_78 : en_LV "EvenSteps$Row" 13 1 [(9, 60)] := (List.forall_mem_cons.mpr ⟨⟨"EvenSteps$Trace", en_T9, 2, ⟨"EvenSteps$Trace", "add", "(I)V"⟩, ⟨"EvenSteps$Trace", "add", "(I)V"⟩, prog_12_method_2_code, 2, none, "EvenSteps$Trace", rfl, me_60, np_1, wd_837, wd_825, wd_824, Or.inl ⟨rfl, rfl⟩⟩, (fun _ h => absurd h List.not_mem_nil)⟩)
set_option maxRecDepth 100000 in
set_option maxHeartbeats 4000000 in
theorem lk_79 : en_FG "EvenSteps$Row" 19 1 [(1, 0), (2, 0), (3, 0), (4, 0), (8, 0)] := ⟨"EvenSteps$Row", (List.forall_mem_cons.mpr ⟨⟨"EvenSteps$Cut", en_T1, 11, rfl, by decide, wd_367, Or.inl rfl⟩, (List.forall_mem_cons.mpr ⟨⟨"EvenSteps$Even", en_T2, 6, rfl, by decide, wd_367, Or.inl rfl⟩, (List.forall_mem_cons.mpr ⟨⟨"EvenSteps$Points", en_T3, 6, rfl, by decide, wd_367, Or.inl rfl⟩, (List.forall_mem_cons.mpr ⟨⟨"EvenSteps$Ring", en_T4, 6, rfl, by decide, wd_367, Or.inl rfl⟩, (List.forall_mem_cons.mpr ⟨⟨"EvenSteps$Told", en_T8, 3, rfl, by decide, wd_367, Or.inl rfl⟩, (fun _ h => absurd h List.not_mem_nil)⟩)⟩)⟩)⟩)⟩)⟩
set_option maxRecDepth 100000 in
set_option maxHeartbeats 4000000 in
theorem me_13 : en_ME 13 ⟨"EvenSteps$Cut", "doGo", "(ILEvenSteps$Trace;)I"⟩ prog_3_method_7_code 3 (some .int) := ⟨⟨p_X1_doGo, rfl⟩, wd_822, wd_77, ⟨by decide, by decide⟩, by decide⟩
set_option maxRecDepth 100000 in
set_option maxHeartbeats 4000000 in
theorem lk_80 : en_LV "EvenSteps$Row" 22 2 [(1, 13), (2, 19), (3, 19), (4, 19), (8, 30)] := (List.forall_mem_cons.mpr ⟨⟨"EvenSteps$Cut", en_T1, 11, ⟨"EvenSteps$Row", "doGo", "(ILEvenSteps$Trace;)I"⟩, ⟨"EvenSteps$Cut", "doGo", "(ILEvenSteps$Trace;)I"⟩, prog_3_method_7_code, 3, (some .int), "EvenSteps$Row", rfl, me_13, np_9, wd_858, wd_820, wd_821, Or.inr ⟨wd_819, ⟨by decide, by decide⟩, Or.inr (Or.inl ⟨_, _, _, wd_836, wd_818⟩)⟩⟩, (List.forall_mem_cons.mpr ⟨⟨"EvenSteps$Even", en_T2, 6, ⟨"EvenSteps$Row", "doGo", "(ILEvenSteps$Trace;)I"⟩, ⟨"EvenSteps$Even", "doGo", "(ILEvenSteps$Trace;)I"⟩, prog_4_method_5_code, 3, (some .int), "EvenSteps$Row", rfl, me_19, np_9, wd_858, wd_828, wd_829, Or.inr ⟨wd_819, ⟨by decide, by decide⟩, Or.inr (Or.inl ⟨_, _, _, wd_836, wd_818⟩)⟩⟩, (List.forall_mem_cons.mpr ⟨⟨"EvenSteps$Points", en_T3, 6, ⟨"EvenSteps$Row", "doGo", "(ILEvenSteps$Trace;)I"⟩, ⟨"EvenSteps$Even", "doGo", "(ILEvenSteps$Trace;)I"⟩, prog_4_method_5_code, 3, (some .int), "EvenSteps$Row", rfl, me_19, np_9, wd_858, wd_833, wd_829, Or.inr ⟨wd_819, ⟨by decide, by decide⟩, Or.inr (Or.inl ⟨_, _, _, wd_836, wd_818⟩)⟩⟩, (List.forall_mem_cons.mpr ⟨⟨"EvenSteps$Ring", en_T4, 6, ⟨"EvenSteps$Row", "doGo", "(ILEvenSteps$Trace;)I"⟩, ⟨"EvenSteps$Even", "doGo", "(ILEvenSteps$Trace;)I"⟩, prog_4_method_5_code, 3, (some .int), "EvenSteps$Row", rfl, me_19, np_9, wd_858, wd_834, wd_829, Or.inr ⟨wd_819, ⟨by decide, by decide⟩, Or.inr (Or.inl ⟨_, _, _, wd_836, wd_818⟩)⟩⟩, (List.forall_mem_cons.mpr ⟨⟨"EvenSteps$Told", en_T8, 3, ⟨"EvenSteps$Row", "doGo", "(ILEvenSteps$Trace;)I"⟩, ⟨"EvenSteps$Row", "doGo", "(ILEvenSteps$Trace;)I"⟩, prog_7_method_5_code, 3, (some .int), "EvenSteps$Row", rfl, me_30, np_9, wd_858, wd_835, wd_818, Or.inr ⟨wd_819, ⟨by decide, by decide⟩, Or.inl rfl⟩⟩, (fun _ h => absurd h List.not_mem_nil)⟩)⟩)⟩)⟩)⟩)
set_option maxRecDepth 100000 in
set_option maxHeartbeats 4000000 in
theorem lk_81 : en_FG "EvenSteps$Row" 7 0 [(1, 0), (2, 0), (3, 0), (4, 0), (8, 0)] := ⟨"EvenSteps$Row", (List.forall_mem_cons.mpr ⟨⟨"EvenSteps$Cut", en_T1, 11, rfl, by decide, wd_365, Or.inl rfl⟩, (List.forall_mem_cons.mpr ⟨⟨"EvenSteps$Even", en_T2, 6, rfl, by decide, wd_365, Or.inl rfl⟩, (List.forall_mem_cons.mpr ⟨⟨"EvenSteps$Points", en_T3, 6, rfl, by decide, wd_365, Or.inl rfl⟩, (List.forall_mem_cons.mpr ⟨⟨"EvenSteps$Ring", en_T4, 6, rfl, by decide, wd_365, Or.inl rfl⟩, (List.forall_mem_cons.mpr ⟨⟨"EvenSteps$Told", en_T8, 3, rfl, by decide, wd_365, Or.inl rfl⟩, (fun _ h => absurd h List.not_mem_nil)⟩)⟩)⟩)⟩)⟩)⟩
set_option maxRecDepth 100000 in
set_option maxHeartbeats 4000000 in
theorem me_24 : en_ME 24 ⟨"EvenSteps$Points", "doGap", "(ILEvenSteps$Trace;)I"⟩ prog_5_method_4_code 3 (some .int) := ⟨⟨p_X3_doGap, rfl⟩, wd_845, wd_78, ⟨by decide, by decide⟩, by decide⟩
set_option maxRecDepth 100000 in
set_option maxHeartbeats 4000000 in
theorem me_27 : en_ME 27 ⟨"EvenSteps$Ring", "doGap", "(ILEvenSteps$Trace;)I"⟩ prog_6_method_3_code 3 (some .int) := ⟨⟨p_X4_doGap, rfl⟩, wd_853, wd_76, ⟨by decide, by decide⟩, by decide⟩
set_option maxRecDepth 100000 in
set_option maxHeartbeats 4000000 in
theorem lk_82 : en_LV "EvenSteps$Row" 26 2 [(1, 31), (2, 31), (3, 24), (4, 27), (8, 31)] := (List.forall_mem_cons.mpr ⟨⟨"EvenSteps$Cut", en_T1, 11, ⟨"EvenSteps$Row", "doGap", "(ILEvenSteps$Trace;)I"⟩, ⟨"EvenSteps$Row", "doGap", "(ILEvenSteps$Trace;)I"⟩, prog_7_method_6_code, 3, (some .int), "EvenSteps$Row", rfl, me_31, np_9, wd_895, wd_841, wd_839, Or.inr ⟨wd_840, ⟨by decide, by decide⟩, Or.inl rfl⟩⟩, (List.forall_mem_cons.mpr ⟨⟨"EvenSteps$Even", en_T2, 6, ⟨"EvenSteps$Row", "doGap", "(ILEvenSteps$Trace;)I"⟩, ⟨"EvenSteps$Row", "doGap", "(ILEvenSteps$Trace;)I"⟩, prog_7_method_6_code, 3, (some .int), "EvenSteps$Row", rfl, me_31, np_9, wd_895, wd_842, wd_839, Or.inr ⟨wd_840, ⟨by decide, by decide⟩, Or.inl rfl⟩⟩, (List.forall_mem_cons.mpr ⟨⟨"EvenSteps$Points", en_T3, 6, ⟨"EvenSteps$Row", "doGap", "(ILEvenSteps$Trace;)I"⟩, ⟨"EvenSteps$Points", "doGap", "(ILEvenSteps$Trace;)I"⟩, prog_5_method_4_code, 3, (some .int), "EvenSteps$Row", rfl, me_24, np_9, wd_895, wd_843, wd_844, Or.inr ⟨wd_840, ⟨by decide, by decide⟩, Or.inr (Or.inl ⟨_, _, _, wd_857, wd_839⟩)⟩⟩, (List.forall_mem_cons.mpr ⟨⟨"EvenSteps$Ring", en_T4, 6, ⟨"EvenSteps$Row", "doGap", "(ILEvenSteps$Trace;)I"⟩, ⟨"EvenSteps$Ring", "doGap", "(ILEvenSteps$Trace;)I"⟩, prog_6_method_3_code, 3, (some .int), "EvenSteps$Row", rfl, me_27, np_9, wd_895, wd_851, wd_852, Or.inr ⟨wd_840, ⟨by decide, by decide⟩, Or.inr (Or.inl ⟨_, _, _, wd_857, wd_839⟩)⟩⟩, (List.forall_mem_cons.mpr ⟨⟨"EvenSteps$Told", en_T8, 3, ⟨"EvenSteps$Row", "doGap", "(ILEvenSteps$Trace;)I"⟩, ⟨"EvenSteps$Row", "doGap", "(ILEvenSteps$Trace;)I"⟩, prog_7_method_6_code, 3, (some .int), "EvenSteps$Row", rfl, me_31, np_9, wd_895, wd_856, wd_839, Or.inr ⟨wd_840, ⟨by decide, by decide⟩, Or.inl rfl⟩⟩, (fun _ h => absurd h List.not_mem_nil)⟩)⟩)⟩)⟩)⟩)
set_option maxRecDepth 100000 in
set_option maxHeartbeats 4000000 in
theorem me_14 : en_ME 14 ⟨"EvenSteps$Cut", "doGrow", "(ILEvenSteps$Trace;)I"⟩ prog_3_method_8_code 3 (some .int) := ⟨⟨p_X1_doGrow, rfl⟩, wd_864, wd_77, ⟨by decide, by decide⟩, by decide⟩
set_option maxRecDepth 100000 in
set_option maxHeartbeats 4000000 in
theorem me_23 : en_ME 23 ⟨"EvenSteps$Points", "doGrow", "(ILEvenSteps$Trace;)I"⟩ prog_5_method_3_code 3 (some .int) := ⟨⟨p_X3_doGrow, rfl⟩, wd_872, wd_78, ⟨by decide, by decide⟩, by decide⟩
set_option maxRecDepth 100000 in
set_option maxHeartbeats 4000000 in
theorem lk_83 : en_LV "EvenSteps$Row" 29 2 [(1, 14), (2, 20), (3, 23), (4, 20), (8, 32)] := (List.forall_mem_cons.mpr ⟨⟨"EvenSteps$Cut", en_T1, 11, ⟨"EvenSteps$Row", "doGrow", "(ILEvenSteps$Trace;)I"⟩, ⟨"EvenSteps$Cut", "doGrow", "(ILEvenSteps$Trace;)I"⟩, prog_3_method_8_code, 3, (some .int), "EvenSteps$Row", rfl, me_14, np_9, wd_896, wd_862, wd_863, Or.inr ⟨wd_861, ⟨by decide, by decide⟩, Or.inr (Or.inl ⟨_, _, _, wd_876, wd_860⟩)⟩⟩, (List.forall_mem_cons.mpr ⟨⟨"EvenSteps$Even", en_T2, 6, ⟨"EvenSteps$Row", "doGrow", "(ILEvenSteps$Trace;)I"⟩, ⟨"EvenSteps$Even", "doGrow", "(ILEvenSteps$Trace;)I"⟩, prog_4_method_6_code, 3, (some .int), "EvenSteps$Row", rfl, me_20, np_9, wd_896, wd_866, wd_867, Or.inr ⟨wd_861, ⟨by decide, by decide⟩, Or.inr (Or.inl ⟨_, _, _, wd_876, wd_860⟩)⟩⟩, (List.forall_mem_cons.mpr ⟨⟨"EvenSteps$Points", en_T3, 6, ⟨"EvenSteps$Row", "doGrow", "(ILEvenSteps$Trace;)I"⟩, ⟨"EvenSteps$Points", "doGrow", "(ILEvenSteps$Trace;)I"⟩, prog_5_method_3_code, 3, (some .int), "EvenSteps$Row", rfl, me_23, np_9, wd_896, wd_870, wd_871, Or.inr ⟨wd_861, ⟨by decide, by decide⟩, Or.inr (Or.inl ⟨_, _, _, wd_876, wd_860⟩)⟩⟩, (List.forall_mem_cons.mpr ⟨⟨"EvenSteps$Ring", en_T4, 6, ⟨"EvenSteps$Row", "doGrow", "(ILEvenSteps$Trace;)I"⟩, ⟨"EvenSteps$Even", "doGrow", "(ILEvenSteps$Trace;)I"⟩, prog_4_method_6_code, 3, (some .int), "EvenSteps$Row", rfl, me_20, np_9, wd_896, wd_874, wd_867, Or.inr ⟨wd_861, ⟨by decide, by decide⟩, Or.inr (Or.inl ⟨_, _, _, wd_876, wd_860⟩)⟩⟩, (List.forall_mem_cons.mpr ⟨⟨"EvenSteps$Told", en_T8, 3, ⟨"EvenSteps$Row", "doGrow", "(ILEvenSteps$Trace;)I"⟩, ⟨"EvenSteps$Row", "doGrow", "(ILEvenSteps$Trace;)I"⟩, prog_7_method_7_code, 3, (some .int), "EvenSteps$Row", rfl, me_32, np_9, wd_896, wd_875, wd_860, Or.inr ⟨wd_861, ⟨by decide, by decide⟩, Or.inl rfl⟩⟩, (fun _ h => absurd h List.not_mem_nil)⟩)⟩)⟩)⟩)⟩)
set_option maxRecDepth 100000 in
set_option maxHeartbeats 4000000 in
theorem lk_85 : en_FP "EvenSteps$Sheet" true 9 0 2 [(5, 0)] := ⟨"EvenSteps$Sheet", (List.forall_mem_cons.mpr ⟨⟨"EvenSteps$Sheet", en_T5, 3, .array .int, rfl, by decide, wd_197, Or.inl rfl, by decide +kernel, rfl, Or.inr ⟨rfl, rfl, rfl⟩⟩, (fun _ h => absurd h List.not_mem_nil)⟩)⟩
set_option maxRecDepth 100000 in
set_option maxHeartbeats 4000000 in
theorem lk_86 : en_FP "EvenSteps$Sheet" true 15 1 0 [(5, 0)] := ⟨"EvenSteps$Sheet", (List.forall_mem_cons.mpr ⟨⟨"EvenSteps$Sheet", en_T5, 3, .int, rfl, by decide, wd_199, Or.inl rfl, by decide +kernel, rfl, Or.inl rfl⟩, (fun _ h => absurd h List.not_mem_nil)⟩)⟩
set_option maxRecDepth 100000 in
set_option maxHeartbeats 4000000 in
theorem lk_87 : en_FG "EvenSteps$Sheet" 15 1 [(5, 0)] := ⟨"EvenSteps$Sheet", (List.forall_mem_cons.mpr ⟨⟨"EvenSteps$Sheet", en_T5, 3, rfl, by decide, wd_199, Or.inl rfl⟩, (fun _ h => absurd h List.not_mem_nil)⟩)⟩
set_option maxRecDepth 100000 in
set_option maxHeartbeats 4000000 in
theorem lk_88 : en_FP "EvenSteps$Sheet" false 15 1 0 [(5, 0)] := ⟨"EvenSteps$Sheet", (List.forall_mem_cons.mpr ⟨⟨"EvenSteps$Sheet", en_T5, 3, .int, rfl, by decide, wd_199, Or.inl rfl, by decide +kernel, rfl, Or.inl rfl⟩, (fun _ h => absurd h List.not_mem_nil)⟩)⟩
set_option maxRecDepth 100000 in
set_option maxHeartbeats 4000000 in
theorem lk_89 : en_FP "EvenSteps$Sheet" false 19 2 0 [(5, 0)] := ⟨"EvenSteps$Sheet", (List.forall_mem_cons.mpr ⟨⟨"EvenSteps$Sheet", en_T5, 3, .int, rfl, by decide, wd_201, Or.inl rfl, by decide +kernel, rfl, Or.inl rfl⟩, (fun _ h => absurd h List.not_mem_nil)⟩)⟩
set_option maxRecDepth 100000 in
set_option maxHeartbeats 4000000 in
theorem lk_90 : en_FG "EvenSteps$Sheet" 9 0 [(5, 0)] := ⟨"EvenSteps$Sheet", (List.forall_mem_cons.mpr ⟨⟨"EvenSteps$Sheet", en_T5, 3, rfl, by decide, wd_197, Or.inl rfl⟩, (fun _ h => absurd h List.not_mem_nil)⟩)⟩
set_option maxRecDepth 100000 in
set_option maxHeartbeats 4000000 in
theorem me_217 : en_ME 217 ⟨"java/lang/Math", "max", "(II)I"⟩ prog_17_method_65_code 2 (some .int) := ⟨⟨p_J9_max_7cf53, rfl⟩, wd_356, wd_72, ⟨by decide, by decide⟩, by decide⟩
set_option maxRecDepth 100000 in
set_option maxHeartbeats 4000000 in
theorem np_12 : en_np "(II)I" 2 := by unfold en_np; decide +kernel
set_option maxRecDepth 100000 in
set_option maxHeartbeats 4000000 in
theorem lk_91 : en_LS "EvenSteps$Sheet" 22 2 [(0, 217)] := ⟨0, 217, ⟨"java/lang/Math", "max", "(II)I"⟩, prog_17_method_65_code, 2, (some .int), rfl, me_217, np_12, wd_355, Or.inl wd_354⟩
set_option maxRecDepth 100000 in
set_option maxHeartbeats 4000000 in
theorem lk_93 : en_FP "EvenSteps$Slope" true 9 0 2 [(6, 0)] := ⟨"EvenSteps$Slope", (List.forall_mem_cons.mpr ⟨⟨"EvenSteps$Slope", en_T6, 8, .array .int, rfl, by decide, wd_303, Or.inl rfl, by decide +kernel, rfl, Or.inr ⟨rfl, rfl, rfl⟩⟩, (fun _ h => absurd h List.not_mem_nil)⟩)⟩
set_option maxRecDepth 100000 in
set_option maxHeartbeats 4000000 in
theorem lk_94 : en_FP "EvenSteps$Slope" true 15 2 2 [(6, 0)] := ⟨"EvenSteps$Slope", (List.forall_mem_cons.mpr ⟨⟨"EvenSteps$Slope", en_T6, 8, .array .int, rfl, by decide, wd_307, Or.inl rfl, by decide +kernel, rfl, Or.inr ⟨rfl, rfl, rfl⟩⟩, (fun _ h => absurd h List.not_mem_nil)⟩)⟩
set_option maxRecDepth 100000 in
set_option maxHeartbeats 4000000 in
theorem me_40 : en_ME 40 ⟨"EvenSteps$Slope", "squareIn", "(J)J"⟩ prog_9_method_2_code 4 (some .long) := ⟨⟨p_X7_squareIn, rfl⟩, wd_277, wd_71, ⟨by decide, by decide⟩, by decide⟩
set_option maxRecDepth 100000 in
set_option maxHeartbeats 4000000 in
theorem np_13 : en_np "(J)J" 1 := by unfold en_np; decide +kernel
set_option maxRecDepth 100000 in
set_option maxHeartbeats 4000000 in
theorem lk_95 : en_LS "EvenSteps$Slope" 18 1 [(0, 40)] := ⟨0, 40, ⟨"EvenSteps$Slope", "squareIn", "(J)J"⟩, prog_9_method_2_code, 4, (some .long), rfl, me_40, np_13, wd_276, Or.inl wd_275⟩
set_option maxRecDepth 100000 in
set_option maxHeartbeats 4000000 in
theorem me_129 : en_ME 129 ⟨"EvenSteps", "commonOf", "(JJ)J"⟩ prog_1_method_69_code 11 (some .long) := ⟨⟨p_X11_commonOf, rfl⟩, wd_281, wd_63, ⟨by decide, by decide⟩, by decide⟩
set_option maxRecDepth 100000 in
set_option maxHeartbeats 4000000 in
theorem np_14 : en_np "(JJ)J" 2 := by unfold en_np; decide +kernel
set_option maxRecDepth 100000 in
set_option maxHeartbeats 4000000 in
theorem lk_96 : en_LS "EvenSteps$Slope" 22 2 [(0, 129)] := ⟨0, 129, ⟨"EvenSteps", "commonOf", "(JJ)J"⟩, prog_1_method_69_code, 11, (some .long), rfl, me_129, np_14, wd_280, Or.inr ⟨"EvenSteps", by decide +kernel⟩⟩
set_option maxRecDepth 100000 in
set_option maxHeartbeats 4000000 in
theorem me_218 : en_ME 218 ⟨"java/lang/Math", "max", "(JJ)J"⟩ prog_17_method_66_code 4 (some .long) := ⟨⟨p_J9_max_f86c9, rfl⟩, wd_287, wd_72, ⟨by decide, by decide⟩, by decide⟩
set_option maxRecDepth 100000 in
set_option maxHeartbeats 4000000 in
theorem lk_97 : en_LS "EvenSteps$Slope" 26 2 [(0, 218)] := ⟨0, 218, ⟨"java/lang/Math", "max", "(JJ)J"⟩, prog_17_method_66_code, 4, (some .long), rfl, me_218, np_14, wd_286, Or.inl wd_285⟩
set_option maxRecDepth 100000 in
set_option maxHeartbeats 4000000 in
theorem lk_98 : en_FP "EvenSteps$Slope" true 31 4 1 [(6, 0)] := ⟨"EvenSteps$Slope", (List.forall_mem_cons.mpr ⟨⟨"EvenSteps$Slope", en_T6, 8, .long, rfl, by decide, wd_311, Or.inl rfl, by decide +kernel, rfl, Or.inr ⟨rfl, rfl, rfl⟩⟩, (fun _ h => absurd h List.not_mem_nil)⟩)⟩
set_option maxRecDepth 100000 in
set_option maxHeartbeats 4000000 in
theorem lk_99 : en_FP "EvenSteps$Slope" true 35 5 1 [(6, 0)] := ⟨"EvenSteps$Slope", (List.forall_mem_cons.mpr ⟨⟨"EvenSteps$Slope", en_T6, 8, .long, rfl, by decide, wd_312, Or.inl rfl, by decide +kernel, rfl, Or.inr ⟨rfl, rfl, rfl⟩⟩, (fun _ h => absurd h List.not_mem_nil)⟩)⟩
set_option maxRecDepth 100000 in
set_option maxHeartbeats 4000000 in
theorem lk_100 : en_FP "EvenSteps$Slope" true 38 6 1 [(6, 0)] := ⟨"EvenSteps$Slope", (List.forall_mem_cons.mpr ⟨⟨"EvenSteps$Slope", en_T6, 8, .long, rfl, by decide, wd_313, Or.inl rfl, by decide +kernel, rfl, Or.inr ⟨rfl, rfl, rfl⟩⟩, (fun _ h => absurd h List.not_mem_nil)⟩)⟩
set_option maxRecDepth 100000 in
set_option maxHeartbeats 4000000 in
theorem lk_102 : en_FP "EvenSteps$Slope" true 43 7 1 [(6, 0)] := ⟨"EvenSteps$Slope", (List.forall_mem_cons.mpr ⟨⟨"EvenSteps$Slope", en_T6, 8, .long, rfl, by decide, wd_314, Or.inl rfl, by decide +kernel, rfl, Or.inr ⟨rfl, rfl, rfl⟩⟩, (fun _ h => absurd h List.not_mem_nil)⟩)⟩
set_option maxRecDepth 100000 in
set_option maxHeartbeats 4000000 in
theorem lk_103 : en_FG "EvenSteps$Slope" 31 4 [(6, 0)] := ⟨"EvenSteps$Slope", (List.forall_mem_cons.mpr ⟨⟨"EvenSteps$Slope", en_T6, 8, rfl, by decide, wd_311, Or.inl rfl⟩, (fun _ h => absurd h List.not_mem_nil)⟩)⟩
set_option maxRecDepth 100000 in
set_option maxHeartbeats 4000000 in
theorem lk_104 : en_FG "EvenSteps$Slope" 38 6 [(6, 0)] := ⟨"EvenSteps$Slope", (List.forall_mem_cons.mpr ⟨⟨"EvenSteps$Slope", en_T6, 8, rfl, by decide, wd_313, Or.inl rfl⟩, (fun _ h => absurd h List.not_mem_nil)⟩)⟩
set_option maxRecDepth 100000 in
set_option maxHeartbeats 4000000 in
theorem lk_105 : en_FG "EvenSteps$Slope" 9 0 [(6, 0)] := ⟨"EvenSteps$Slope", (List.forall_mem_cons.mpr ⟨⟨"EvenSteps$Slope", en_T6, 8, rfl, by decide, wd_303, Or.inl rfl⟩, (fun _ h => absurd h List.not_mem_nil)⟩)⟩
set_option maxRecDepth 100000 in
set_option maxHeartbeats 4000000 in
theorem me_41 : en_ME 41 ⟨"EvenSteps$Slope", "findQuotients", "(JJ[I)I"⟩ prog_9_method_3_code 14 (some .int) := ⟨⟨p_X7_findQuotients, rfl⟩, wd_291, wd_71, ⟨by decide, by decide⟩, by decide⟩
set_option maxRecDepth 100000 in
set_option maxHeartbeats 4000000 in
theorem np_15 : en_np "(JJ[I)I" 3 := by unfold en_np; decide +kernel
set_option maxRecDepth 100000 in
set_option maxHeartbeats 4000000 in
theorem lk_106 : en_LS "EvenSteps$Slope" 46 3 [(0, 41)] := ⟨0, 41, ⟨"EvenSteps$Slope", "findQuotients", "(JJ[I)I"⟩, prog_9_method_3_code, 14, (some .int), rfl, me_41, np_15, wd_290, Or.inl wd_289⟩
set_option maxRecDepth 100000 in
set_option maxHeartbeats 4000000 in
theorem lk_107 : en_FG "EvenSteps$Slope" 35 5 [(6, 0)] := ⟨"EvenSteps$Slope", (List.forall_mem_cons.mpr ⟨⟨"EvenSteps$Slope", en_T6, 8, rfl, by decide, wd_312, Or.inl rfl⟩, (fun _ h => absurd h List.not_mem_nil)⟩)⟩
set_option maxRecDepth 100000 in
set_option maxHeartbeats 4000000 in
theorem lk_108 : en_FG "EvenSteps$Slope" 43 7 [(6, 0)] := ⟨"EvenSteps$Slope", (List.forall_mem_cons.mpr ⟨⟨"EvenSteps$Slope", en_T6, 8, rfl, by decide, wd_314, Or.inl rfl⟩, (fun _ h => absurd h List.not_mem_nil)⟩)⟩
set_option maxRecDepth 100000 in
set_option maxHeartbeats 4000000 in
theorem me_42 : en_ME 42 ⟨"EvenSteps$Slope", "findRootQuotients", "(JJJJ[I)I"⟩ prog_9_method_4_code 20 (some .int) := ⟨⟨p_X7_findRootQuotients, rfl⟩, wd_297, wd_71, ⟨by decide, by decide⟩, by decide⟩
set_option maxRecDepth 100000 in
set_option maxHeartbeats 4000000 in
theorem np_16 : en_np "(JJJJ[I)I" 5 := by unfold en_np; decide +kernel
set_option maxRecDepth 100000 in
set_option maxHeartbeats 4000000 in
theorem lk_109 : en_LS "EvenSteps$Slope" 50 5 [(0, 42)] := ⟨0, 42, ⟨"EvenSteps$Slope", "findRootQuotients", "(JJJJ[I)I"⟩, prog_9_method_4_code, 20, (some .int), rfl, me_42, np_16, wd_296, Or.inl wd_295⟩
set_option maxRecDepth 100000 in
set_option maxHeartbeats 4000000 in
theorem lk_110 : en_FP "EvenSteps$Slope" true 54 1 0 [(6, 0)] := ⟨"EvenSteps$Slope", (List.forall_mem_cons.mpr ⟨⟨"EvenSteps$Slope", en_T6, 8, .int, rfl, by decide, wd_305, Or.inl rfl, by decide +kernel, rfl, Or.inr ⟨rfl, rfl, rfl⟩⟩, (fun _ h => absurd h List.not_mem_nil)⟩)⟩
set_option maxRecDepth 100000 in
set_option maxHeartbeats 4000000 in
theorem lk_111 : en_FG "EvenSteps$Slope" 54 1 [(6, 0)] := ⟨"EvenSteps$Slope", (List.forall_mem_cons.mpr ⟨⟨"EvenSteps$Slope", en_T6, 8, rfl, by decide, wd_305, Or.inl rfl⟩, (fun _ h => absurd h List.not_mem_nil)⟩)⟩
set_option maxRecDepth 100000 in
set_option maxHeartbeats 4000000 in
theorem lk_112 : en_FG "EvenSteps$Slope" 15 2 [(6, 0)] := ⟨"EvenSteps$Slope", (List.forall_mem_cons.mpr ⟨⟨"EvenSteps$Slope", en_T6, 8, rfl, by decide, wd_307, Or.inl rfl⟩, (fun _ h => absurd h List.not_mem_nil)⟩)⟩
set_option maxRecDepth 100000 in
set_option maxHeartbeats 4000000 in
theorem me_43 : en_ME 43 ⟨"EvenSteps$Slope", "findLines", "([II[I)I"⟩ prog_9_method_5_code 11 (some .int) := ⟨⟨p_X7_findLines, rfl⟩, wd_301, wd_71, ⟨by decide, by decide⟩, by decide⟩
set_option maxRecDepth 100000 in
set_option maxHeartbeats 4000000 in
theorem np_17 : en_np "([II[I)I" 3 := by unfold en_np; decide +kernel
set_option maxRecDepth 100000 in
set_option maxHeartbeats 4000000 in
theorem lk_113 : en_LS "EvenSteps$Slope" 58 3 [(0, 43)] := ⟨0, 43, ⟨"EvenSteps$Slope", "findLines", "([II[I)I"⟩, prog_9_method_5_code, 11, (some .int), rfl, me_43, np_17, wd_300, Or.inl wd_299⟩
set_option maxRecDepth 100000 in
set_option maxHeartbeats 4000000 in
theorem lk_114 : en_FP "EvenSteps$Slope" true 62 3 0 [(6, 0)] := ⟨"EvenSteps$Slope", (List.forall_mem_cons.mpr ⟨⟨"EvenSteps$Slope", en_T6, 8, .int, rfl, by decide, wd_309, Or.inl rfl, by decide +kernel, rfl, Or.inr ⟨rfl, rfl, rfl⟩⟩, (fun _ h => absurd h List.not_mem_nil)⟩)⟩
set_option maxRecDepth 100000 in
set_option maxHeartbeats 4000000 in
theorem me_212 : en_ME 212 ⟨"java/lang/Math", "floorDiv", "(JJ)J"⟩ prog_17_method_49_code 6 (some .long) := ⟨⟨p_J9_floorDiv_f86c9, rfl⟩, wd_294, wd_72, ⟨by decide, by decide⟩, by decide⟩
set_option maxRecDepth 100000 in
set_option maxHeartbeats 4000000 in
theorem lk_116 : en_LS "EvenSteps$Slope" 67 2 [(0, 212)] := ⟨0, 212, ⟨"java/lang/Math", "floorDiv", "(JJ)J"⟩, prog_17_method_49_code, 6, (some .long), rfl, me_212, np_14, wd_293, Or.inl wd_292⟩
set_option maxRecDepth 100000 in
set_option maxHeartbeats 4000000 in
theorem me_127 : en_ME 127 ⟨"EvenSteps", "rootOf", "(J)J"⟩ prog_1_method_67_code 7 (some .long) := ⟨⟨p_X11_rootOf, rfl⟩, wd_257, wd_63, ⟨by decide, by decide⟩, by decide⟩
set_option maxRecDepth 100000 in
set_option maxHeartbeats 4000000 in
theorem lk_117 : en_LS "EvenSteps$Slope" 70 1 [(0, 127)] := ⟨0, 127, ⟨"EvenSteps", "rootOf", "(J)J"⟩, prog_1_method_67_code, 7, (some .long), rfl, me_127, np_13, wd_256, Or.inr ⟨"EvenSteps", by decide +kernel⟩⟩
set_option maxRecDepth 100000 in
set_option maxHeartbeats 4000000 in
theorem lk_119 : en_FG "EvenSteps$Slope" 35 5 [(6, 0)] := ⟨"EvenSteps$Slope", (List.forall_mem_cons.mpr ⟨⟨"EvenSteps$Slope", en_T6, 8, rfl, by decide, wd_312, Or.inl rfl⟩, (fun _ h => absurd h List.not_mem_nil)⟩)⟩
set_option maxRecDepth 100000 in
set_option maxHeartbeats 4000000 in
theorem lk_120 : en_FG "EvenSteps$Slope" 43 7 [(6, 0)] := ⟨"EvenSteps$Slope", (List.forall_mem_cons.mpr ⟨⟨"EvenSteps$Slope", en_T6, 8, rfl, by decide, wd_314, Or.inl rfl⟩, (fun _ h => absurd h List.not_mem_nil)⟩)⟩
set_option maxRecDepth 100000 in
set_option maxHeartbeats 4000000 in
theorem lk_121 : en_FG "EvenSteps$Slope" 31 4 [(6, 0)] := ⟨"EvenSteps$Slope", (List.forall_mem_cons.mpr ⟨⟨"EvenSteps$Slope", en_T6, 8, rfl, by decide, wd_311, Or.inl rfl⟩, (fun _ h => absurd h List.not_mem_nil)⟩)⟩
set_option maxRecDepth 100000 in
set_option maxHeartbeats 4000000 in
theorem lk_122 : en_FG "EvenSteps$Slope" 38 6 [(6, 0)] := ⟨"EvenSteps$Slope", (List.forall_mem_cons.mpr ⟨⟨"EvenSteps$Slope", en_T6, 8, rfl, by decide, wd_313, Or.inl rfl⟩, (fun _ h => absurd h List.not_mem_nil)⟩)⟩
set_option maxRecDepth 100000 in
set_option maxHeartbeats 4000000 in
theorem me_128 : en_ME 128 ⟨"EvenSteps", "signOf", "(JJJ)I"⟩ prog_1_method_68_code 10 (some .int) := ⟨⟨p_X11_signOf, rfl⟩, wd_268, wd_63, ⟨by decide, by decide⟩, by decide⟩
set_option maxRecDepth 100000 in
set_option maxHeartbeats 4000000 in
theorem np_18 : en_np "(JJJ)I" 3 := by unfold en_np; decide +kernel
set_option maxRecDepth 100000 in
set_option maxHeartbeats 4000000 in
theorem lk_123 : en_LS "EvenSteps$Slope" 75 3 [(0, 128)] := ⟨0, 128, ⟨"EvenSteps", "signOf", "(JJJ)I"⟩, prog_1_method_68_code, 10, (some .int), rfl, me_128, np_18, wd_267, Or.inr ⟨"EvenSteps", by decide +kernel⟩⟩
set_option maxRecDepth 100000 in
set_option maxHeartbeats 4000000 in
theorem lk_125 : en_FP "EvenSteps$Stretch" true 9 7 2 [(7, 0)] := ⟨"EvenSteps$Stretch", (List.forall_mem_cons.mpr ⟨⟨"EvenSteps$Stretch", en_T7, 11, .array .int, rfl, by decide, wd_129, Or.inl rfl, by decide +kernel, rfl, Or.inr ⟨rfl, rfl, rfl⟩⟩, (fun _ h => absurd h List.not_mem_nil)⟩)⟩
set_option maxRecDepth 100000 in
set_option maxHeartbeats 4000000 in
theorem lk_126 : en_FP "EvenSteps$Stretch" false 15 8 0 [(7, 0)] := ⟨"EvenSteps$Stretch", (List.forall_mem_cons.mpr ⟨⟨"EvenSteps$Stretch", en_T7, 11, .int, rfl, by decide, wd_130, Or.inl rfl, by decide +kernel, rfl, Or.inl rfl⟩, (fun _ h => absurd h List.not_mem_nil)⟩)⟩
set_option maxRecDepth 100000 in
set_option maxHeartbeats 4000000 in
theorem lk_127 : en_LV "EvenSteps$Stretch" 19 1 [(1, 9), (2, 17), (3, 17), (4, 17), (8, 57)] := (List.forall_mem_cons.mpr ⟨⟨"EvenSteps$Cut", en_T1, 11, ⟨"EvenSteps$Row", "stepAt", "(I)I"⟩, ⟨"EvenSteps$Cut", "stepAt", "(I)I"⟩, prog_3_method_3_code, 2, (some .int), "EvenSteps$Row", rfl, me_9, np_8, wd_669, wd_385, wd_386, Or.inr ⟨wd_384, ⟨by decide, by decide⟩, Or.inr (Or.inr (by decide +kernel))⟩⟩, (List.forall_mem_cons.mpr ⟨⟨"EvenSteps$Even", en_T2, 6, ⟨"EvenSteps$Row", "stepAt", "(I)I"⟩, ⟨"EvenSteps$Even", "stepAt", "(I)I"⟩, prog_4_method_3_code, 2, (some .int), "EvenSteps$Row", rfl, me_17, np_8, wd_669, wd_406, wd_394, Or.inr ⟨wd_384, ⟨by decide, by decide⟩, Or.inr (Or.inr (by decide +kernel))⟩⟩, (List.forall_mem_cons.mpr ⟨⟨"EvenSteps$Points", en_T3, 6, ⟨"EvenSteps$Row", "stepAt", "(I)I"⟩, ⟨"EvenSteps$Even", "stepAt", "(I)I"⟩, prog_4_method_3_code, 2, (some .int), "EvenSteps$Row", rfl, me_17, np_8, wd_669, wd_407, wd_394, Or.inr ⟨wd_384, ⟨by decide, by decide⟩, Or.inr (Or.inr (by decide +kernel))⟩⟩, (List.forall_mem_cons.mpr ⟨⟨"EvenSteps$Ring", en_T4, 6, ⟨"EvenSteps$Row", "stepAt", "(I)I"⟩, ⟨"EvenSteps$Even", "stepAt", "(I)I"⟩, prog_4_method_3_code, 2, (some .int), "EvenSteps$Row", rfl, me_17, np_8, wd_669, wd_408, wd_394, Or.inr ⟨wd_384, ⟨by decide, by decide⟩, Or.inr (Or.inr (by decide +kernel))⟩⟩, (List.forall_mem_cons.mpr ⟨⟨"EvenSteps$Told", en_T8, 3, ⟨"EvenSteps$Row", "stepAt", "(I)I"⟩, ⟨"EvenSteps$Told", "stepAt", "(I)I"⟩, prog_11_method_3_code, 2, (some .int), "EvenSteps$Row", rfl, me_57, np_8, wd_669, wd_409, wd_400, Or.inr ⟨wd_384, ⟨by decide, by decide⟩, Or.inr (Or.inr (by decide +kernel))⟩⟩, (fun _ h => absurd h List.not_mem_nil)⟩)⟩)⟩)⟩)⟩)
set_option maxRecDepth 100000 in
set_option maxHeartbeats 4000000 in
theorem lk_128 : en_FG "EvenSteps$Stretch" 9 7 [(7, 0)] := ⟨"EvenSteps$Stretch", (List.forall_mem_cons.mpr ⟨⟨"EvenSteps$Stretch", en_T7, 11, rfl, by decide, wd_129, Or.inl rfl⟩, (fun _ h => absurd h List.not_mem_nil)⟩)⟩
set_option maxRecDepth 100000 in
set_option maxHeartbeats 4000000 in
theorem me_50 : en_ME 50 ⟨"EvenSteps$Stretch", "sumFrom", "(II)I"⟩ prog_10_method_3_code 3 (some .int) := ⟨⟨p_X8_sumFrom, rfl⟩, wd_681, wd_65, ⟨by decide, by decide⟩, by decide⟩
set_option maxRecDepth 100000 in
set_option maxHeartbeats 4000000 in
theorem lk_129 : en_LV "EvenSteps$Stretch" 25 2 [(7, 50)] := (List.forall_mem_cons.mpr ⟨⟨"EvenSteps$Stretch", en_T7, 11, ⟨"EvenSteps$Stretch", "sumFrom", "(II)I"⟩, ⟨"EvenSteps$Stretch", "sumFrom", "(II)I"⟩, prog_10_method_3_code, 3, (some .int), "EvenSteps$Stretch", rfl, me_50, np_12, wd_678, wd_11, wd_680, Or.inl ⟨rfl, rfl⟩⟩, (fun _ h => absurd h List.not_mem_nil)⟩)
set_option maxRecDepth 100000 in
set_option maxHeartbeats 4000000 in
theorem lk_130 : en_FP "EvenSteps$Stretch" false 29 9 0 [(7, 0)] := ⟨"EvenSteps$Stretch", (List.forall_mem_cons.mpr ⟨⟨"EvenSteps$Stretch", en_T7, 11, .int, rfl, by decide, wd_131, Or.inl rfl, by decide +kernel, rfl, Or.inl rfl⟩, (fun _ h => absurd h List.not_mem_nil)⟩)⟩
set_option maxRecDepth 100000 in
set_option maxHeartbeats 4000000 in
theorem lk_131 : en_FG "EvenSteps$Stretch" 29 9 [(7, 0)] := ⟨"EvenSteps$Stretch", (List.forall_mem_cons.mpr ⟨⟨"EvenSteps$Stretch", en_T7, 11, rfl, by decide, wd_131, Or.inl rfl⟩, (fun _ h => absurd h List.not_mem_nil)⟩)⟩
set_option maxRecDepth 100000 in
set_option maxHeartbeats 4000000 in
theorem lk_132 : en_FP "EvenSteps$Stretch" false 32 10 0 [(7, 0)] := ⟨"EvenSteps$Stretch", (List.forall_mem_cons.mpr ⟨⟨"EvenSteps$Stretch", en_T7, 11, .int, rfl, by decide, wd_132, Or.inl rfl, by decide +kernel, rfl, Or.inl rfl⟩, (fun _ h => absurd h List.not_mem_nil)⟩)⟩
set_option maxRecDepth 100000 in
set_option maxHeartbeats 4000000 in
theorem lk_133 : en_FG "EvenSteps$Stretch" 15 8 [(7, 0)] := ⟨"EvenSteps$Stretch", (List.forall_mem_cons.mpr ⟨⟨"EvenSteps$Stretch", en_T7, 11, rfl, by decide, wd_130, Or.inl rfl⟩, (fun _ h => absurd h List.not_mem_nil)⟩)⟩
set_option maxRecDepth 100000 in
set_option maxHeartbeats 4000000 in
theorem me_219 : en_ME 219 ⟨"java/lang/Math", "min", "(II)I"⟩ prog_17_method_69_code 2 (some .int) := ⟨⟨p_J9_min_7cf53, rfl⟩, wd_684, wd_72, ⟨by decide, by decide⟩, by decide⟩
set_option maxRecDepth 100000 in
set_option maxHeartbeats 4000000 in
theorem lk_134 : en_LS "EvenSteps$Stretch" 35 2 [(0, 219)] := ⟨0, 219, ⟨"java/lang/Math", "min", "(II)I"⟩, prog_17_method_69_code, 2, (some .int), rfl, me_219, np_12, wd_683, Or.inl wd_682⟩
set_option maxRecDepth 100000 in
set_option maxHeartbeats 4000000 in
theorem lk_135 : en_FG "EvenSteps$Stretch" 32 10 [(7, 0)] := ⟨"EvenSteps$Stretch", (List.forall_mem_cons.mpr ⟨⟨"EvenSteps$Stretch", en_T7, 11, rfl, by decide, wd_132, Or.inl rfl⟩, (fun _ h => absurd h List.not_mem_nil)⟩)⟩
set_option maxRecDepth 100000 in
set_option maxHeartbeats 4000000 in
theorem lk_136 : en_LS "EvenSteps$Stretch" 40 2 [(0, 217)] := ⟨0, 217, ⟨"java/lang/Math", "max", "(II)I"⟩, prog_17_method_65_code, 2, (some .int), rfl, me_217, np_12, wd_355, Or.inl wd_685⟩
set_option maxRecDepth 100000 in
set_option maxHeartbeats 4000000 in
theorem me_51 : en_ME 51 ⟨"EvenSteps$Stretch", "compareSums", "(I)V"⟩ prog_10_method_4_code 4 none := ⟨⟨p_X8_compareSums, rfl⟩, wd_677, wd_65, ⟨by decide, by decide⟩, by decide⟩
set_option maxRecDepth 100000 in
set_option maxHeartbeats 4000000 in
theorem lk_137 : en_LV "EvenSteps$Stretch" 43 1 [(7, 51)] := (List.forall_mem_cons.mpr ⟨⟨"EvenSteps$Stretch", en_T7, 11, ⟨"EvenSteps$Stretch", "compareSums", "(I)V"⟩, ⟨"EvenSteps$Stretch", "compareSums", "(I)V"⟩, prog_10_method_4_code, 4, none, "EvenSteps$Stretch", rfl, me_51, np_1, wd_674, wd_10, wd_676, Or.inl ⟨rfl, rfl⟩⟩, (fun _ h => absurd h List.not_mem_nil)⟩)
set_option maxRecDepth 100000 in
set_option maxHeartbeats 4000000 in
theorem lk_138 : en_FP "EvenSteps$Stretch" false 47 0 0 [(7, 0)] := ⟨"EvenSteps$Stretch", (List.forall_mem_cons.mpr ⟨⟨"EvenSteps$Stretch", en_T7, 11, .int, rfl, by decide, wd_115, Or.inl rfl, by decide +kernel, rfl, Or.inl rfl⟩, (fun _ h => absurd h List.not_mem_nil)⟩)⟩
set_option maxRecDepth 100000 in
set_option maxHeartbeats 4000000 in
theorem me_53 : en_ME 53 ⟨"EvenSteps$Stretch", "findClashPlaces", "(I)Z"⟩ prog_10_method_6_code 4 (some .boolean) := ⟨⟨p_X8_findClashPlaces, rfl⟩, wd_689, wd_65, ⟨by decide, by decide⟩, by decide⟩
set_option maxRecDepth 100000 in
set_option maxHeartbeats 4000000 in
theorem np_19 : en_np "(I)Z" 1 := by unfold en_np; decide +kernel
set_option maxRecDepth 100000 in
set_option maxHeartbeats 4000000 in
theorem lk_139 : en_LV "EvenSteps$Stretch" 50 1 [(7, 53)] := (List.forall_mem_cons.mpr ⟨⟨"EvenSteps$Stretch", en_T7, 11, ⟨"EvenSteps$Stretch", "findClashPlaces", "(I)Z"⟩, ⟨"EvenSteps$Stretch", "findClashPlaces", "(I)Z"⟩, prog_10_method_6_code, 4, (some .boolean), "EvenSteps$Stretch", rfl, me_53, np_19, wd_686, wd_12, wd_688, Or.inl ⟨rfl, rfl⟩⟩, (fun _ h => absurd h List.not_mem_nil)⟩)
set_option maxRecDepth 100000 in
set_option maxHeartbeats 4000000 in
theorem me_215 : en_ME 215 ⟨"java/lang/Math", "abs", "(I)I"⟩ prog_17_method_59_code 1 (some .int) := ⟨⟨p_J9_abs_0f7a4, rfl⟩, wd_692, wd_72, ⟨by decide, by decide⟩, by decide⟩
set_option maxRecDepth 100000 in
set_option maxHeartbeats 4000000 in
theorem lk_140 : en_LS "EvenSteps$Stretch" 54 1 [(0, 215)] := ⟨0, 215, ⟨"java/lang/Math", "abs", "(I)I"⟩, prog_17_method_59_code, 1, (some .int), rfl, me_215, np_8, wd_691, Or.inl wd_690⟩
set_option maxRecDepth 100000 in
set_option maxHeartbeats 4000000 in
theorem lk_141 : en_FP "EvenSteps$Stretch" false 57 1 0 [(7, 0)] := ⟨"EvenSteps$Stretch", (List.forall_mem_cons.mpr ⟨⟨"EvenSteps$Stretch", en_T7, 11, .int, rfl, by decide, wd_117, Or.inl rfl, by decide +kernel, rfl, Or.inl rfl⟩, (fun _ h => absurd h List.not_mem_nil)⟩)⟩
set_option maxRecDepth 100000 in
set_option maxHeartbeats 4000000 in
theorem lk_142 : en_FP "EvenSteps$Stretch" false 60 2 0 [(7, 0)] := ⟨"EvenSteps$Stretch", (List.forall_mem_cons.mpr ⟨⟨"EvenSteps$Stretch", en_T7, 11, .int, rfl, by decide, wd_119, Or.inl rfl, by decide +kernel, rfl, Or.inl rfl⟩, (fun _ h => absurd h List.not_mem_nil)⟩)⟩
set_option maxRecDepth 100000 in
set_option maxHeartbeats 4000000 in
theorem lk_143 : en_FG "EvenSteps$Stretch" 63 4 [(7, 0)] := ⟨"EvenSteps$Stretch", (List.forall_mem_cons.mpr ⟨⟨"EvenSteps$Stretch", en_T7, 11, rfl, by decide, wd_123, Or.inl rfl⟩, (fun _ h => absurd h List.not_mem_nil)⟩)⟩
set_option maxRecDepth 100000 in
set_option maxHeartbeats 4000000 in
theorem lk_144 : en_FG "EvenSteps$Stretch" 66 3 [(7, 0)] := ⟨"EvenSteps$Stretch", (List.forall_mem_cons.mpr ⟨⟨"EvenSteps$Stretch", en_T7, 11, rfl, by decide, wd_121, Or.inl rfl⟩, (fun _ h => absurd h List.not_mem_nil)⟩)⟩
set_option maxRecDepth 100000 in
set_option maxHeartbeats 4000000 in
theorem lk_145 : en_FP "EvenSteps$Stretch" false 66 3 0 [(7, 0)] := ⟨"EvenSteps$Stretch", (List.forall_mem_cons.mpr ⟨⟨"EvenSteps$Stretch", en_T7, 11, .int, rfl, by decide, wd_121, Or.inl rfl, by decide +kernel, rfl, Or.inl rfl⟩, (fun _ h => absurd h List.not_mem_nil)⟩)⟩
set_option maxRecDepth 100000 in
set_option maxHeartbeats 4000000 in
theorem lk_146 : en_FP "EvenSteps$Stretch" false 63 4 0 [(7, 0)] := ⟨"EvenSteps$Stretch", (List.forall_mem_cons.mpr ⟨⟨"EvenSteps$Stretch", en_T7, 11, .int, rfl, by decide, wd_123, Or.inl rfl, by decide +kernel, rfl, Or.inl rfl⟩, (fun _ h => absurd h List.not_mem_nil)⟩)⟩
set_option maxRecDepth 100000 in
set_option maxHeartbeats 4000000 in
theorem lk_147 : en_FG "EvenSteps$Stretch" 69 6 [(7, 0)] := ⟨"EvenSteps$Stretch", (List.forall_mem_cons.mpr ⟨⟨"EvenSteps$Stretch", en_T7, 11, rfl, by decide, wd_127, Or.inl rfl⟩, (fun _ h => absurd h List.not_mem_nil)⟩)⟩
set_option maxRecDepth 100000 in
set_option maxHeartbeats 4000000 in
theorem lk_148 : en_FG "EvenSteps$Stretch" 72 5 [(7, 0)] := ⟨"EvenSteps$Stretch", (List.forall_mem_cons.mpr ⟨⟨"EvenSteps$Stretch", en_T7, 11, rfl, by decide, wd_125, Or.inl rfl⟩, (fun _ h => absurd h List.not_mem_nil)⟩)⟩
set_option maxRecDepth 100000 in
set_option maxHeartbeats 4000000 in
theorem lk_149 : en_FP "EvenSteps$Stretch" false 72 5 0 [(7, 0)] := ⟨"EvenSteps$Stretch", (List.forall_mem_cons.mpr ⟨⟨"EvenSteps$Stretch", en_T7, 11, .int, rfl, by decide, wd_125, Or.inl rfl, by decide +kernel, rfl, Or.inl rfl⟩, (fun _ h => absurd h List.not_mem_nil)⟩)⟩
set_option maxRecDepth 100000 in
set_option maxHeartbeats 4000000 in
theorem lk_150 : en_FP "EvenSteps$Stretch" false 69 6 0 [(7, 0)] := ⟨"EvenSteps$Stretch", (List.forall_mem_cons.mpr ⟨⟨"EvenSteps$Stretch", en_T7, 11, .int, rfl, by decide, wd_127, Or.inl rfl, by decide +kernel, rfl, Or.inl rfl⟩, (fun _ h => absurd h List.not_mem_nil)⟩)⟩
set_option maxRecDepth 100000 in
set_option maxHeartbeats 4000000 in
theorem lk_151 : en_LI "EvenSteps$Told" 3 1 [(1, 29), (2, 29), (3, 29), (4, 29), (8, 29)] := ⟨⟨"EvenSteps$Row", "<init>", "(I)V"⟩, prog_7_method_1_code, 2, (List.forall_mem_cons.mpr ⟨me_29, (List.forall_mem_cons.mpr ⟨me_29, (List.forall_mem_cons.mpr ⟨me_29, (List.forall_mem_cons.mpr ⟨me_29, (List.forall_mem_cons.mpr ⟨me_29, (fun _ h => absurd h List.not_mem_nil)⟩)⟩)⟩)⟩)⟩), np_1, wd_361, rfl, wd_360⟩
set_option maxRecDepth 100000 in
set_option maxHeartbeats 4000000 in
theorem lk_152 : en_FP "EvenSteps$Told" true 9 2 2 [(8, 0)] := ⟨"EvenSteps$Told", (List.forall_mem_cons.mpr ⟨⟨"EvenSteps$Told", en_T8, 3, .array .int, rfl, by decide, wd_364, Or.inl rfl, by decide +kernel, rfl, Or.inr ⟨rfl, rfl, rfl⟩⟩, (fun _ h => absurd h List.not_mem_nil)⟩)⟩
set_option maxRecDepth 100000 in
set_option maxHeartbeats 4000000 in
theorem lk_153 : en_FG "EvenSteps$Told" 9 2 [(8, 0)] := ⟨"EvenSteps$Told", (List.forall_mem_cons.mpr ⟨⟨"EvenSteps$Told", en_T8, 3, rfl, by decide, wd_364, Or.inl rfl⟩, (fun _ h => absurd h List.not_mem_nil)⟩)⟩
set_option maxRecDepth 100000 in
set_option maxHeartbeats 4000000 in
theorem lk_155 : en_FP "EvenSteps$Trace" true 7 0 2 [(9, 0)] := ⟨"EvenSteps$Trace", (List.forall_mem_cons.mpr ⟨⟨"EvenSteps$Trace", en_T9, 2, .array .int, rfl, by decide, wd_99, Or.inl rfl, by decide +kernel, rfl, Or.inr ⟨rfl, rfl, rfl⟩⟩, (fun _ h => absurd h List.not_mem_nil)⟩)⟩
set_option maxRecDepth 100000 in
set_option maxHeartbeats 4000000 in
theorem lk_156 : en_FG "EvenSteps$Trace" 13 1 [(9, 0)] := ⟨"EvenSteps$Trace", (List.forall_mem_cons.mpr ⟨⟨"EvenSteps$Trace", en_T9, 2, rfl, by decide, wd_101, Or.inl rfl⟩, (fun _ h => absurd h List.not_mem_nil)⟩)⟩
set_option maxRecDepth 100000 in
set_option maxHeartbeats 4000000 in
theorem lk_157 : en_FG "EvenSteps$Trace" 7 0 [(9, 0)] := ⟨"EvenSteps$Trace", (List.forall_mem_cons.mpr ⟨⟨"EvenSteps$Trace", en_T9, 2, rfl, by decide, wd_99, Or.inl rfl⟩, (fun _ h => absurd h List.not_mem_nil)⟩)⟩
set_option maxRecDepth 100000 in
set_option maxHeartbeats 4000000 in
theorem lk_158 : en_FP "EvenSteps$Trace" false 13 1 0 [(9, 0)] := ⟨"EvenSteps$Trace", (List.forall_mem_cons.mpr ⟨⟨"EvenSteps$Trace", en_T9, 2, .int, rfl, by decide, wd_101, Or.inl rfl, by decide +kernel, rfl, Or.inl rfl⟩, (fun _ h => absurd h List.not_mem_nil)⟩)⟩
set_option maxRecDepth 100000 in
set_option maxHeartbeats 4000000 in
theorem lk_161 : en_FP "EvenSteps" true 11 0 2 [(10, 0)] := ⟨"EvenSteps", (List.forall_mem_cons.mpr ⟨⟨"EvenSteps", en_T10, 11, .array (.object "EvenSteps$Slope"), rfl, by decide, wd_210, Or.inl rfl, by decide +kernel, rfl, Or.inr ⟨rfl, rfl, rfl⟩⟩, (fun _ h => absurd h List.not_mem_nil)⟩)⟩
set_option maxRecDepth 100000 in
set_option maxHeartbeats 4000000 in
theorem lk_163 : en_FP "EvenSteps" true 17 1 2 [(10, 0)] := ⟨"EvenSteps", (List.forall_mem_cons.mpr ⟨⟨"EvenSteps", en_T10, 11, .array (.object "EvenSteps$Row"), rfl, by decide, wd_211, Or.inl rfl, by decide +kernel, rfl, Or.inr ⟨rfl, rfl, rfl⟩⟩, (fun _ h => absurd h List.not_mem_nil)⟩)⟩
set_option maxRecDepth 100000 in
set_option maxHeartbeats 4000000 in
theorem lk_165 : en_FP "EvenSteps" true 23 2 2 [(10, 0)] := ⟨"EvenSteps", (List.forall_mem_cons.mpr ⟨⟨"EvenSteps", en_T10, 11, .array (.object "EvenSteps$Sheet"), rfl, by decide, wd_212, Or.inl rfl, by decide +kernel, rfl, Or.inr ⟨rfl, rfl, rfl⟩⟩, (fun _ h => absurd h List.not_mem_nil)⟩)⟩
set_option maxRecDepth 100000 in
set_option maxHeartbeats 4000000 in
theorem me_59 : en_ME 59 ⟨"EvenSteps$Trace", "<init>", "()V"⟩ prog_12_method_1_code 1 none := ⟨⟨p_X10_init, rfl⟩, wd_97, wd_64, ⟨by decide, by decide⟩, by decide⟩
set_option maxRecDepth 100000 in
set_option maxHeartbeats 4000000 in
theorem np_20 : en_np "()V" 0 := by unfold en_np; decide +kernel
set_option maxRecDepth 100000 in
set_option maxHeartbeats 4000000 in
theorem lk_167 : en_LI "EvenSteps" 29 0 [(9, 59)] := ⟨⟨"EvenSteps$Trace", "<init>", "()V"⟩, prog_12_method_1_code, 1, (List.forall_mem_cons.mpr ⟨me_59, (fun _ h => absurd h List.not_mem_nil)⟩), np_20, wd_96, rfl, wd_95⟩
set_option maxRecDepth 100000 in
set_option maxHeartbeats 4000000 in
theorem lk_168 : en_FP "EvenSteps" true 30 3 2 [(10, 0)] := ⟨"EvenSteps", (List.forall_mem_cons.mpr ⟨⟨"EvenSteps", en_T10, 11, .object "EvenSteps$Trace", rfl, by decide, wd_213, Or.inl rfl, by decide +kernel, rfl, Or.inr ⟨rfl, rfl, rfl⟩⟩, (fun _ h => absurd h List.not_mem_nil)⟩)⟩
set_option maxRecDepth 100000 in
set_option maxHeartbeats 4000000 in
theorem me_48 : en_ME 48 ⟨"EvenSteps$Stretch", "<init>", "()V"⟩ prog_10_method_1_code 1 none := ⟨⟨p_X8_init, rfl⟩, wd_113, wd_65, ⟨by decide, by decide⟩, by decide⟩
set_option maxRecDepth 100000 in
set_option maxHeartbeats 4000000 in
theorem lk_170 : en_LI "EvenSteps" 36 0 [(7, 48)] := ⟨⟨"EvenSteps$Stretch", "<init>", "()V"⟩, prog_10_method_1_code, 1, (List.forall_mem_cons.mpr ⟨me_48, (fun _ h => absurd h List.not_mem_nil)⟩), np_20, wd_112, rfl, wd_111⟩
set_option maxRecDepth 100000 in
set_option maxHeartbeats 4000000 in
theorem lk_171 : en_FP "EvenSteps" true 37 4 2 [(10, 0)] := ⟨"EvenSteps", (List.forall_mem_cons.mpr ⟨⟨"EvenSteps", en_T10, 11, .object "EvenSteps$Stretch", rfl, by decide, wd_214, Or.inl rfl, by decide +kernel, rfl, Or.inr ⟨rfl, rfl, rfl⟩⟩, (fun _ h => absurd h List.not_mem_nil)⟩)⟩
set_option maxRecDepth 100000 in
set_option maxHeartbeats 4000000 in
theorem me_0 : en_ME 0 ⟨"EvenSteps$Circle", "<init>", "()V"⟩ prog_2_method_1_code 1 none := ⟨⟨p_X0_init, rfl⟩, wd_160, wd_66, ⟨by decide, by decide⟩, by decide⟩
set_option maxRecDepth 100000 in
set_option maxHeartbeats 4000000 in
theorem lk_173 : en_LI "EvenSteps" 43 0 [(0, 0)] := ⟨⟨"EvenSteps$Circle", "<init>", "()V"⟩, prog_2_method_1_code, 1, (List.forall_mem_cons.mpr ⟨me_0, (fun _ h => absurd h List.not_mem_nil)⟩), np_20, wd_159, rfl, wd_158⟩
set_option maxRecDepth 100000 in
set_option maxHeartbeats 4000000 in
theorem lk_174 : en_FP "EvenSteps" true 44 5 2 [(10, 0)] := ⟨"EvenSteps", (List.forall_mem_cons.mpr ⟨⟨"EvenSteps", en_T10, 11, .object "EvenSteps$Circle", rfl, by decide, wd_215, Or.inl rfl, by decide +kernel, rfl, Or.inr ⟨rfl, rfl, rfl⟩⟩, (fun _ h => absurd h List.not_mem_nil)⟩)⟩
set_option maxRecDepth 100000 in
set_option maxHeartbeats 4000000 in
theorem lk_175 : en_FP "EvenSteps" true 48 6 2 [(10, 0)] := ⟨"EvenSteps", (List.forall_mem_cons.mpr ⟨⟨"EvenSteps", en_T10, 11, .array .int, rfl, by decide, wd_216, Or.inl rfl, by decide +kernel, rfl, Or.inr ⟨rfl, rfl, rfl⟩⟩, (fun _ h => absurd h List.not_mem_nil)⟩)⟩
set_option maxRecDepth 100000 in
set_option maxHeartbeats 4000000 in
theorem lk_176 : en_FP "EvenSteps" true 52 7 2 [(10, 0)] := ⟨"EvenSteps", (List.forall_mem_cons.mpr ⟨⟨"EvenSteps", en_T10, 11, .array .int, rfl, by decide, wd_217, Or.inl rfl, by decide +kernel, rfl, Or.inr ⟨rfl, rfl, rfl⟩⟩, (fun _ h => absurd h List.not_mem_nil)⟩)⟩
set_option maxRecDepth 100000 in
set_option maxHeartbeats 4000000 in
theorem lk_177 : en_FG "EvenSteps" 23 2 [(10, 0)] := ⟨"EvenSteps", (List.forall_mem_cons.mpr ⟨⟨"EvenSteps", en_T10, 11, rfl, by decide, wd_212, Or.inl rfl⟩, (fun _ h => absurd h List.not_mem_nil)⟩)⟩
set_option maxRecDepth 100000 in
set_option maxHeartbeats 4000000 in
theorem me_34 : en_ME 34 ⟨"EvenSteps$Sheet", "<init>", "()V"⟩ prog_8_method_1_code 1 none := ⟨⟨p_X6_init, rfl⟩, wd_195, wd_67, ⟨by decide, by decide⟩, by decide⟩
set_option maxRecDepth 100000 in
set_option maxHeartbeats 4000000 in
theorem lk_179 : en_LI "EvenSteps" 55 0 [(5, 34)] := ⟨⟨"EvenSteps$Sheet", "<init>", "()V"⟩, prog_8_method_1_code, 1, (List.forall_mem_cons.mpr ⟨me_34, (fun _ h => absurd h List.not_mem_nil)⟩), np_20, wd_194, rfl, wd_193⟩
set_option maxRecDepth 100000 in
set_option maxHeartbeats 4000000 in
theorem me_120 : en_ME 120 ⟨"EvenSteps", "refuse", "(I)I"⟩ prog_1_method_60_code 2 (some .int) := ⟨⟨p_X11_refuse, rfl⟩, wd_251, wd_63, ⟨by decide, by decide⟩, by decide⟩
set_option maxRecDepth 100000 in
set_option maxHeartbeats 4000000 in
theorem lk_180 : en_LV "EvenSteps" 56 1 [(10, 120)] := (List.forall_mem_cons.mpr ⟨⟨"EvenSteps", en_T10, 11, ⟨"EvenSteps", "refuse", "(I)I"⟩, ⟨"EvenSteps", "refuse", "(I)I"⟩, prog_1_method_60_code, 2, (some .int), "EvenSteps", rfl, me_120, np_8, wd_248, wd_0, wd_250, Or.inl ⟨rfl, rfl⟩⟩, (fun _ h => absurd h List.not_mem_nil)⟩)
set_option maxRecDepth 100000 in
set_option maxHeartbeats 4000000 in
theorem me_126 : en_ME 126 ⟨"EvenSteps", "isSquare", "(I)Z"⟩ prog_1_method_66_code 3 (some .boolean) := ⟨⟨p_X11_isSquare, rfl⟩, wd_254, wd_63, ⟨by decide, by decide⟩, by decide⟩
set_option maxRecDepth 100000 in
set_option maxHeartbeats 4000000 in
theorem lk_181 : en_LS "EvenSteps" 60 1 [(0, 126)] := ⟨0, 126, ⟨"EvenSteps", "isSquare", "(I)Z"⟩, prog_1_method_66_code, 3, (some .boolean), rfl, me_126, np_19, wd_253, Or.inl wd_252⟩
set_option maxRecDepth 100000 in
set_option maxHeartbeats 4000000 in
theorem lk_182 : en_FG "EvenSteps" 64 8 [(10, 0)] := ⟨"EvenSteps", (List.forall_mem_cons.mpr ⟨⟨"EvenSteps", en_T10, 11, rfl, by decide, wd_218, Or.inl rfl⟩, (fun _ h => absurd h List.not_mem_nil)⟩)⟩
set_option maxRecDepth 100000 in
set_option maxHeartbeats 4000000 in
theorem lk_183 : en_LS "EvenSteps" 68 3 [(0, 128)] := ⟨0, 128, ⟨"EvenSteps", "signOf", "(JJJ)I"⟩, prog_1_method_68_code, 10, (some .int), rfl, me_128, np_18, wd_267, Or.inl wd_266⟩
set_option maxRecDepth 100000 in
set_option maxHeartbeats 4000000 in
theorem lk_185 : en_FG "EvenSteps" 11 0 [(10, 0)] := ⟨"EvenSteps", (List.forall_mem_cons.mpr ⟨⟨"EvenSteps", en_T10, 11, rfl, by decide, wd_210, Or.inl rfl⟩, (fun _ h => absurd h List.not_mem_nil)⟩)⟩
set_option maxRecDepth 100000 in
set_option maxHeartbeats 4000000 in
theorem lk_187 : en_LI "EvenSteps" 74 4 [(6, 39)] := ⟨⟨"EvenSteps$Slope", "<init>", "(JJJJ)V"⟩, prog_9_method_1_code, 13, (List.forall_mem_cons.mpr ⟨me_39, (fun _ h => absurd h List.not_mem_nil)⟩), np_11, wd_272, rfl, wd_271⟩
set_option maxRecDepth 100000 in
set_option maxHeartbeats 4000000 in
theorem lk_188 : en_FP "EvenSteps" false 64 8 0 [(10, 0)] := ⟨"EvenSteps", (List.forall_mem_cons.mpr ⟨⟨"EvenSteps", en_T10, 11, .int, rfl, by decide, wd_218, Or.inl rfl, by decide +kernel, rfl, Or.inl rfl⟩, (fun _ h => absurd h List.not_mem_nil)⟩)⟩
set_option maxRecDepth 100000 in
set_option maxHeartbeats 4000000 in
theorem me_121 : en_ME 121 ⟨"EvenSteps", "done", "(I)I"⟩ prog_1_method_61_code 2 (some .int) := ⟨⟨p_X11_done, rfl⟩, wd_335, wd_63, ⟨by decide, by decide⟩, by decide⟩
set_option maxRecDepth 100000 in
set_option maxHeartbeats 4000000 in
theorem lk_189 : en_LV "EvenSteps" 77 1 [(10, 121)] := (List.forall_mem_cons.mpr ⟨⟨"EvenSteps", en_T10, 11, ⟨"EvenSteps", "done", "(I)I"⟩, ⟨"EvenSteps", "done", "(I)I"⟩, prog_1_method_61_code, 2, (some .int), "EvenSteps", rfl, me_121, np_8, wd_332, wd_1, wd_334, Or.inl ⟨rfl, rfl⟩⟩, (fun _ h => absurd h List.not_mem_nil)⟩)
set_option maxRecDepth 100000 in
set_option maxHeartbeats 4000000 in
theorem lk_190 : en_FG "EvenSteps" 80 9 [(10, 0)] := ⟨"EvenSteps", (List.forall_mem_cons.mpr ⟨⟨"EvenSteps", en_T10, 11, rfl, by decide, wd_219, Or.inl rfl⟩, (fun _ h => absurd h List.not_mem_nil)⟩)⟩
set_option maxRecDepth 100000 in
set_option maxHeartbeats 4000000 in
theorem lk_191 : en_FG "EvenSteps" 23 2 [(10, 0)] := ⟨"EvenSteps", (List.forall_mem_cons.mpr ⟨⟨"EvenSteps", en_T10, 11, rfl, by decide, wd_212, Or.inl rfl⟩, (fun _ h => absurd h List.not_mem_nil)⟩)⟩
set_option maxRecDepth 100000 in
set_option maxHeartbeats 4000000 in
theorem me_35 : en_ME 35 ⟨"EvenSteps$Sheet", "isMissing", "()Z"⟩ prog_8_method_2_code 1 (some .boolean) := ⟨⟨p_X6_isMissing, rfl⟩, wd_343, wd_67, ⟨by decide, by decide⟩, by decide⟩
set_option maxRecDepth 100000 in
set_option maxHeartbeats 4000000 in
theorem np_21 : en_np "()Z" 0 := by unfold en_np; decide +kernel
set_option maxRecDepth 100000 in
set_option maxHeartbeats 4000000 in
theorem lk_192 : en_LV "EvenSteps" 83 0 [(5, 35)] := (List.forall_mem_cons.mpr ⟨⟨"EvenSteps$Sheet", en_T5, 3, ⟨"EvenSteps$Sheet", "isMissing", "()Z"⟩, ⟨"EvenSteps$Sheet", "isMissing", "()Z"⟩, prog_8_method_2_code, 1, (some .boolean), "EvenSteps$Sheet", rfl, me_35, np_21, wd_340, wd_342, wd_341, Or.inl ⟨rfl, rfl⟩⟩, (fun _ h => absurd h List.not_mem_nil)⟩)
set_option maxRecDepth 100000 in
set_option maxHeartbeats 4000000 in
theorem lk_193 : en_FG "EvenSteps" 87 1 [(5, 0)] := ⟨"EvenSteps$Sheet", (List.forall_mem_cons.mpr ⟨⟨"EvenSteps$Sheet", en_T5, 3, rfl, by decide, wd_200, Or.inl rfl⟩, (fun _ h => absurd h List.not_mem_nil)⟩)⟩
set_option maxRecDepth 100000 in
set_option maxHeartbeats 4000000 in
theorem lk_194 : en_FG "EvenSteps" 90 2 [(5, 0)] := ⟨"EvenSteps$Sheet", (List.forall_mem_cons.mpr ⟨⟨"EvenSteps$Sheet", en_T5, 3, rfl, by decide, wd_202, Or.inl rfl⟩, (fun _ h => absurd h List.not_mem_nil)⟩)⟩
set_option maxRecDepth 100000 in
set_option maxHeartbeats 4000000 in
theorem me_37 : en_ME 37 ⟨"EvenSteps$Sheet", "tellsSteps", "(I)Z"⟩ prog_8_method_4_code 3 (some .boolean) := ⟨⟨p_X6_tellsSteps, rfl⟩, wd_347, wd_67, ⟨by decide, by decide⟩, by decide⟩
set_option maxRecDepth 100000 in
set_option maxHeartbeats 4000000 in
theorem lk_195 : en_LV "EvenSteps" 93 1 [(5, 37)] := (List.forall_mem_cons.mpr ⟨⟨"EvenSteps$Sheet", en_T5, 3, ⟨"EvenSteps$Sheet", "tellsSteps", "(I)Z"⟩, ⟨"EvenSteps$Sheet", "tellsSteps", "(I)Z"⟩, prog_8_method_4_code, 3, (some .boolean), "EvenSteps$Sheet", rfl, me_37, np_19, wd_344, wd_346, wd_345, Or.inl ⟨rfl, rfl⟩⟩, (fun _ h => absurd h List.not_mem_nil)⟩)
set_option maxRecDepth 100000 in
set_option maxHeartbeats 4000000 in
theorem me_38 : en_ME 38 ⟨"EvenSteps$Sheet", "copyOf", "(I)[I"⟩ prog_8_method_5_code 4 (some (.array .int)) := ⟨⟨p_X6_copyOf, rfl⟩, wd_353, wd_67, ⟨by decide, by decide⟩, by decide⟩
set_option maxRecDepth 100000 in
set_option maxHeartbeats 4000000 in
theorem np_22 : en_np "(I)[I" 1 := by unfold en_np; decide +kernel
set_option maxRecDepth 100000 in
set_option maxHeartbeats 4000000 in
theorem lk_197 : en_LV "EvenSteps" 98 1 [(5, 38)] := (List.forall_mem_cons.mpr ⟨⟨"EvenSteps$Sheet", en_T5, 3, ⟨"EvenSteps$Sheet", "copyOf", "(I)[I"⟩, ⟨"EvenSteps$Sheet", "copyOf", "(I)[I"⟩, prog_8_method_5_code, 4, (some (.array .int)), "EvenSteps$Sheet", rfl, me_38, np_22, wd_350, wd_352, wd_351, Or.inl ⟨rfl, rfl⟩⟩, (fun _ h => absurd h List.not_mem_nil)⟩)
set_option maxRecDepth 100000 in
set_option maxHeartbeats 4000000 in
theorem me_55 : en_ME 55 ⟨"EvenSteps$Told", "<init>", "(I[I)V"⟩ prog_11_method_1_code 3 none := ⟨⟨p_X9_init, rfl⟩, wd_359, wd_74, ⟨by decide, by decide⟩, by decide⟩
set_option maxRecDepth 100000 in
set_option maxHeartbeats 4000000 in
theorem np_23 : en_np "(I[I)V" 2 := by unfold en_np; decide +kernel
set_option maxRecDepth 100000 in
set_option maxHeartbeats 4000000 in
theorem lk_198 : en_LI "EvenSteps" 102 2 [(8, 55)] := ⟨⟨"EvenSteps$Told", "<init>", "(I[I)V"⟩, prog_11_method_1_code, 3, (List.forall_mem_cons.mpr ⟨me_55, (fun _ h => absurd h List.not_mem_nil)⟩), np_23, wd_358, rfl, wd_357⟩
set_option maxRecDepth 100000 in
set_option maxHeartbeats 4000000 in
theorem me_122 : en_ME 122 ⟨"EvenSteps", "keep", "(LEvenSteps$Row;)I"⟩ prog_1_method_62_code 2 (some .int) := ⟨⟨p_X11_keep, rfl⟩, wd_381, wd_63, ⟨by decide, by decide⟩, by decide⟩
set_option maxRecDepth 100000 in
set_option maxHeartbeats 4000000 in
theorem np_24 : en_np "(LEvenSteps$Row;)I" 1 := by unfold en_np; decide +kernel
set_option maxRecDepth 100000 in
set_option maxHeartbeats 4000000 in
theorem lk_199 : en_LV "EvenSteps" 105 1 [(10, 122)] := (List.forall_mem_cons.mpr ⟨⟨"EvenSteps", en_T10, 11, ⟨"EvenSteps", "keep", "(LEvenSteps$Row;)I"⟩, ⟨"EvenSteps", "keep", "(LEvenSteps$Row;)I"⟩, prog_1_method_62_code, 2, (some .int), "EvenSteps", rfl, me_122, np_24, wd_378, wd_2, wd_380, Or.inl ⟨rfl, rfl⟩⟩, (fun _ h => absurd h List.not_mem_nil)⟩)
set_option maxRecDepth 100000 in
set_option maxHeartbeats 4000000 in
theorem me_123 : en_ME 123 ⟨"EvenSteps", "slopeAt", "(I)LEvenSteps$Slope;"⟩ prog_1_method_63_code 2 (some (.object "EvenSteps$Slope")) := ⟨⟨p_X11_slopeAt, rfl⟩, wd_418, wd_63, ⟨by decide, by decide⟩, by decide⟩
set_option maxRecDepth 100000 in
set_option maxHeartbeats 4000000 in
theorem np_25 : en_np "(I)LEvenSteps$Slope;" 1 := by unfold en_np; decide +kernel
set_option maxRecDepth 100000 in
set_option maxHeartbeats 4000000 in
theorem lk_200 : en_LV "EvenSteps" 109 1 [(10, 123)] := (List.forall_mem_cons.mpr ⟨⟨"EvenSteps", en_T10, 11, ⟨"EvenSteps", "slopeAt", "(I)LEvenSteps$Slope;"⟩, ⟨"EvenSteps", "slopeAt", "(I)LEvenSteps$Slope;"⟩, prog_1_method_63_code, 2, (some (.object "EvenSteps$Slope")), "EvenSteps", rfl, me_123, np_25, wd_415, wd_5, wd_417, Or.inl ⟨rfl, rfl⟩⟩, (fun _ h => absurd h List.not_mem_nil)⟩)
set_option maxRecDepth 100000 in
set_option maxHeartbeats 4000000 in
theorem lk_202 : en_LI "EvenSteps" 115 5 [(2, 15), (3, 15), (4, 15)] := ⟨⟨"EvenSteps$Even", "<init>", "(ILEvenSteps$Slope;III)V"⟩, prog_4_method_1_code, 6, (List.forall_mem_cons.mpr ⟨me_15, (List.forall_mem_cons.mpr ⟨me_15, (List.forall_mem_cons.mpr ⟨me_15, (fun _ h => absurd h List.not_mem_nil)⟩)⟩)⟩), np_10, wd_422, rfl, wd_421⟩
set_option maxRecDepth 100000 in
set_option maxHeartbeats 4000000 in
theorem me_25 : en_ME 25 ⟨"EvenSteps$Ring", "<init>", "(III)V"⟩ prog_6_method_1_code 4 none := ⟨⟨p_X4_init, rfl⟩, wd_451, wd_76, ⟨by decide, by decide⟩, by decide⟩
set_option maxRecDepth 100000 in
set_option maxHeartbeats 4000000 in
theorem lk_204 : en_LI "EvenSteps" 120 3 [(4, 25)] := ⟨⟨"EvenSteps$Ring", "<init>", "(III)V"⟩, prog_6_method_1_code, 4, (List.forall_mem_cons.mpr ⟨me_25, (fun _ h => absurd h List.not_mem_nil)⟩), np_6, wd_450, rfl, wd_449⟩
set_option maxRecDepth 100000 in
set_option maxHeartbeats 4000000 in
theorem me_124 : en_ME 124 ⟨"EvenSteps", "rowAt", "(I)LEvenSteps$Row;"⟩ prog_1_method_64_code 2 (some (.object "EvenSteps$Row")) := ⟨⟨p_X11_rowAt, rfl⟩, wd_470, wd_63, ⟨by decide, by decide⟩, by decide⟩
set_option maxRecDepth 100000 in
set_option maxHeartbeats 4000000 in
theorem np_26 : en_np "(I)LEvenSteps$Row;" 1 := by unfold en_np; decide +kernel
set_option maxRecDepth 100000 in
set_option maxHeartbeats 4000000 in
theorem lk_205 : en_LV "EvenSteps" 123 1 [(10, 124)] := (List.forall_mem_cons.mpr ⟨⟨"EvenSteps", en_T10, 11, ⟨"EvenSteps", "rowAt", "(I)LEvenSteps$Row;"⟩, ⟨"EvenSteps", "rowAt", "(I)LEvenSteps$Row;"⟩, prog_1_method_64_code, 2, (some (.object "EvenSteps$Row")), "EvenSteps", rfl, me_124, np_26, wd_467, wd_6, wd_469, Or.inl ⟨rfl, rfl⟩⟩, (fun _ h => absurd h List.not_mem_nil)⟩)
set_option maxRecDepth 100000 in
set_option maxHeartbeats 4000000 in
theorem me_125 : en_ME 125 ⟨"EvenSteps", "isBits", "(II)Z"⟩ prog_1_method_65_code 2 (some .boolean) := ⟨⟨p_X11_isBits, rfl⟩, wd_473, wd_63, ⟨by decide, by decide⟩, by decide⟩
set_option maxRecDepth 100000 in
set_option maxHeartbeats 4000000 in
theorem lk_206 : en_LS "EvenSteps" 127 2 [(0, 125)] := ⟨0, 125, ⟨"EvenSteps", "isBits", "(II)Z"⟩, prog_1_method_65_code, 2, (some .boolean), rfl, me_125, np_3, wd_472, Or.inl wd_471⟩
set_option maxRecDepth 100000 in
set_option maxHeartbeats 4000000 in
theorem me_7 : en_ME 7 ⟨"EvenSteps$Cut", "<init>", "(ILEvenSteps$Row;IIII)V"⟩ prog_3_method_1_code 7 none := ⟨⟨p_X1_init, rfl⟩, wd_477, wd_77, ⟨by decide, by decide⟩, by decide⟩
set_option maxRecDepth 100000 in
set_option maxHeartbeats 4000000 in
theorem np_27 : en_np "(ILEvenSteps$Row;IIII)V" 6 := by unfold en_np; decide +kernel
set_option maxRecDepth 100000 in
set_option maxHeartbeats 4000000 in
theorem lk_208 : en_LI "EvenSteps" 133 6 [(1, 7)] := ⟨⟨"EvenSteps$Cut", "<init>", "(ILEvenSteps$Row;IIII)V"⟩, prog_3_method_1_code, 7, (List.forall_mem_cons.mpr ⟨me_7, (fun _ h => absurd h List.not_mem_nil)⟩), np_27, wd_476, rfl, wd_475⟩
set_option maxRecDepth 100000 in
set_option maxHeartbeats 4000000 in
theorem me_21 : en_ME 21 ⟨"EvenSteps$Points", "<init>", "(ILEvenSteps$Slope;I)V"⟩ prog_5_method_1_code 4 none := ⟨⟨p_X3_init, rfl⟩, wd_518, wd_78, ⟨by decide, by decide⟩, by decide⟩
set_option maxRecDepth 100000 in
set_option maxHeartbeats 4000000 in
theorem np_28 : en_np "(ILEvenSteps$Slope;I)V" 3 := by unfold en_np; decide +kernel
set_option maxRecDepth 100000 in
set_option maxHeartbeats 4000000 in
theorem lk_210 : en_LI "EvenSteps" 138 3 [(3, 21)] := ⟨⟨"EvenSteps$Points", "<init>", "(ILEvenSteps$Slope;I)V"⟩, prog_5_method_1_code, 4, (List.forall_mem_cons.mpr ⟨me_21, (fun _ h => absurd h List.not_mem_nil)⟩), np_28, wd_517, rfl, wd_516⟩
set_option maxRecDepth 100000 in
set_option maxHeartbeats 4000000 in
theorem me_69 : en_ME 69 ⟨"EvenSteps", "dropRow", "()I"⟩ prog_1_method_9_code 1 (some .int) := ⟨⟨p_X11_dropRow, rfl⟩, wd_534, wd_63, ⟨by decide, by decide⟩, by decide⟩
set_option maxRecDepth 100000 in
set_option maxHeartbeats 4000000 in
theorem np_29 : en_np "()I" 0 := by unfold en_np; decide +kernel
set_option maxRecDepth 100000 in
set_option maxHeartbeats 4000000 in
theorem lk_211 : en_LV "EvenSteps" 141 0 [(10, 69)] := (List.forall_mem_cons.mpr ⟨⟨"EvenSteps", en_T10, 11, ⟨"EvenSteps", "dropRow", "()I"⟩, ⟨"EvenSteps", "dropRow", "()I"⟩, prog_1_method_9_code, 1, (some .int), "EvenSteps", rfl, me_69, np_29, wd_531, wd_7, wd_533, Or.inl ⟨rfl, rfl⟩⟩, (fun _ h => absurd h List.not_mem_nil)⟩)
set_option maxRecDepth 100000 in
set_option maxHeartbeats 4000000 in
theorem me_70 : en_ME 70 ⟨"EvenSteps", "dropSlope", "()I"⟩ prog_1_method_10_code 1 (some .int) := ⟨⟨p_X11_dropSlope, rfl⟩, wd_538, wd_63, ⟨by decide, by decide⟩, by decide⟩
set_option maxRecDepth 100000 in
set_option maxHeartbeats 4000000 in
theorem lk_212 : en_LV "EvenSteps" 145 0 [(10, 70)] := (List.forall_mem_cons.mpr ⟨⟨"EvenSteps", en_T10, 11, ⟨"EvenSteps", "dropSlope", "()I"⟩, ⟨"EvenSteps", "dropSlope", "()I"⟩, prog_1_method_10_code, 1, (some .int), "EvenSteps", rfl, me_70, np_29, wd_535, wd_8, wd_537, Or.inl ⟨rfl, rfl⟩⟩, (fun _ h => absurd h List.not_mem_nil)⟩)
set_option maxRecDepth 100000 in
set_option maxHeartbeats 4000000 in
theorem lk_213 : en_FP "EvenSteps" false 80 9 0 [(10, 0)] := ⟨"EvenSteps", (List.forall_mem_cons.mpr ⟨⟨"EvenSteps", en_T10, 11, .int, rfl, by decide, wd_219, Or.inl rfl, by decide +kernel, rfl, Or.inl rfl⟩, (fun _ h => absurd h List.not_mem_nil)⟩)⟩
set_option maxRecDepth 100000 in
set_option maxHeartbeats 4000000 in
theorem lk_214 : en_FG "EvenSteps" 17 1 [(10, 0)] := ⟨"EvenSteps", (List.forall_mem_cons.mpr ⟨⟨"EvenSteps", en_T10, 11, rfl, by decide, wd_211, Or.inl rfl⟩, (fun _ h => absurd h List.not_mem_nil)⟩)⟩
set_option maxRecDepth 100000 in
set_option maxHeartbeats 4000000 in
theorem me_71 : en_ME 71 ⟨"EvenSteps", "isInUse", "(I)Z"⟩ prog_1_method_11_code 5 (some .boolean) := ⟨⟨p_X11_isInUse, rfl⟩, wd_542, wd_63, ⟨by decide, by decide⟩, by decide⟩
set_option maxRecDepth 100000 in
set_option maxHeartbeats 4000000 in
theorem lk_215 : en_LV "EvenSteps" 148 1 [(10, 71)] := (List.forall_mem_cons.mpr ⟨⟨"EvenSteps", en_T10, 11, ⟨"EvenSteps", "isInUse", "(I)Z"⟩, ⟨"EvenSteps", "isInUse", "(I)Z"⟩, prog_1_method_11_code, 5, (some .boolean), "EvenSteps", rfl, me_71, np_19, wd_539, wd_9, wd_541, Or.inl ⟨rfl, rfl⟩⟩, (fun _ h => absurd h List.not_mem_nil)⟩)
set_option maxRecDepth 100000 in
set_option maxHeartbeats 4000000 in
theorem lk_216 : ∀ q ∈ ([(1, 0), (2, 1), (3, 1), (4, 1), (8, 0)] : List (Nat × Nat)), ∃ r, en_cs[q.1]? = some r ∧ ((q.2 = 0 ∧ (r.1, "EvenSteps$Even") ∈ en_ncl) ∨ (q.2 ≠ 0 ∧ (r.1 = "EvenSteps$Even" ∨ Cond.castable r.1 "EvenSteps$Even" ∈ en_nwl))) := (List.forall_mem_cons.mpr ⟨⟨_, rfl, Or.inl ⟨rfl, by decide +kernel⟩⟩, (List.forall_mem_cons.mpr ⟨⟨_, rfl, Or.inr ⟨by decide, Or.inl rfl⟩⟩, (List.forall_mem_cons.mpr ⟨⟨_, rfl, Or.inr ⟨by decide, Or.inr (by decide +kernel)⟩⟩, (List.forall_mem_cons.mpr ⟨⟨_, rfl, Or.inr ⟨by decide, Or.inr (by decide +kernel)⟩⟩, (List.forall_mem_cons.mpr ⟨⟨_, rfl, Or.inl ⟨rfl, by decide +kernel⟩⟩, (fun _ h => absurd h List.not_mem_nil)⟩)⟩)⟩)⟩)⟩)
set_option maxRecDepth 100000 in
set_option maxHeartbeats 4000000 in
theorem lk_217 : ∀ q ∈ ([(2, 1), (3, 1), (4, 1)] : List (Nat × Nat)), ∃ r, en_cs[q.1]? = some r ∧ (r.1 = "EvenSteps$Even" ∨ Cond.castable r.1 "EvenSteps$Even" ∈ en_nwl) := (List.forall_mem_cons.mpr ⟨⟨_, rfl, Or.inl rfl⟩, (List.forall_mem_cons.mpr ⟨⟨_, rfl, Or.inr (by decide +kernel)⟩, (List.forall_mem_cons.mpr ⟨⟨_, rfl, Or.inr (by decide +kernel)⟩, (fun _ h => absurd h List.not_mem_nil)⟩)⟩)⟩)
set_option maxRecDepth 100000 in
set_option maxHeartbeats 4000000 in
theorem lk_218 : en_FG "EvenSteps" 151 3 [(2, 0), (3, 0), (4, 0)] := ⟨"EvenSteps$Even", (List.forall_mem_cons.mpr ⟨⟨"EvenSteps$Even", en_T2, 6, rfl, by decide, wd_429, Or.inl rfl⟩, (List.forall_mem_cons.mpr ⟨⟨"EvenSteps$Points", en_T3, 6, rfl, by decide, wd_429, Or.inl rfl⟩, (List.forall_mem_cons.mpr ⟨⟨"EvenSteps$Ring", en_T4, 6, rfl, by decide, wd_429, Or.inl rfl⟩, (fun _ h => absurd h List.not_mem_nil)⟩)⟩)⟩)⟩
set_option maxRecDepth 100000 in
set_option maxHeartbeats 4000000 in
theorem lk_219 : en_FG "EvenSteps" 30 3 [(10, 0)] := ⟨"EvenSteps", (List.forall_mem_cons.mpr ⟨⟨"EvenSteps", en_T10, 11, rfl, by decide, wd_213, Or.inl rfl⟩, (fun _ h => absurd h List.not_mem_nil)⟩)⟩
set_option maxRecDepth 100000 in
set_option maxHeartbeats 4000000 in
theorem lk_220 : en_FG "EvenSteps" 154 1 [(9, 0)] := ⟨"EvenSteps$Trace", (List.forall_mem_cons.mpr ⟨⟨"EvenSteps$Trace", en_T9, 2, rfl, by decide, wd_102, Or.inl rfl⟩, (fun _ h => absurd h List.not_mem_nil)⟩)⟩
set_option maxRecDepth 100000 in
set_option maxHeartbeats 4000000 in
theorem lk_222 : en_LV "EvenSteps" 156 3 [(6, 44)] := (List.forall_mem_cons.mpr ⟨⟨"EvenSteps$Slope", en_T6, 8, ⟨"EvenSteps$Slope", "wholeOf", "(JJJ)J"⟩, ⟨"EvenSteps$Slope", "wholeOf", "(JJJ)J"⟩, prog_9_method_6_code, 15, (some .long), "EvenSteps$Slope", rfl, me_44, np_0, wd_552, wd_398, wd_397, Or.inl ⟨rfl, rfl⟩⟩, (fun _ h => absurd h List.not_mem_nil)⟩)
set_option maxRecDepth 100000 in
set_option maxHeartbeats 4000000 in
theorem lk_225 : en_LV "EvenSteps" 162 2 [(6, 45)] := (List.forall_mem_cons.mpr ⟨⟨"EvenSteps$Slope", en_T6, 8, ⟨"EvenSteps$Slope", "signOfSum", "(JJ)I"⟩, ⟨"EvenSteps$Slope", "signOfSum", "(JJ)I"⟩, prog_9_method_7_code, 5, (some .int), "EvenSteps$Slope", rfl, me_45, np_4, wd_559, wd_561, wd_560, Or.inl ⟨rfl, rfl⟩⟩, (fun _ h => absurd h List.not_mem_nil)⟩)
set_option maxRecDepth 100000 in
set_option maxHeartbeats 4000000 in
theorem lk_226 : en_FG "EvenSteps" 166 1 [(6, 0)] := ⟨"EvenSteps$Slope", (List.forall_mem_cons.mpr ⟨⟨"EvenSteps$Slope", en_T6, 8, rfl, by decide, wd_306, Or.inl rfl⟩, (fun _ h => absurd h List.not_mem_nil)⟩)⟩
set_option maxRecDepth 100000 in
set_option maxHeartbeats 4000000 in
theorem lk_227 : en_FG "EvenSteps" 169 0 [(6, 0)] := ⟨"EvenSteps$Slope", (List.forall_mem_cons.mpr ⟨⟨"EvenSteps$Slope", en_T6, 8, rfl, by decide, wd_304, Or.inl rfl⟩, (fun _ h => absurd h List.not_mem_nil)⟩)⟩
set_option maxRecDepth 100000 in
set_option maxHeartbeats 4000000 in
theorem me_80 : en_ME 80 ⟨"EvenSteps", "lineAt", "(LEvenSteps$Slope;I)I"⟩ prog_1_method_20_code 2 (some .int) := ⟨⟨p_X11_lineAt, rfl⟩, wd_574, wd_63, ⟨by decide, by decide⟩, by decide⟩
set_option maxRecDepth 100000 in
set_option maxHeartbeats 4000000 in
theorem np_30 : en_np "(LEvenSteps$Slope;I)I" 2 := by unfold en_np; decide +kernel
set_option maxRecDepth 100000 in
set_option maxHeartbeats 4000000 in
theorem lk_228 : en_LS "EvenSteps" 172 2 [(0, 80)] := ⟨0, 80, ⟨"EvenSteps", "lineAt", "(LEvenSteps$Slope;I)I"⟩, prog_1_method_20_code, 2, (some .int), rfl, me_80, np_30, wd_573, Or.inl wd_572⟩
set_option maxRecDepth 100000 in
set_option maxHeartbeats 4000000 in
theorem me_214 : en_ME 214 ⟨"java/lang/Math", "floorMod", "(JJ)J"⟩ prog_17_method_52_code 6 (some .long) := ⟨⟨p_J9_floorMod_f86c9, rfl⟩, wd_581, wd_72, ⟨by decide, by decide⟩, by decide⟩
set_option maxRecDepth 100000 in
set_option maxHeartbeats 4000000 in
theorem lk_229 : en_LS "EvenSteps" 176 2 [(0, 214)] := ⟨0, 214, ⟨"java/lang/Math", "floorMod", "(JJ)J"⟩, prog_17_method_52_code, 6, (some .long), rfl, me_214, np_14, wd_580, Or.inl wd_579⟩
set_option maxRecDepth 100000 in
set_option maxHeartbeats 4000000 in
theorem lk_230 : en_FG "EvenSteps" 182 3 [(6, 0)] := ⟨"EvenSteps$Slope", (List.forall_mem_cons.mpr ⟨⟨"EvenSteps$Slope", en_T6, 8, rfl, by decide, wd_310, Or.inl rfl⟩, (fun _ h => absurd h List.not_mem_nil)⟩)⟩
set_option maxRecDepth 100000 in
set_option maxHeartbeats 4000000 in
theorem lk_231 : en_FG "EvenSteps" 185 2 [(6, 0)] := ⟨"EvenSteps$Slope", (List.forall_mem_cons.mpr ⟨⟨"EvenSteps$Slope", en_T6, 8, rfl, by decide, wd_308, Or.inl rfl⟩, (fun _ h => absurd h List.not_mem_nil)⟩)⟩
set_option maxRecDepth 100000 in
set_option maxHeartbeats 4000000 in
theorem lk_232 : en_LS "EvenSteps" 188 2 [(0, 217)] := ⟨0, 217, ⟨"java/lang/Math", "max", "(II)I"⟩, prog_17_method_65_code, 2, (some .int), rfl, me_217, np_12, wd_355, Or.inl wd_410⟩
set_option maxRecDepth 100000 in
set_option maxHeartbeats 4000000 in
theorem me_213 : en_ME 213 ⟨"java/lang/Math", "floorMod", "(II)I"⟩ prog_17_method_50_code 3 (some .int) := ⟨⟨p_J9_floorMod_7cf53, rfl⟩, wd_588, wd_72, ⟨by decide, by decide⟩, by decide⟩
set_option maxRecDepth 100000 in
set_option maxHeartbeats 4000000 in
theorem lk_233 : en_LS "EvenSteps" 192 2 [(0, 213)] := ⟨0, 213, ⟨"java/lang/Math", "floorMod", "(II)I"⟩, prog_17_method_50_code, 3, (some .int), rfl, me_213, np_12, wd_587, Or.inl wd_586⟩
set_option maxRecDepth 100000 in
set_option maxHeartbeats 4000000 in
theorem me_211 : en_ME 211 ⟨"java/lang/Math", "floorDiv", "(II)I"⟩ prog_17_method_47_code 3 (some .int) := ⟨⟨p_J9_floorDiv_7cf53, rfl⟩, wd_591, wd_72, ⟨by decide, by decide⟩, by decide⟩
set_option maxRecDepth 100000 in
set_option maxHeartbeats 4000000 in
theorem lk_234 : en_LS "EvenSteps" 194 2 [(0, 211)] := ⟨0, 211, ⟨"java/lang/Math", "floorDiv", "(II)I"⟩, prog_17_method_47_code, 3, (some .int), rfl, me_211, np_12, wd_590, Or.inl wd_589⟩
set_option maxRecDepth 100000 in
set_option maxHeartbeats 4000000 in
theorem me_46 : en_ME 46 ⟨"EvenSteps$Slope", "sharesWith", "(LEvenSteps$Slope;)Z"⟩ prog_9_method_8_code 6 (some .boolean) := ⟨⟨p_X7_sharesWith, rfl⟩, wd_603, wd_71, ⟨by decide, by decide⟩, by decide⟩
set_option maxRecDepth 100000 in
set_option maxHeartbeats 4000000 in
theorem np_31 : en_np "(LEvenSteps$Slope;)Z" 1 := by unfold en_np; decide +kernel
set_option maxRecDepth 100000 in
set_option maxHeartbeats 4000000 in
theorem lk_235 : en_LV "EvenSteps" 197 1 [(6, 46)] := (List.forall_mem_cons.mpr ⟨⟨"EvenSteps$Slope", en_T6, 8, ⟨"EvenSteps$Slope", "sharesWith", "(LEvenSteps$Slope;)Z"⟩, ⟨"EvenSteps$Slope", "sharesWith", "(LEvenSteps$Slope;)Z"⟩, prog_9_method_8_code, 6, (some .boolean), "EvenSteps$Slope", rfl, me_46, np_31, wd_600, wd_602, wd_601, Or.inl ⟨rfl, rfl⟩⟩, (fun _ h => absurd h List.not_mem_nil)⟩)
set_option maxRecDepth 100000 in
set_option maxHeartbeats 4000000 in
theorem me_82 : en_ME 82 ⟨"EvenSteps", "unshared", "(LEvenSteps$Slope;LEvenSteps$Slope;)I"⟩ prog_1_method_22_code 7 (some .int) := ⟨⟨p_X11_unshared, rfl⟩, wd_606, wd_63, ⟨by decide, by decide⟩, by decide⟩
set_option maxRecDepth 100000 in
set_option maxHeartbeats 4000000 in
theorem np_32 : en_np "(LEvenSteps$Slope;LEvenSteps$Slope;)I" 2 := by unfold en_np; decide +kernel
set_option maxRecDepth 100000 in
set_option maxHeartbeats 4000000 in
theorem lk_236 : en_LS "EvenSteps" 201 2 [(0, 82)] := ⟨0, 82, ⟨"EvenSteps", "unshared", "(LEvenSteps$Slope;LEvenSteps$Slope;)I"⟩, prog_1_method_22_code, 7, (some .int), rfl, me_82, np_32, wd_605, Or.inl wd_604⟩
set_option maxRecDepth 100000 in
set_option maxHeartbeats 4000000 in
theorem me_83 : en_ME 83 ⟨"EvenSteps", "tellings", "(LEvenSteps$Slope;II)I"⟩ prog_1_method_23_code 4 (some .int) := ⟨⟨p_X11_tellings, rfl⟩, wd_610, wd_63, ⟨by decide, by decide⟩, by decide⟩
set_option maxRecDepth 100000 in
set_option maxHeartbeats 4000000 in
theorem np_33 : en_np "(LEvenSteps$Slope;II)I" 3 := by unfold en_np; decide +kernel
set_option maxRecDepth 100000 in
set_option maxHeartbeats 4000000 in
theorem lk_239 : en_LS "EvenSteps" 209 3 [(0, 83)] := ⟨0, 83, ⟨"EvenSteps", "tellings", "(LEvenSteps$Slope;II)I"⟩, prog_1_method_23_code, 4, (some .int), rfl, me_83, np_33, wd_609, Or.inl wd_608⟩
set_option maxRecDepth 100000 in
set_option maxHeartbeats 4000000 in
theorem me_8 : en_ME 8 ⟨"EvenSteps$Cut", "kindNumber", "()I"⟩ prog_3_method_2_code 1 (some .int) := ⟨⟨p_X1_kindNumber, rfl⟩, wd_620, wd_77, ⟨by decide, by decide⟩, by decide⟩
set_option maxRecDepth 100000 in
set_option maxHeartbeats 4000000 in
theorem me_16 : en_ME 16 ⟨"EvenSteps$Even", "kindNumber", "()I"⟩ prog_4_method_2_code 1 (some .int) := ⟨⟨p_X2_kindNumber, rfl⟩, wd_623, wd_75, ⟨by decide, by decide⟩, by decide⟩
set_option maxRecDepth 100000 in
set_option maxHeartbeats 4000000 in
theorem me_22 : en_ME 22 ⟨"EvenSteps$Points", "kindNumber", "()I"⟩ prog_5_method_2_code 1 (some .int) := ⟨⟨p_X3_kindNumber, rfl⟩, wd_626, wd_78, ⟨by decide, by decide⟩, by decide⟩
set_option maxRecDepth 100000 in
set_option maxHeartbeats 4000000 in
theorem me_26 : en_ME 26 ⟨"EvenSteps$Ring", "kindNumber", "()I"⟩ prog_6_method_2_code 1 (some .int) := ⟨⟨p_X4_kindNumber, rfl⟩, wd_629, wd_76, ⟨by decide, by decide⟩, by decide⟩
set_option maxRecDepth 100000 in
set_option maxHeartbeats 4000000 in
theorem me_56 : en_ME 56 ⟨"EvenSteps$Told", "kindNumber", "()I"⟩ prog_11_method_2_code 1 (some .int) := ⟨⟨p_X9_kindNumber, rfl⟩, wd_632, wd_74, ⟨by decide, by decide⟩, by decide⟩
set_option maxRecDepth 100000 in
set_option maxHeartbeats 4000000 in
theorem lk_240 : en_LV "EvenSteps" 213 0 [(1, 8), (2, 16), (3, 22), (4, 26), (8, 56)] := (List.forall_mem_cons.mpr ⟨⟨"EvenSteps$Cut", en_T1, 11, ⟨"EvenSteps$Row", "kindNumber", "()I"⟩, ⟨"EvenSteps$Cut", "kindNumber", "()I"⟩, prog_3_method_2_code, 1, (some .int), "EvenSteps$Row", rfl, me_8, np_29, wd_615, wd_618, wd_619, Or.inr ⟨wd_617, ⟨by decide, by decide⟩, Or.inr (Or.inr (by decide +kernel))⟩⟩, (List.forall_mem_cons.mpr ⟨⟨"EvenSteps$Even", en_T2, 6, ⟨"EvenSteps$Row", "kindNumber", "()I"⟩, ⟨"EvenSteps$Even", "kindNumber", "()I"⟩, prog_4_method_2_code, 1, (some .int), "EvenSteps$Row", rfl, me_16, np_29, wd_615, wd_621, wd_622, Or.inr ⟨wd_617, ⟨by decide, by decide⟩, Or.inr (Or.inr (by decide +kernel))⟩⟩, (List.forall_mem_cons.mpr ⟨⟨"EvenSteps$Points", en_T3, 6, ⟨"EvenSteps$Row", "kindNumber", "()I"⟩, ⟨"EvenSteps$Points", "kindNumber", "()I"⟩, prog_5_method_2_code, 1, (some .int), "EvenSteps$Row", rfl, me_22, np_29, wd_615, wd_624, wd_625, Or.inr ⟨wd_617, ⟨by decide, by decide⟩, Or.inr (Or.inr (by decide +kernel))⟩⟩, (List.forall_mem_cons.mpr ⟨⟨"EvenSteps$Ring", en_T4, 6, ⟨"EvenSteps$Row", "kindNumber", "()I"⟩, ⟨"EvenSteps$Ring", "kindNumber", "()I"⟩, prog_6_method_2_code, 1, (some .int), "EvenSteps$Row", rfl, me_26, np_29, wd_615, wd_627, wd_628, Or.inr ⟨wd_617, ⟨by decide, by decide⟩, Or.inr (Or.inr (by decide +kernel))⟩⟩, (List.forall_mem_cons.mpr ⟨⟨"EvenSteps$Told", en_T8, 3, ⟨"EvenSteps$Row", "kindNumber", "()I"⟩, ⟨"EvenSteps$Told", "kindNumber", "()I"⟩, prog_11_method_2_code, 1, (some .int), "EvenSteps$Row", rfl, me_56, np_29, wd_615, wd_630, wd_631, Or.inr ⟨wd_617, ⟨by decide, by decide⟩, Or.inr (Or.inr (by decide +kernel))⟩⟩, (fun _ h => absurd h List.not_mem_nil)⟩)⟩)⟩)⟩)⟩)
set_option maxRecDepth 100000 in
set_option maxHeartbeats 4000000 in
theorem lk_241 : en_LV "EvenSteps" 216 1 [(1, 9), (2, 17), (3, 17), (4, 17), (8, 57)] := (List.forall_mem_cons.mpr ⟨⟨"EvenSteps$Cut", en_T1, 11, ⟨"EvenSteps$Row", "stepAt", "(I)I"⟩, ⟨"EvenSteps$Cut", "stepAt", "(I)I"⟩, prog_3_method_3_code, 2, (some .int), "EvenSteps$Row", rfl, me_9, np_8, wd_382, wd_385, wd_386, Or.inr ⟨wd_384, ⟨by decide, by decide⟩, Or.inr (Or.inr (by decide +kernel))⟩⟩, (List.forall_mem_cons.mpr ⟨⟨"EvenSteps$Even", en_T2, 6, ⟨"EvenSteps$Row", "stepAt", "(I)I"⟩, ⟨"EvenSteps$Even", "stepAt", "(I)I"⟩, prog_4_method_3_code, 2, (some .int), "EvenSteps$Row", rfl, me_17, np_8, wd_382, wd_406, wd_394, Or.inr ⟨wd_384, ⟨by decide, by decide⟩, Or.inr (Or.inr (by decide +kernel))⟩⟩, (List.forall_mem_cons.mpr ⟨⟨"EvenSteps$Points", en_T3, 6, ⟨"EvenSteps$Row", "stepAt", "(I)I"⟩, ⟨"EvenSteps$Even", "stepAt", "(I)I"⟩, prog_4_method_3_code, 2, (some .int), "EvenSteps$Row", rfl, me_17, np_8, wd_382, wd_407, wd_394, Or.inr ⟨wd_384, ⟨by decide, by decide⟩, Or.inr (Or.inr (by decide +kernel))⟩⟩, (List.forall_mem_cons.mpr ⟨⟨"EvenSteps$Ring", en_T4, 6, ⟨"EvenSteps$Row", "stepAt", "(I)I"⟩, ⟨"EvenSteps$Even", "stepAt", "(I)I"⟩, prog_4_method_3_code, 2, (some .int), "EvenSteps$Row", rfl, me_17, np_8, wd_382, wd_408, wd_394, Or.inr ⟨wd_384, ⟨by decide, by decide⟩, Or.inr (Or.inr (by decide +kernel))⟩⟩, (List.forall_mem_cons.mpr ⟨⟨"EvenSteps$Told", en_T8, 3, ⟨"EvenSteps$Row", "stepAt", "(I)I"⟩, ⟨"EvenSteps$Told", "stepAt", "(I)I"⟩, prog_11_method_3_code, 2, (some .int), "EvenSteps$Row", rfl, me_57, np_8, wd_382, wd_409, wd_400, Or.inr ⟨wd_384, ⟨by decide, by decide⟩, Or.inr (Or.inr (by decide +kernel))⟩⟩, (fun _ h => absurd h List.not_mem_nil)⟩)⟩)⟩)⟩)⟩)
set_option maxRecDepth 100000 in
set_option maxHeartbeats 4000000 in
theorem me_10 : en_ME 10 ⟨"EvenSteps$Cut", "sumOf", "(I)I"⟩ prog_3_method_4_code 4 (some .int) := ⟨⟨p_X1_sumOf, rfl⟩, wd_646, wd_77, ⟨by decide, by decide⟩, by decide⟩
set_option maxRecDepth 100000 in
set_option maxHeartbeats 4000000 in
theorem me_18 : en_ME 18 ⟨"EvenSteps$Even", "sumOf", "(I)I"⟩ prog_4_method_4_code 2 (some .int) := ⟨⟨p_X2_sumOf, rfl⟩, wd_655, wd_75, ⟨by decide, by decide⟩, by decide⟩
set_option maxRecDepth 100000 in
set_option maxHeartbeats 4000000 in
theorem me_58 : en_ME 58 ⟨"EvenSteps$Told", "sumOf", "(I)I"⟩ prog_11_method_4_code 4 (some .int) := ⟨⟨p_X9_sumOf, rfl⟩, wd_660, wd_74, ⟨by decide, by decide⟩, by decide⟩
set_option maxRecDepth 100000 in
set_option maxHeartbeats 4000000 in
theorem lk_242 : en_LV "EvenSteps" 219 1 [(1, 10), (2, 18), (3, 18), (4, 18), (8, 58)] := (List.forall_mem_cons.mpr ⟨⟨"EvenSteps$Cut", en_T1, 11, ⟨"EvenSteps$Row", "sumOf", "(I)I"⟩, ⟨"EvenSteps$Cut", "sumOf", "(I)I"⟩, prog_3_method_4_code, 4, (some .int), "EvenSteps$Row", rfl, me_10, np_8, wd_641, wd_644, wd_645, Or.inr ⟨wd_643, ⟨by decide, by decide⟩, Or.inr (Or.inr (by decide +kernel))⟩⟩, (List.forall_mem_cons.mpr ⟨⟨"EvenSteps$Even", en_T2, 6, ⟨"EvenSteps$Row", "sumOf", "(I)I"⟩, ⟨"EvenSteps$Even", "sumOf", "(I)I"⟩, prog_4_method_4_code, 2, (some .int), "EvenSteps$Row", rfl, me_18, np_8, wd_641, wd_653, wd_654, Or.inr ⟨wd_643, ⟨by decide, by decide⟩, Or.inr (Or.inr (by decide +kernel))⟩⟩, (List.forall_mem_cons.mpr ⟨⟨"EvenSteps$Points", en_T3, 6, ⟨"EvenSteps$Row", "sumOf", "(I)I"⟩, ⟨"EvenSteps$Even", "sumOf", "(I)I"⟩, prog_4_method_4_code, 2, (some .int), "EvenSteps$Row", rfl, me_18, np_8, wd_641, wd_656, wd_654, Or.inr ⟨wd_643, ⟨by decide, by decide⟩, Or.inr (Or.inr (by decide +kernel))⟩⟩, (List.forall_mem_cons.mpr ⟨⟨"EvenSteps$Ring", en_T4, 6, ⟨"EvenSteps$Row", "sumOf", "(I)I"⟩, ⟨"EvenSteps$Even", "sumOf", "(I)I"⟩, prog_4_method_4_code, 2, (some .int), "EvenSteps$Row", rfl, me_18, np_8, wd_641, wd_657, wd_654, Or.inr ⟨wd_643, ⟨by decide, by decide⟩, Or.inr (Or.inr (by decide +kernel))⟩⟩, (List.forall_mem_cons.mpr ⟨⟨"EvenSteps$Told", en_T8, 3, ⟨"EvenSteps$Row", "sumOf", "(I)I"⟩, ⟨"EvenSteps$Told", "sumOf", "(I)I"⟩, prog_11_method_4_code, 4, (some .int), "EvenSteps$Row", rfl, me_58, np_8, wd_641, wd_658, wd_659, Or.inr ⟨wd_643, ⟨by decide, by decide⟩, Or.inr (Or.inr (by decide +kernel))⟩⟩, (fun _ h => absurd h List.not_mem_nil)⟩)⟩)⟩)⟩)⟩)
set_option maxRecDepth 100000 in
set_option maxHeartbeats 4000000 in
theorem lk_243 : en_FG "EvenSteps" 37 4 [(10, 0)] := ⟨"EvenSteps", (List.forall_mem_cons.mpr ⟨⟨"EvenSteps", en_T10, 11, rfl, by decide, wd_214, Or.inl rfl⟩, (fun _ h => absurd h List.not_mem_nil)⟩)⟩
set_option maxRecDepth 100000 in
set_option maxHeartbeats 4000000 in
theorem me_49 : en_ME 49 ⟨"EvenSteps$Stretch", "read", "(LEvenSteps$Row;II)Z"⟩ prog_10_method_2_code 6 (some .boolean) := ⟨⟨p_X8_read, rfl⟩, wd_668, wd_65, ⟨by decide, by decide⟩, by decide⟩
set_option maxRecDepth 100000 in
set_option maxHeartbeats 4000000 in
theorem np_34 : en_np "(LEvenSteps$Row;II)Z" 3 := by unfold en_np; decide +kernel
set_option maxRecDepth 100000 in
set_option maxHeartbeats 4000000 in
theorem lk_244 : en_LV "EvenSteps" 222 3 [(7, 49)] := (List.forall_mem_cons.mpr ⟨⟨"EvenSteps$Stretch", en_T7, 11, ⟨"EvenSteps$Stretch", "read", "(LEvenSteps$Row;II)Z"⟩, ⟨"EvenSteps$Stretch", "read", "(LEvenSteps$Row;II)Z"⟩, prog_10_method_2_code, 6, (some .boolean), "EvenSteps$Stretch", rfl, me_49, np_34, wd_665, wd_667, wd_666, Or.inl ⟨rfl, rfl⟩⟩, (fun _ h => absurd h List.not_mem_nil)⟩)
set_option maxRecDepth 100000 in
set_option maxHeartbeats 4000000 in
theorem me_52 : en_ME 52 ⟨"EvenSteps$Stretch", "findClash", "()Z"⟩ prog_10_method_5_code 2 (some .boolean) := ⟨⟨p_X8_findClash, rfl⟩, wd_673, wd_65, ⟨by decide, by decide⟩, by decide⟩
set_option maxRecDepth 100000 in
set_option maxHeartbeats 4000000 in
theorem lk_245 : en_LV "EvenSteps" 226 0 [(7, 52)] := (List.forall_mem_cons.mpr ⟨⟨"EvenSteps$Stretch", en_T7, 11, ⟨"EvenSteps$Stretch", "findClash", "()Z"⟩, ⟨"EvenSteps$Stretch", "findClash", "()Z"⟩, prog_10_method_5_code, 2, (some .boolean), "EvenSteps$Stretch", rfl, me_52, np_21, wd_670, wd_672, wd_671, Or.inl ⟨rfl, rfl⟩⟩, (fun _ h => absurd h List.not_mem_nil)⟩)
set_option maxRecDepth 100000 in
set_option maxHeartbeats 4000000 in
theorem lk_246 : en_FG "EvenSteps" 229 0 [(7, 0)] := ⟨"EvenSteps$Stretch", (List.forall_mem_cons.mpr ⟨⟨"EvenSteps$Stretch", en_T7, 11, rfl, by decide, wd_116, Or.inl rfl⟩, (fun _ h => absurd h List.not_mem_nil)⟩)⟩
set_option maxRecDepth 100000 in
set_option maxHeartbeats 4000000 in
theorem lk_247 : en_FG "EvenSteps" 232 1 [(7, 0)] := ⟨"EvenSteps$Stretch", (List.forall_mem_cons.mpr ⟨⟨"EvenSteps$Stretch", en_T7, 11, rfl, by decide, wd_118, Or.inl rfl⟩, (fun _ h => absurd h List.not_mem_nil)⟩)⟩
set_option maxRecDepth 100000 in
set_option maxHeartbeats 4000000 in
theorem lk_248 : en_FG "EvenSteps" 235 2 [(7, 0)] := ⟨"EvenSteps$Stretch", (List.forall_mem_cons.mpr ⟨⟨"EvenSteps$Stretch", en_T7, 11, rfl, by decide, wd_120, Or.inl rfl⟩, (fun _ h => absurd h List.not_mem_nil)⟩)⟩
set_option maxRecDepth 100000 in
set_option maxHeartbeats 4000000 in
theorem me_54 : en_ME 54 ⟨"EvenSteps$Stretch", "findRange", "()Z"⟩ prog_10_method_7_code 2 (some .boolean) := ⟨⟨p_X8_findRange, rfl⟩, wd_704, wd_65, ⟨by decide, by decide⟩, by decide⟩
set_option maxRecDepth 100000 in
set_option maxHeartbeats 4000000 in
theorem lk_249 : en_LV "EvenSteps" 238 0 [(7, 54)] := (List.forall_mem_cons.mpr ⟨⟨"EvenSteps$Stretch", en_T7, 11, ⟨"EvenSteps$Stretch", "findRange", "()Z"⟩, ⟨"EvenSteps$Stretch", "findRange", "()Z"⟩, prog_10_method_7_code, 2, (some .boolean), "EvenSteps$Stretch", rfl, me_54, np_21, wd_701, wd_703, wd_702, Or.inl ⟨rfl, rfl⟩⟩, (fun _ h => absurd h List.not_mem_nil)⟩)
set_option maxRecDepth 100000 in
set_option maxHeartbeats 4000000 in
theorem lk_250 : en_FG "EvenSteps" 241 3 [(7, 0)] := ⟨"EvenSteps$Stretch", (List.forall_mem_cons.mpr ⟨⟨"EvenSteps$Stretch", en_T7, 11, rfl, by decide, wd_122, Or.inl rfl⟩, (fun _ h => absurd h List.not_mem_nil)⟩)⟩
set_option maxRecDepth 100000 in
set_option maxHeartbeats 4000000 in
theorem lk_251 : en_FG "EvenSteps" 244 5 [(7, 0)] := ⟨"EvenSteps$Stretch", (List.forall_mem_cons.mpr ⟨⟨"EvenSteps$Stretch", en_T7, 11, rfl, by decide, wd_126, Or.inl rfl⟩, (fun _ h => absurd h List.not_mem_nil)⟩)⟩
set_option maxRecDepth 100000 in
set_option maxHeartbeats 4000000 in
theorem lk_252 : en_FG "EvenSteps" 247 4 [(7, 0)] := ⟨"EvenSteps$Stretch", (List.forall_mem_cons.mpr ⟨⟨"EvenSteps$Stretch", en_T7, 11, rfl, by decide, wd_124, Or.inl rfl⟩, (fun _ h => absurd h List.not_mem_nil)⟩)⟩
set_option maxRecDepth 100000 in
set_option maxHeartbeats 4000000 in
theorem lk_253 : en_FG "EvenSteps" 250 6 [(7, 0)] := ⟨"EvenSteps$Stretch", (List.forall_mem_cons.mpr ⟨⟨"EvenSteps$Stretch", en_T7, 11, rfl, by decide, wd_128, Or.inl rfl⟩, (fun _ h => absurd h List.not_mem_nil)⟩)⟩
set_option maxRecDepth 100000 in
set_option maxHeartbeats 4000000 in
theorem lk_254 : en_LS "EvenSteps" 253 2 [(0, 129)] := ⟨0, 129, ⟨"EvenSteps", "commonOf", "(JJ)J"⟩, prog_1_method_69_code, 11, (some .long), rfl, me_129, np_14, wd_280, Or.inl wd_705⟩
set_option maxRecDepth 100000 in
set_option maxHeartbeats 4000000 in
theorem me_91 : en_ME 91 ⟨"EvenSteps", "readPartSteps", "(LEvenSteps$Row;)I"⟩ prog_1_method_31_code 4 (some .int) := ⟨⟨p_X11_readPartSteps, rfl⟩, wd_713, wd_63, ⟨by decide, by decide⟩, by decide⟩
set_option maxRecDepth 100000 in
set_option maxHeartbeats 4000000 in
theorem lk_255 : en_LV "EvenSteps" 256 1 [(10, 91)] := (List.forall_mem_cons.mpr ⟨⟨"EvenSteps", en_T10, 11, ⟨"EvenSteps", "readPartSteps", "(LEvenSteps$Row;)I"⟩, ⟨"EvenSteps", "readPartSteps", "(LEvenSteps$Row;)I"⟩, prog_1_method_31_code, 4, (some .int), "EvenSteps", rfl, me_91, np_24, wd_710, wd_13, wd_712, Or.inl ⟨rfl, rfl⟩⟩, (fun _ h => absurd h List.not_mem_nil)⟩)
set_option maxRecDepth 100000 in
set_option maxHeartbeats 4000000 in
theorem me_92 : en_ME 92 ⟨"EvenSteps", "findUnlike", "(II)I"⟩ prog_1_method_32_code 5 (some .int) := ⟨⟨p_X11_findUnlike, rfl⟩, wd_717, wd_63, ⟨by decide, by decide⟩, by decide⟩
set_option maxRecDepth 100000 in
set_option maxHeartbeats 4000000 in
theorem lk_256 : en_LV "EvenSteps" 259 2 [(10, 92)] := (List.forall_mem_cons.mpr ⟨⟨"EvenSteps", en_T10, 11, ⟨"EvenSteps", "findUnlike", "(II)I"⟩, ⟨"EvenSteps", "findUnlike", "(II)I"⟩, prog_1_method_32_code, 5, (some .int), "EvenSteps", rfl, me_92, np_12, wd_714, wd_14, wd_716, Or.inl ⟨rfl, rfl⟩⟩, (fun _ h => absurd h List.not_mem_nil)⟩)
set_option maxRecDepth 100000 in
set_option maxHeartbeats 4000000 in
theorem lk_257 : en_FG "EvenSteps" 52 7 [(10, 0)] := ⟨"EvenSteps", (List.forall_mem_cons.mpr ⟨⟨"EvenSteps", en_T10, 11, rfl, by decide, wd_217, Or.inl rfl⟩, (fun _ h => absurd h List.not_mem_nil)⟩)⟩
set_option maxRecDepth 100000 in
set_option maxHeartbeats 4000000 in
theorem me_95 : en_ME 95 ⟨"EvenSteps", "readsAlikeBackward", "(II)Z"⟩ prog_1_method_35_code 4 (some .boolean) := ⟨⟨p_X11_readsAlikeBackward, rfl⟩, wd_729, wd_63, ⟨by decide, by decide⟩, by decide⟩
set_option maxRecDepth 100000 in
set_option maxHeartbeats 4000000 in
theorem lk_258 : en_LV "EvenSteps" 262 2 [(10, 95)] := (List.forall_mem_cons.mpr ⟨⟨"EvenSteps", en_T10, 11, ⟨"EvenSteps", "readsAlikeBackward", "(II)Z"⟩, ⟨"EvenSteps", "readsAlikeBackward", "(II)Z"⟩, prog_1_method_35_code, 4, (some .boolean), "EvenSteps", rfl, me_95, np_3, wd_726, wd_17, wd_728, Or.inl ⟨rfl, rfl⟩⟩, (fun _ h => absurd h List.not_mem_nil)⟩)
set_option maxRecDepth 100000 in
set_option maxHeartbeats 4000000 in
theorem lk_259 : en_FG "EvenSteps" 48 6 [(10, 0)] := ⟨"EvenSteps", (List.forall_mem_cons.mpr ⟨⟨"EvenSteps", en_T10, 11, rfl, by decide, wd_216, Or.inl rfl⟩, (fun _ h => absurd h List.not_mem_nil)⟩)⟩
set_option maxRecDepth 100000 in
set_option maxHeartbeats 4000000 in
theorem me_93 : en_ME 93 ⟨"EvenSteps", "isAmongParts", "(III)Z"⟩ prog_1_method_33_code 5 (some .boolean) := ⟨⟨p_X11_isAmongParts, rfl⟩, wd_721, wd_63, ⟨by decide, by decide⟩, by decide⟩
set_option maxRecDepth 100000 in
set_option maxHeartbeats 4000000 in
theorem np_35 : en_np "(III)Z" 3 := by unfold en_np; decide +kernel
set_option maxRecDepth 100000 in
set_option maxHeartbeats 4000000 in
theorem lk_260 : en_LV "EvenSteps" 265 3 [(10, 93)] := (List.forall_mem_cons.mpr ⟨⟨"EvenSteps", en_T10, 11, ⟨"EvenSteps", "isAmongParts", "(III)Z"⟩, ⟨"EvenSteps", "isAmongParts", "(III)Z"⟩, prog_1_method_33_code, 5, (some .boolean), "EvenSteps", rfl, me_93, np_35, wd_718, wd_15, wd_720, Or.inl ⟨rfl, rfl⟩⟩, (fun _ h => absurd h List.not_mem_nil)⟩)
set_option maxRecDepth 100000 in
set_option maxHeartbeats 4000000 in
theorem me_94 : en_ME 94 ⟨"EvenSteps", "readsAlike", "(III)Z"⟩ prog_1_method_34_code 5 (some .boolean) := ⟨⟨p_X11_readsAlike, rfl⟩, wd_725, wd_63, ⟨by decide, by decide⟩, by decide⟩
set_option maxRecDepth 100000 in
set_option maxHeartbeats 4000000 in
theorem lk_261 : en_LV "EvenSteps" 269 3 [(10, 94)] := (List.forall_mem_cons.mpr ⟨⟨"EvenSteps", en_T10, 11, ⟨"EvenSteps", "readsAlike", "(III)Z"⟩, ⟨"EvenSteps", "readsAlike", "(III)Z"⟩, prog_1_method_34_code, 5, (some .boolean), "EvenSteps", rfl, me_94, np_35, wd_722, wd_16, wd_724, Or.inl ⟨rfl, rfl⟩⟩, (fun _ h => absurd h List.not_mem_nil)⟩)
set_option maxRecDepth 100000 in
set_option maxHeartbeats 4000000 in
theorem me_99 : en_ME 99 ⟨"EvenSteps", "layPoints", "(II)Z"⟩ prog_1_method_39_code 5 (some .boolean) := ⟨⟨p_X11_layPoints, rfl⟩, wd_737, wd_63, ⟨by decide, by decide⟩, by decide⟩
set_option maxRecDepth 100000 in
set_option maxHeartbeats 4000000 in
theorem lk_262 : en_LV "EvenSteps" 272 2 [(10, 99)] := (List.forall_mem_cons.mpr ⟨⟨"EvenSteps", en_T10, 11, ⟨"EvenSteps", "layPoints", "(II)Z"⟩, ⟨"EvenSteps", "layPoints", "(II)Z"⟩, prog_1_method_39_code, 5, (some .boolean), "EvenSteps", rfl, me_99, np_3, wd_734, wd_18, wd_736, Or.inl ⟨rfl, rfl⟩⟩, (fun _ h => absurd h List.not_mem_nil)⟩)
set_option maxRecDepth 100000 in
set_option maxHeartbeats 4000000 in
theorem lk_263 : en_FG "EvenSteps" 44 5 [(10, 0)] := ⟨"EvenSteps", (List.forall_mem_cons.mpr ⟨⟨"EvenSteps", en_T10, 11, rfl, by decide, wd_215, Or.inl rfl⟩, (fun _ h => absurd h List.not_mem_nil)⟩)⟩
set_option maxRecDepth 100000 in
set_option maxHeartbeats 4000000 in
theorem lk_264 : en_FG "EvenSteps" 275 4 [(0, 0)] := ⟨"EvenSteps$Circle", (List.forall_mem_cons.mpr ⟨⟨"EvenSteps$Circle", en_T0, 8, rfl, by decide, wd_171, Or.inl rfl⟩, (fun _ h => absurd h List.not_mem_nil)⟩)⟩
set_option maxRecDepth 100000 in
set_option maxHeartbeats 4000000 in
theorem lk_265 : en_FG "EvenSteps" 278 1 [(0, 0)] := ⟨"EvenSteps$Circle", (List.forall_mem_cons.mpr ⟨⟨"EvenSteps$Circle", en_T0, 8, rfl, by decide, wd_165, Or.inl rfl⟩, (fun _ h => absurd h List.not_mem_nil)⟩)⟩
set_option maxRecDepth 100000 in
set_option maxHeartbeats 4000000 in
theorem lk_266 : en_FG "EvenSteps" 281 2 [(0, 0)] := ⟨"EvenSteps$Circle", (List.forall_mem_cons.mpr ⟨⟨"EvenSteps$Circle", en_T0, 8, rfl, by decide, wd_167, Or.inl rfl⟩, (fun _ h => absurd h List.not_mem_nil)⟩)⟩
set_option maxRecDepth 100000 in
set_option maxHeartbeats 4000000 in
theorem lk_267 : en_FG "EvenSteps" 284 3 [(0, 0)] := ⟨"EvenSteps$Circle", (List.forall_mem_cons.mpr ⟨⟨"EvenSteps$Circle", en_T0, 8, rfl, by decide, wd_169, Or.inl rfl⟩, (fun _ h => absurd h List.not_mem_nil)⟩)⟩
set_option maxRecDepth 100000 in
set_option maxHeartbeats 4000000 in
theorem lk_268 : en_FG "EvenSteps" 287 0 [(0, 0)] := ⟨"EvenSteps$Circle", (List.forall_mem_cons.mpr ⟨⟨"EvenSteps$Circle", en_T0, 8, rfl, by decide, wd_163, Or.inl rfl⟩, (fun _ h => absurd h List.not_mem_nil)⟩)⟩
set_option maxRecDepth 100000 in
set_option maxHeartbeats 4000000 in
theorem lk_269 : ∀ q ∈ ([(1, 0), (2, 0), (3, 1), (4, 0), (8, 0)] : List (Nat × Nat)), ∃ r, en_cs[q.1]? = some r ∧ ((q.2 = 0 ∧ (r.1, "EvenSteps$Points") ∈ en_ncl) ∨ (q.2 ≠ 0 ∧ (r.1 = "EvenSteps$Points" ∨ Cond.castable r.1 "EvenSteps$Points" ∈ en_nwl))) := (List.forall_mem_cons.mpr ⟨⟨_, rfl, Or.inl ⟨rfl, by decide +kernel⟩⟩, (List.forall_mem_cons.mpr ⟨⟨_, rfl, Or.inl ⟨rfl, by decide +kernel⟩⟩, (List.forall_mem_cons.mpr ⟨⟨_, rfl, Or.inr ⟨by decide, Or.inl rfl⟩⟩, (List.forall_mem_cons.mpr ⟨⟨_, rfl, Or.inl ⟨rfl, by decide +kernel⟩⟩, (List.forall_mem_cons.mpr ⟨⟨_, rfl, Or.inl ⟨rfl, by decide +kernel⟩⟩, (fun _ h => absurd h List.not_mem_nil)⟩)⟩)⟩)⟩)⟩)
set_option maxRecDepth 100000 in
set_option maxHeartbeats 4000000 in
theorem lk_270 : ∀ q ∈ ([(3, 1)] : List (Nat × Nat)), ∃ r, en_cs[q.1]? = some r ∧ (r.1 = "EvenSteps$Points" ∨ Cond.castable r.1 "EvenSteps$Points" ∈ en_nwl) := (List.forall_mem_cons.mpr ⟨⟨_, rfl, Or.inl rfl⟩, (fun _ h => absurd h List.not_mem_nil)⟩)
set_option maxRecDepth 100000 in
set_option maxHeartbeats 4000000 in
theorem lk_271 : en_FG "EvenSteps" 290 2 [(3, 0)] := ⟨"EvenSteps$Points", (List.forall_mem_cons.mpr ⟨⟨"EvenSteps$Points", en_T3, 6, rfl, by decide, wd_426, Or.inr wd_427⟩, (fun _ h => absurd h List.not_mem_nil)⟩)⟩
set_option maxRecDepth 100000 in
set_option maxHeartbeats 4000000 in
theorem me_47 : en_ME 47 ⟨"EvenSteps$Slope", "hasUnlikePoints", "(I)Z"⟩ prog_9_method_9_code 2 (some .boolean) := ⟨⟨p_X7_hasUnlikePoints, rfl⟩, wd_741, wd_71, ⟨by decide, by decide⟩, by decide⟩
set_option maxRecDepth 100000 in
set_option maxHeartbeats 4000000 in
theorem lk_272 : en_LV "EvenSteps" 294 1 [(6, 47)] := (List.forall_mem_cons.mpr ⟨⟨"EvenSteps$Slope", en_T6, 8, ⟨"EvenSteps$Slope", "hasUnlikePoints", "(I)Z"⟩, ⟨"EvenSteps$Slope", "hasUnlikePoints", "(I)Z"⟩, prog_9_method_9_code, 2, (some .boolean), "EvenSteps$Slope", rfl, me_47, np_19, wd_738, wd_740, wd_739, Or.inl ⟨rfl, rfl⟩⟩, (fun _ h => absurd h List.not_mem_nil)⟩)
set_option maxRecDepth 100000 in
set_option maxHeartbeats 4000000 in
theorem me_1 : en_ME 1 ⟨"EvenSteps$Circle", "lay", "(LEvenSteps$Slope;I)V"⟩ prog_2_method_2_code 5 none := ⟨⟨p_X0_lay, rfl⟩, wd_745, wd_66, ⟨by decide, by decide⟩, by decide⟩
set_option maxRecDepth 100000 in
set_option maxHeartbeats 4000000 in
theorem np_36 : en_np "(LEvenSteps$Slope;I)V" 2 := by unfold en_np; decide +kernel
set_option maxRecDepth 100000 in
set_option maxHeartbeats 4000000 in
theorem lk_273 : en_LV "EvenSteps" 297 2 [(0, 1)] := (List.forall_mem_cons.mpr ⟨⟨"EvenSteps$Circle", en_T0, 8, ⟨"EvenSteps$Circle", "lay", "(LEvenSteps$Slope;I)V"⟩, ⟨"EvenSteps$Circle", "lay", "(LEvenSteps$Slope;I)V"⟩, prog_2_method_2_code, 5, none, "EvenSteps$Circle", rfl, me_1, np_36, wd_742, wd_744, wd_743, Or.inl ⟨rfl, rfl⟩⟩, (fun _ h => absurd h List.not_mem_nil)⟩)
set_option maxRecDepth 100000 in
set_option maxHeartbeats 4000000 in
theorem lk_274 : en_LS "EvenSteps" 301 2 [(0, 219)] := ⟨0, 219, ⟨"java/lang/Math", "min", "(II)I"⟩, prog_17_method_69_code, 2, (some .int), rfl, me_219, np_12, wd_683, Or.inl wd_780⟩
set_option maxRecDepth 100000 in
set_option maxHeartbeats 4000000 in
theorem lk_275 : en_LS "EvenSteps" 304 1 [(0, 215)] := ⟨0, 215, ⟨"java/lang/Math", "abs", "(I)I"⟩, prog_17_method_59_code, 1, (some .int), rfl, me_215, np_8, wd_691, Or.inl wd_781⟩
set_option maxRecDepth 100000 in
set_option maxHeartbeats 4000000 in
theorem me_101 : en_ME 101 ⟨"EvenSteps", "repeated", "(JII)J"⟩ prog_1_method_41_code 7 (some .long) := ⟨⟨p_X11_repeated, rfl⟩, wd_784, wd_63, ⟨by decide, by decide⟩, by decide⟩
set_option maxRecDepth 100000 in
set_option maxHeartbeats 4000000 in
theorem np_37 : en_np "(JII)J" 3 := by unfold en_np; decide +kernel
set_option maxRecDepth 100000 in
set_option maxHeartbeats 4000000 in
theorem lk_276 : en_LS "EvenSteps" 307 3 [(0, 101)] := ⟨0, 101, ⟨"EvenSteps", "repeated", "(JII)J"⟩, prog_1_method_41_code, 7, (some .long), rfl, me_101, np_37, wd_783, Or.inl wd_782⟩
set_option maxRecDepth 100000 in
set_option maxHeartbeats 4000000 in
theorem me_103 : en_ME 103 ⟨"EvenSteps", "backward", "(JI)J"⟩ prog_1_method_43_code 6 (some .long) := ⟨⟨p_X11_backward, rfl⟩, wd_791, wd_63, ⟨by decide, by decide⟩, by decide⟩
set_option maxRecDepth 100000 in
set_option maxHeartbeats 4000000 in
theorem np_38 : en_np "(JI)J" 2 := by unfold en_np; decide +kernel
set_option maxRecDepth 100000 in
set_option maxHeartbeats 4000000 in
theorem lk_277 : en_LS "EvenSteps" 311 2 [(0, 103)] := ⟨0, 103, ⟨"EvenSteps", "backward", "(JI)J"⟩, prog_1_method_43_code, 6, (some .long), rfl, me_103, np_38, wd_790, Or.inl wd_789⟩
set_option maxRecDepth 100000 in
set_option maxHeartbeats 4000000 in
theorem me_106 : en_ME 106 ⟨"EvenSteps", "isHeap", "(I)Z"⟩ prog_1_method_46_code 1 (some .boolean) := ⟨⟨p_X11_isHeap, rfl⟩, wd_798, wd_63, ⟨by decide, by decide⟩, by decide⟩
set_option maxRecDepth 100000 in
set_option maxHeartbeats 4000000 in
theorem lk_278 : en_LS "EvenSteps" 315 1 [(0, 106)] := ⟨0, 106, ⟨"EvenSteps", "isHeap", "(I)Z"⟩, prog_1_method_46_code, 1, (some .boolean), rfl, me_106, np_19, wd_797, Or.inl wd_796⟩
set_option maxRecDepth 100000 in
set_option maxHeartbeats 4000000 in
theorem me_108 : en_ME 108 ⟨"EvenSteps", "lostBeside", "(I)I"⟩ prog_1_method_48_code 2 (some .int) := ⟨⟨p_X11_lostBeside, rfl⟩, wd_801, wd_63, ⟨by decide, by decide⟩, by decide⟩
set_option maxRecDepth 100000 in
set_option maxHeartbeats 4000000 in
theorem lk_279 : en_LS "EvenSteps" 318 1 [(0, 108)] := ⟨0, 108, ⟨"EvenSteps", "lostBeside", "(I)I"⟩, prog_1_method_48_code, 2, (some .int), rfl, me_108, np_8, wd_800, Or.inl wd_799⟩
set_option maxRecDepth 100000 in
set_option maxHeartbeats 4000000 in
theorem me_107 : en_ME 107 ⟨"EvenSteps", "goldenWhole", "(I)I"⟩ prog_1_method_47_code 1 (some .int) := ⟨⟨p_X11_goldenWhole, rfl⟩, wd_805, wd_63, ⟨by decide, by decide⟩, by decide⟩
set_option maxRecDepth 100000 in
set_option maxHeartbeats 4000000 in
theorem lk_282 : en_LS "EvenSteps" 323 1 [(0, 107)] := ⟨0, 107, ⟨"EvenSteps", "goldenWhole", "(I)I"⟩, prog_1_method_47_code, 1, (some .int), rfl, me_107, np_8, wd_804, Or.inl wd_803⟩
set_option maxRecDepth 100000 in
set_option maxHeartbeats 4000000 in
theorem lk_285 : en_LS "EvenSteps" 329 1 [(0, 127)] := ⟨0, 127, ⟨"EvenSteps", "rootOf", "(J)J"⟩, prog_1_method_67_code, 7, (some .long), rfl, me_127, np_13, wd_256, Or.inl wd_255⟩
set_option maxRecDepth 100000 in
set_option maxHeartbeats 4000000 in
theorem lk_286 : en_FP "EvenSteps" false 154 1 0 [(9, 0)] := ⟨"EvenSteps$Trace", (List.forall_mem_cons.mpr ⟨⟨"EvenSteps$Trace", en_T9, 2, .int, rfl, by decide, wd_102, Or.inl rfl, by decide +kernel, rfl, Or.inl rfl⟩, (fun _ h => absurd h List.not_mem_nil)⟩)⟩
set_option maxRecDepth 100000 in
set_option maxHeartbeats 4000000 in
theorem lk_287 : en_LV "EvenSteps" 333 2 [(1, 13), (2, 19), (3, 19), (4, 19), (8, 30)] := (List.forall_mem_cons.mpr ⟨⟨"EvenSteps$Cut", en_T1, 11, ⟨"EvenSteps$Row", "doGo", "(ILEvenSteps$Trace;)I"⟩, ⟨"EvenSteps$Cut", "doGo", "(ILEvenSteps$Trace;)I"⟩, prog_3_method_7_code, 3, (some .int), "EvenSteps$Row", rfl, me_13, np_9, wd_817, wd_820, wd_821, Or.inr ⟨wd_819, ⟨by decide, by decide⟩, Or.inr (Or.inl ⟨_, _, _, wd_836, wd_818⟩)⟩⟩, (List.forall_mem_cons.mpr ⟨⟨"EvenSteps$Even", en_T2, 6, ⟨"EvenSteps$Row", "doGo", "(ILEvenSteps$Trace;)I"⟩, ⟨"EvenSteps$Even", "doGo", "(ILEvenSteps$Trace;)I"⟩, prog_4_method_5_code, 3, (some .int), "EvenSteps$Row", rfl, me_19, np_9, wd_817, wd_828, wd_829, Or.inr ⟨wd_819, ⟨by decide, by decide⟩, Or.inr (Or.inl ⟨_, _, _, wd_836, wd_818⟩)⟩⟩, (List.forall_mem_cons.mpr ⟨⟨"EvenSteps$Points", en_T3, 6, ⟨"EvenSteps$Row", "doGo", "(ILEvenSteps$Trace;)I"⟩, ⟨"EvenSteps$Even", "doGo", "(ILEvenSteps$Trace;)I"⟩, prog_4_method_5_code, 3, (some .int), "EvenSteps$Row", rfl, me_19, np_9, wd_817, wd_833, wd_829, Or.inr ⟨wd_819, ⟨by decide, by decide⟩, Or.inr (Or.inl ⟨_, _, _, wd_836, wd_818⟩)⟩⟩, (List.forall_mem_cons.mpr ⟨⟨"EvenSteps$Ring", en_T4, 6, ⟨"EvenSteps$Row", "doGo", "(ILEvenSteps$Trace;)I"⟩, ⟨"EvenSteps$Even", "doGo", "(ILEvenSteps$Trace;)I"⟩, prog_4_method_5_code, 3, (some .int), "EvenSteps$Row", rfl, me_19, np_9, wd_817, wd_834, wd_829, Or.inr ⟨wd_819, ⟨by decide, by decide⟩, Or.inr (Or.inl ⟨_, _, _, wd_836, wd_818⟩)⟩⟩, (List.forall_mem_cons.mpr ⟨⟨"EvenSteps$Told", en_T8, 3, ⟨"EvenSteps$Row", "doGo", "(ILEvenSteps$Trace;)I"⟩, ⟨"EvenSteps$Row", "doGo", "(ILEvenSteps$Trace;)I"⟩, prog_7_method_5_code, 3, (some .int), "EvenSteps$Row", rfl, me_30, np_9, wd_817, wd_835, wd_818, Or.inr ⟨wd_819, ⟨by decide, by decide⟩, Or.inl rfl⟩⟩, (fun _ h => absurd h List.not_mem_nil)⟩)⟩)⟩)⟩)⟩)
set_option maxRecDepth 100000 in
set_option maxHeartbeats 4000000 in
theorem lk_288 : en_LV "EvenSteps" 337 2 [(1, 31), (2, 31), (3, 24), (4, 27), (8, 31)] := (List.forall_mem_cons.mpr ⟨⟨"EvenSteps$Cut", en_T1, 11, ⟨"EvenSteps$Row", "doGap", "(ILEvenSteps$Trace;)I"⟩, ⟨"EvenSteps$Row", "doGap", "(ILEvenSteps$Trace;)I"⟩, prog_7_method_6_code, 3, (some .int), "EvenSteps$Row", rfl, me_31, np_9, wd_838, wd_841, wd_839, Or.inr ⟨wd_840, ⟨by decide, by decide⟩, Or.inl rfl⟩⟩, (List.forall_mem_cons.mpr ⟨⟨"EvenSteps$Even", en_T2, 6, ⟨"EvenSteps$Row", "doGap", "(ILEvenSteps$Trace;)I"⟩, ⟨"EvenSteps$Row", "doGap", "(ILEvenSteps$Trace;)I"⟩, prog_7_method_6_code, 3, (some .int), "EvenSteps$Row", rfl, me_31, np_9, wd_838, wd_842, wd_839, Or.inr ⟨wd_840, ⟨by decide, by decide⟩, Or.inl rfl⟩⟩, (List.forall_mem_cons.mpr ⟨⟨"EvenSteps$Points", en_T3, 6, ⟨"EvenSteps$Row", "doGap", "(ILEvenSteps$Trace;)I"⟩, ⟨"EvenSteps$Points", "doGap", "(ILEvenSteps$Trace;)I"⟩, prog_5_method_4_code, 3, (some .int), "EvenSteps$Row", rfl, me_24, np_9, wd_838, wd_843, wd_844, Or.inr ⟨wd_840, ⟨by decide, by decide⟩, Or.inr (Or.inl ⟨_, _, _, wd_857, wd_839⟩)⟩⟩, (List.forall_mem_cons.mpr ⟨⟨"EvenSteps$Ring", en_T4, 6, ⟨"EvenSteps$Row", "doGap", "(ILEvenSteps$Trace;)I"⟩, ⟨"EvenSteps$Ring", "doGap", "(ILEvenSteps$Trace;)I"⟩, prog_6_method_3_code, 3, (some .int), "EvenSteps$Row", rfl, me_27, np_9, wd_838, wd_851, wd_852, Or.inr ⟨wd_840, ⟨by decide, by decide⟩, Or.inr (Or.inl ⟨_, _, _, wd_857, wd_839⟩)⟩⟩, (List.forall_mem_cons.mpr ⟨⟨"EvenSteps$Told", en_T8, 3, ⟨"EvenSteps$Row", "doGap", "(ILEvenSteps$Trace;)I"⟩, ⟨"EvenSteps$Row", "doGap", "(ILEvenSteps$Trace;)I"⟩, prog_7_method_6_code, 3, (some .int), "EvenSteps$Row", rfl, me_31, np_9, wd_838, wd_856, wd_839, Or.inr ⟨wd_840, ⟨by decide, by decide⟩, Or.inl rfl⟩⟩, (fun _ h => absurd h List.not_mem_nil)⟩)⟩)⟩)⟩)⟩)
set_option maxRecDepth 100000 in
set_option maxHeartbeats 4000000 in
theorem lk_289 : en_LV "EvenSteps" 340 2 [(1, 14), (2, 20), (3, 23), (4, 20), (8, 32)] := (List.forall_mem_cons.mpr ⟨⟨"EvenSteps$Cut", en_T1, 11, ⟨"EvenSteps$Row", "doGrow", "(ILEvenSteps$Trace;)I"⟩, ⟨"EvenSteps$Cut", "doGrow", "(ILEvenSteps$Trace;)I"⟩, prog_3_method_8_code, 3, (some .int), "EvenSteps$Row", rfl, me_14, np_9, wd_859, wd_862, wd_863, Or.inr ⟨wd_861, ⟨by decide, by decide⟩, Or.inr (Or.inl ⟨_, _, _, wd_876, wd_860⟩)⟩⟩, (List.forall_mem_cons.mpr ⟨⟨"EvenSteps$Even", en_T2, 6, ⟨"EvenSteps$Row", "doGrow", "(ILEvenSteps$Trace;)I"⟩, ⟨"EvenSteps$Even", "doGrow", "(ILEvenSteps$Trace;)I"⟩, prog_4_method_6_code, 3, (some .int), "EvenSteps$Row", rfl, me_20, np_9, wd_859, wd_866, wd_867, Or.inr ⟨wd_861, ⟨by decide, by decide⟩, Or.inr (Or.inl ⟨_, _, _, wd_876, wd_860⟩)⟩⟩, (List.forall_mem_cons.mpr ⟨⟨"EvenSteps$Points", en_T3, 6, ⟨"EvenSteps$Row", "doGrow", "(ILEvenSteps$Trace;)I"⟩, ⟨"EvenSteps$Points", "doGrow", "(ILEvenSteps$Trace;)I"⟩, prog_5_method_3_code, 3, (some .int), "EvenSteps$Row", rfl, me_23, np_9, wd_859, wd_870, wd_871, Or.inr ⟨wd_861, ⟨by decide, by decide⟩, Or.inr (Or.inl ⟨_, _, _, wd_876, wd_860⟩)⟩⟩, (List.forall_mem_cons.mpr ⟨⟨"EvenSteps$Ring", en_T4, 6, ⟨"EvenSteps$Row", "doGrow", "(ILEvenSteps$Trace;)I"⟩, ⟨"EvenSteps$Even", "doGrow", "(ILEvenSteps$Trace;)I"⟩, prog_4_method_6_code, 3, (some .int), "EvenSteps$Row", rfl, me_20, np_9, wd_859, wd_874, wd_867, Or.inr ⟨wd_861, ⟨by decide, by decide⟩, Or.inr (Or.inl ⟨_, _, _, wd_876, wd_860⟩)⟩⟩, (List.forall_mem_cons.mpr ⟨⟨"EvenSteps$Told", en_T8, 3, ⟨"EvenSteps$Row", "doGrow", "(ILEvenSteps$Trace;)I"⟩, ⟨"EvenSteps$Row", "doGrow", "(ILEvenSteps$Trace;)I"⟩, prog_7_method_7_code, 3, (some .int), "EvenSteps$Row", rfl, me_32, np_9, wd_859, wd_875, wd_860, Or.inr ⟨wd_861, ⟨by decide, by decide⟩, Or.inl rfl⟩⟩, (fun _ h => absurd h List.not_mem_nil)⟩)⟩)⟩)⟩)⟩)
set_option maxRecDepth 100000 in
set_option maxHeartbeats 4000000 in
theorem me_28 : en_ME 28 ⟨"EvenSteps$Ring", "doTell", "(ILEvenSteps$Trace;)I"⟩ prog_6_method_4_code 3 (some .int) := ⟨⟨p_X4_doTell, rfl⟩, wd_885, wd_76, ⟨by decide, by decide⟩, by decide⟩
set_option maxRecDepth 100000 in
set_option maxHeartbeats 4000000 in
theorem lk_290 : en_LV "EvenSteps" 343 2 [(1, 33), (2, 33), (3, 33), (4, 28), (8, 33)] := (List.forall_mem_cons.mpr ⟨⟨"EvenSteps$Cut", en_T1, 11, ⟨"EvenSteps$Row", "doTell", "(ILEvenSteps$Trace;)I"⟩, ⟨"EvenSteps$Row", "doTell", "(ILEvenSteps$Trace;)I"⟩, prog_7_method_8_code, 3, (some .int), "EvenSteps$Row", rfl, me_33, np_9, wd_877, wd_880, wd_878, Or.inr ⟨wd_879, ⟨by decide, by decide⟩, Or.inl rfl⟩⟩, (List.forall_mem_cons.mpr ⟨⟨"EvenSteps$Even", en_T2, 6, ⟨"EvenSteps$Row", "doTell", "(ILEvenSteps$Trace;)I"⟩, ⟨"EvenSteps$Row", "doTell", "(ILEvenSteps$Trace;)I"⟩, prog_7_method_8_code, 3, (some .int), "EvenSteps$Row", rfl, me_33, np_9, wd_877, wd_881, wd_878, Or.inr ⟨wd_879, ⟨by decide, by decide⟩, Or.inl rfl⟩⟩, (List.forall_mem_cons.mpr ⟨⟨"EvenSteps$Points", en_T3, 6, ⟨"EvenSteps$Row", "doTell", "(ILEvenSteps$Trace;)I"⟩, ⟨"EvenSteps$Row", "doTell", "(ILEvenSteps$Trace;)I"⟩, prog_7_method_8_code, 3, (some .int), "EvenSteps$Row", rfl, me_33, np_9, wd_877, wd_882, wd_878, Or.inr ⟨wd_879, ⟨by decide, by decide⟩, Or.inl rfl⟩⟩, (List.forall_mem_cons.mpr ⟨⟨"EvenSteps$Ring", en_T4, 6, ⟨"EvenSteps$Row", "doTell", "(ILEvenSteps$Trace;)I"⟩, ⟨"EvenSteps$Ring", "doTell", "(ILEvenSteps$Trace;)I"⟩, prog_6_method_4_code, 3, (some .int), "EvenSteps$Row", rfl, me_28, np_9, wd_877, wd_883, wd_884, Or.inr ⟨wd_879, ⟨by decide, by decide⟩, Or.inr (Or.inl ⟨_, _, _, wd_894, wd_878⟩)⟩⟩, (List.forall_mem_cons.mpr ⟨⟨"EvenSteps$Told", en_T8, 3, ⟨"EvenSteps$Row", "doTell", "(ILEvenSteps$Trace;)I"⟩, ⟨"EvenSteps$Row", "doTell", "(ILEvenSteps$Trace;)I"⟩, prog_7_method_8_code, 3, (some .int), "EvenSteps$Row", rfl, me_33, np_9, wd_877, wd_893, wd_878, Or.inr ⟨wd_879, ⟨by decide, by decide⟩, Or.inl rfl⟩⟩, (fun _ h => absurd h List.not_mem_nil)⟩)⟩)⟩)⟩)⟩)
set_option maxRecDepth 100000 in
set_option maxHeartbeats 4000000 in
theorem lk_291 : en_FG "EvenSteps" 346 0 [(9, 0)] := ⟨"EvenSteps$Trace", (List.forall_mem_cons.mpr ⟨⟨"EvenSteps$Trace", en_T9, 2, rfl, by decide, wd_100, Or.inl rfl⟩, (fun _ h => absurd h List.not_mem_nil)⟩)⟩
set_option maxRecDepth 100000 in
set_option maxHeartbeats 4000000 in
theorem me_36 : en_ME 36 ⟨"EvenSteps$Sheet", "begin", "(II)V"⟩ prog_8_method_3_code 4 none := ⟨⟨p_X6_begin, rfl⟩, wd_908, wd_67, ⟨by decide, by decide⟩, by decide⟩
set_option maxRecDepth 100000 in
set_option maxHeartbeats 4000000 in
theorem lk_292 : en_LV "EvenSteps" 349 2 [(5, 36)] := (List.forall_mem_cons.mpr ⟨⟨"EvenSteps$Sheet", en_T5, 3, ⟨"EvenSteps$Sheet", "begin", "(II)V"⟩, ⟨"EvenSteps$Sheet", "begin", "(II)V"⟩, prog_8_method_3_code, 4, none, "EvenSteps$Sheet", rfl, me_36, np_2, wd_905, wd_907, wd_906, Or.inl ⟨rfl, rfl⟩⟩, (fun _ h => absurd h List.not_mem_nil)⟩)
set_option maxRecDepth 100000 in
set_option maxHeartbeats 4000000 in
theorem lk_293 : en_FG "EvenSteps" 353 0 [(5, 0)] := ⟨"EvenSteps$Sheet", (List.forall_mem_cons.mpr ⟨⟨"EvenSteps$Sheet", en_T5, 3, rfl, by decide, wd_198, Or.inl rfl⟩, (fun _ h => absurd h List.not_mem_nil)⟩)⟩
set_option maxRecDepth 100000 in
set_option maxHeartbeats 4000000 in
theorem me_114 : en_ME 114 ⟨"EvenSteps", "forgeKind", "(LEvenSteps$Row;I)I"⟩ prog_1_method_54_code 3 (some .int) := ⟨⟨p_X11_forgeKind, rfl⟩, wd_920, wd_63, ⟨by decide, by decide⟩, by decide⟩
set_option maxRecDepth 100000 in
set_option maxHeartbeats 4000000 in
theorem np_39 : en_np "(LEvenSteps$Row;I)I" 2 := by unfold en_np; decide +kernel
set_option maxRecDepth 100000 in
set_option maxHeartbeats 4000000 in
theorem lk_294 : en_LV "EvenSteps" 354 2 [(10, 114)] := (List.forall_mem_cons.mpr ⟨⟨"EvenSteps", en_T10, 11, ⟨"EvenSteps", "forgeKind", "(LEvenSteps$Row;I)I"⟩, ⟨"EvenSteps", "forgeKind", "(LEvenSteps$Row;I)I"⟩, prog_1_method_54_code, 3, (some .int), "EvenSteps", rfl, me_114, np_39, wd_917, wd_24, wd_919, Or.inl ⟨rfl, rfl⟩⟩, (fun _ h => absurd h List.not_mem_nil)⟩)
set_option maxRecDepth 100000 in
set_option maxHeartbeats 4000000 in
theorem me_116 : en_ME 116 ⟨"EvenSteps", "forgeNumber", "(LEvenSteps$Sheet;I)I"⟩ prog_1_method_56_code 3 (some .int) := ⟨⟨p_X11_forgeNumber, rfl⟩, wd_927, wd_63, ⟨by decide, by decide⟩, by decide⟩
set_option maxRecDepth 100000 in
set_option maxHeartbeats 4000000 in
theorem np_40 : en_np "(LEvenSteps$Sheet;I)I" 2 := by unfold en_np; decide +kernel
set_option maxRecDepth 100000 in
set_option maxHeartbeats 4000000 in
theorem lk_295 : en_LV "EvenSteps" 358 2 [(10, 116)] := (List.forall_mem_cons.mpr ⟨⟨"EvenSteps", en_T10, 11, ⟨"EvenSteps", "forgeNumber", "(LEvenSteps$Sheet;I)I"⟩, ⟨"EvenSteps", "forgeNumber", "(LEvenSteps$Sheet;I)I"⟩, prog_1_method_56_code, 3, (some .int), "EvenSteps", rfl, me_116, np_40, wd_924, wd_25, wd_926, Or.inl ⟨rfl, rfl⟩⟩, (fun _ h => absurd h List.not_mem_nil)⟩)
set_option maxRecDepth 100000 in
set_option maxHeartbeats 4000000 in
theorem me_117 : en_ME 117 ⟨"EvenSteps", "forgeCopy", "(LEvenSteps$Sheet;I)I"⟩ prog_1_method_57_code 5 (some .int) := ⟨⟨p_X11_forgeCopy, rfl⟩, wd_931, wd_63, ⟨by decide, by decide⟩, by decide⟩
set_option maxRecDepth 100000 in
set_option maxHeartbeats 4000000 in
theorem lk_296 : en_LV "EvenSteps" 362 2 [(10, 117)] := (List.forall_mem_cons.mpr ⟨⟨"EvenSteps", en_T10, 11, ⟨"EvenSteps", "forgeCopy", "(LEvenSteps$Sheet;I)I"⟩, ⟨"EvenSteps", "forgeCopy", "(LEvenSteps$Sheet;I)I"⟩, prog_1_method_57_code, 5, (some .int), "EvenSteps", rfl, me_117, np_40, wd_928, wd_26, wd_930, Or.inl ⟨rfl, rfl⟩⟩, (fun _ h => absurd h List.not_mem_nil)⟩)
set_option maxRecDepth 100000 in
set_option maxHeartbeats 4000000 in
theorem me_118 : en_ME 118 ⟨"EvenSteps", "forgePut", "(LEvenSteps$Row;)I"⟩ prog_1_method_58_code 2 (some .int) := ⟨⟨p_X11_forgePut, rfl⟩, wd_935, wd_63, ⟨by decide, by decide⟩, by decide⟩
set_option maxRecDepth 100000 in
set_option maxHeartbeats 4000000 in
theorem lk_297 : en_LV "EvenSteps" 365 1 [(10, 118)] := (List.forall_mem_cons.mpr ⟨⟨"EvenSteps", en_T10, 11, ⟨"EvenSteps", "forgePut", "(LEvenSteps$Row;)I"⟩, ⟨"EvenSteps", "forgePut", "(LEvenSteps$Row;)I"⟩, prog_1_method_58_code, 2, (some .int), "EvenSteps", rfl, me_118, np_24, wd_932, wd_27, wd_934, Or.inl ⟨rfl, rfl⟩⟩, (fun _ h => absurd h List.not_mem_nil)⟩)
set_option maxRecDepth 100000 in
set_option maxHeartbeats 4000000 in
theorem me_115 : en_ME 115 ⟨"EvenSteps", "isOfKind", "(LEvenSteps$Row;I)Z"⟩ prog_1_method_55_code 2 (some .boolean) := ⟨⟨p_X11_isOfKind, rfl⟩, wd_923, wd_63, ⟨by decide, by decide⟩, by decide⟩
set_option maxRecDepth 100000 in
set_option maxHeartbeats 4000000 in
theorem np_41 : en_np "(LEvenSteps$Row;I)Z" 2 := by unfold en_np; decide +kernel
set_option maxRecDepth 100000 in
set_option maxHeartbeats 4000000 in
theorem lk_298 : en_LS "EvenSteps" 368 2 [(0, 115)] := ⟨0, 115, ⟨"EvenSteps", "isOfKind", "(LEvenSteps$Row;I)Z"⟩, prog_1_method_55_code, 2, (some .boolean), rfl, me_115, np_41, wd_922, Or.inl wd_921⟩
set_option maxRecDepth 100000 in
set_option maxHeartbeats 4000000 in
theorem lk_299 : ∀ q ∈ ([(1, 0), (2, 0), (3, 0), (4, 1), (8, 0)] : List (Nat × Nat)), ∃ r, en_cs[q.1]? = some r ∧ ((q.2 = 0 ∧ (r.1, "EvenSteps$Ring") ∈ en_ncl) ∨ (q.2 ≠ 0 ∧ (r.1 = "EvenSteps$Ring" ∨ Cond.castable r.1 "EvenSteps$Ring" ∈ en_nwl))) := (List.forall_mem_cons.mpr ⟨⟨_, rfl, Or.inl ⟨rfl, by decide +kernel⟩⟩, (List.forall_mem_cons.mpr ⟨⟨_, rfl, Or.inl ⟨rfl, by decide +kernel⟩⟩, (List.forall_mem_cons.mpr ⟨⟨_, rfl, Or.inl ⟨rfl, by decide +kernel⟩⟩, (List.forall_mem_cons.mpr ⟨⟨_, rfl, Or.inr ⟨by decide, Or.inl rfl⟩⟩, (List.forall_mem_cons.mpr ⟨⟨_, rfl, Or.inl ⟨rfl, by decide +kernel⟩⟩, (fun _ h => absurd h List.not_mem_nil)⟩)⟩)⟩)⟩)⟩)
set_option maxRecDepth 100000 in
set_option maxHeartbeats 4000000 in
theorem lk_300 : ∀ q ∈ ([(1, 1), (2, 0), (3, 0), (4, 0), (8, 0)] : List (Nat × Nat)), ∃ r, en_cs[q.1]? = some r ∧ ((q.2 = 0 ∧ (r.1, "EvenSteps$Cut") ∈ en_ncl) ∨ (q.2 ≠ 0 ∧ (r.1 = "EvenSteps$Cut" ∨ Cond.castable r.1 "EvenSteps$Cut" ∈ en_nwl))) := (List.forall_mem_cons.mpr ⟨⟨_, rfl, Or.inr ⟨by decide, Or.inl rfl⟩⟩, (List.forall_mem_cons.mpr ⟨⟨_, rfl, Or.inl ⟨rfl, by decide +kernel⟩⟩, (List.forall_mem_cons.mpr ⟨⟨_, rfl, Or.inl ⟨rfl, by decide +kernel⟩⟩, (List.forall_mem_cons.mpr ⟨⟨_, rfl, Or.inl ⟨rfl, by decide +kernel⟩⟩, (List.forall_mem_cons.mpr ⟨⟨_, rfl, Or.inl ⟨rfl, by decide +kernel⟩⟩, (fun _ h => absurd h List.not_mem_nil)⟩)⟩)⟩)⟩)⟩)
set_option maxRecDepth 100000 in
set_option maxHeartbeats 4000000 in
theorem lk_301 : en_FG "EvenSteps" 372 10 [(10, 0)] := ⟨"EvenSteps", (List.forall_mem_cons.mpr ⟨⟨"EvenSteps", en_T10, 11, rfl, by decide, wd_220, Or.inl rfl⟩, (fun _ h => absurd h List.not_mem_nil)⟩)⟩
set_option maxRecDepth 100000 in
set_option maxHeartbeats 4000000 in
theorem lk_302 : en_FP "EvenSteps" false 372 10 0 [(10, 0)] := ⟨"EvenSteps", (List.forall_mem_cons.mpr ⟨⟨"EvenSteps", en_T10, 11, .int, rfl, by decide, wd_220, Or.inl rfl, by decide +kernel, rfl, Or.inl rfl⟩, (fun _ h => absurd h List.not_mem_nil)⟩)⟩
set_option maxRecDepth 100000 in
set_option maxHeartbeats 4000000 in
theorem lk_303 : en_FP "EvenSteps" false 375 1 0 [(1, 0), (2, 0), (3, 0), (4, 0), (8, 0)] := ⟨"EvenSteps$Row", (List.forall_mem_cons.mpr ⟨⟨"EvenSteps$Cut", en_T1, 11, .int, rfl, by decide, wd_370, Or.inl rfl, by decide +kernel, rfl, Or.inl rfl⟩, (List.forall_mem_cons.mpr ⟨⟨"EvenSteps$Even", en_T2, 6, .int, rfl, by decide, wd_370, Or.inl rfl, by decide +kernel, rfl, Or.inl rfl⟩, (List.forall_mem_cons.mpr ⟨⟨"EvenSteps$Points", en_T3, 6, .int, rfl, by decide, wd_370, Or.inl rfl, by decide +kernel, rfl, Or.inl rfl⟩, (List.forall_mem_cons.mpr ⟨⟨"EvenSteps$Ring", en_T4, 6, .int, rfl, by decide, wd_370, Or.inl rfl, by decide +kernel, rfl, Or.inl rfl⟩, (List.forall_mem_cons.mpr ⟨⟨"EvenSteps$Told", en_T8, 3, .int, rfl, by decide, wd_370, Or.inl rfl, by decide +kernel, rfl, Or.inl rfl⟩, (fun _ h => absurd h List.not_mem_nil)⟩)⟩)⟩)⟩)⟩)⟩
set_option maxRecDepth 100000 in
set_option maxHeartbeats 4000000 in
theorem lk_304 : en_FG "EvenSteps" 378 0 [(1, 0), (2, 0), (3, 0), (4, 0), (8, 0)] := ⟨"EvenSteps$Row", (List.forall_mem_cons.mpr ⟨⟨"EvenSteps$Cut", en_T1, 11, rfl, by decide, wd_366, Or.inl rfl⟩, (List.forall_mem_cons.mpr ⟨⟨"EvenSteps$Even", en_T2, 6, rfl, by decide, wd_366, Or.inl rfl⟩, (List.forall_mem_cons.mpr ⟨⟨"EvenSteps$Points", en_T3, 6, rfl, by decide, wd_366, Or.inl rfl⟩, (List.forall_mem_cons.mpr ⟨⟨"EvenSteps$Ring", en_T4, 6, rfl, by decide, wd_366, Or.inl rfl⟩, (List.forall_mem_cons.mpr ⟨⟨"EvenSteps$Told", en_T8, 3, rfl, by decide, wd_366, Or.inl rfl⟩, (fun _ h => absurd h List.not_mem_nil)⟩)⟩)⟩)⟩)⟩)⟩
set_option maxRecDepth 100000 in
set_option maxHeartbeats 4000000 in
theorem me_209 : en_ME 209 ⟨"java/lang/Long", "numberOfLeadingZeros", "(J)I"⟩ prog_16_method_48_code 3 (some .int) := ⟨⟨p_J13_numberOfLeadingZeros_95d88, rfl⟩, wd_260, wd_69, ⟨by decide, by decide⟩, by decide⟩
set_option maxRecDepth 100000 in
set_option maxHeartbeats 4000000 in
theorem lk_305 : en_LS "EvenSteps" 381 1 [(0, 209)] := ⟨0, 209, ⟨"java/lang/Long", "numberOfLeadingZeros", "(J)I"⟩, prog_16_method_48_code, 3, (some .int), rfl, me_209, np_7, wd_259, Or.inl wd_258⟩
set_option maxRecDepth 100000 in
set_option maxHeartbeats 4000000 in
theorem me_216 : en_ME 216 ⟨"java/lang/Math", "abs", "(J)J"⟩ prog_17_method_61_code 2 (some .long) := ⟨⟨p_J9_abs_067f4, rfl⟩, wd_284, wd_72, ⟨by decide, by decide⟩, by decide⟩
set_option maxRecDepth 100000 in
set_option maxHeartbeats 4000000 in
theorem lk_306 : en_LS "EvenSteps" 387 1 [(0, 216)] := ⟨0, 216, ⟨"java/lang/Math", "abs", "(J)J"⟩, prog_17_method_61_code, 2, (some .long), rfl, me_216, np_13, wd_283, Or.inl wd_282⟩
set_option maxRecDepth 100000 in
set_option maxHeartbeats 4000000 in
theorem lk_308 : en_FP "EvenStepsModel" true 7 3 2 [(11, 0)] := ⟨"EvenStepsModel", (List.forall_mem_cons.mpr ⟨⟨"EvenStepsModel", en_T11, 33, .array .int, rfl, by decide, wd_950, Or.inl rfl, by decide +kernel, rfl, Or.inr ⟨rfl, rfl, rfl⟩⟩, (fun _ h => absurd h List.not_mem_nil)⟩)⟩
set_option maxRecDepth 100000 in
set_option maxHeartbeats 4000000 in
theorem lk_309 : en_FP "EvenStepsModel" true 13 4 2 [(11, 0)] := ⟨"EvenStepsModel", (List.forall_mem_cons.mpr ⟨⟨"EvenStepsModel", en_T11, 33, .array .int, rfl, by decide, wd_951, Or.inl rfl, by decide +kernel, rfl, Or.inr ⟨rfl, rfl, rfl⟩⟩, (fun _ h => absurd h List.not_mem_nil)⟩)⟩
set_option maxRecDepth 100000 in
set_option maxHeartbeats 4000000 in
theorem lk_310 : en_FP "EvenStepsModel" true 16 5 2 [(11, 0)] := ⟨"EvenStepsModel", (List.forall_mem_cons.mpr ⟨⟨"EvenStepsModel", en_T11, 33, .array .int, rfl, by decide, wd_952, Or.inl rfl, by decide +kernel, rfl, Or.inr ⟨rfl, rfl, rfl⟩⟩, (fun _ h => absurd h List.not_mem_nil)⟩)⟩
set_option maxRecDepth 100000 in
set_option maxHeartbeats 4000000 in
theorem lk_311 : en_FP "EvenStepsModel" true 19 6 2 [(11, 0)] := ⟨"EvenStepsModel", (List.forall_mem_cons.mpr ⟨⟨"EvenStepsModel", en_T11, 33, .array .int, rfl, by decide, wd_953, Or.inl rfl, by decide +kernel, rfl, Or.inr ⟨rfl, rfl, rfl⟩⟩, (fun _ h => absurd h List.not_mem_nil)⟩)⟩
set_option maxRecDepth 100000 in
set_option maxHeartbeats 4000000 in
theorem lk_312 : en_FP "EvenStepsModel" true 22 7 2 [(11, 0)] := ⟨"EvenStepsModel", (List.forall_mem_cons.mpr ⟨⟨"EvenStepsModel", en_T11, 33, .array .int, rfl, by decide, wd_954, Or.inl rfl, by decide +kernel, rfl, Or.inr ⟨rfl, rfl, rfl⟩⟩, (fun _ h => absurd h List.not_mem_nil)⟩)⟩
set_option maxRecDepth 100000 in
set_option maxHeartbeats 4000000 in
theorem lk_313 : en_FP "EvenStepsModel" true 25 8 2 [(11, 0)] := ⟨"EvenStepsModel", (List.forall_mem_cons.mpr ⟨⟨"EvenStepsModel", en_T11, 33, .array .int, rfl, by decide, wd_955, Or.inl rfl, by decide +kernel, rfl, Or.inr ⟨rfl, rfl, rfl⟩⟩, (fun _ h => absurd h List.not_mem_nil)⟩)⟩
set_option maxRecDepth 100000 in
set_option maxHeartbeats 4000000 in
theorem lk_314 : en_FP "EvenStepsModel" true 28 9 2 [(11, 0)] := ⟨"EvenStepsModel", (List.forall_mem_cons.mpr ⟨⟨"EvenStepsModel", en_T11, 33, .array .int, rfl, by decide, wd_956, Or.inl rfl, by decide +kernel, rfl, Or.inr ⟨rfl, rfl, rfl⟩⟩, (fun _ h => absurd h List.not_mem_nil)⟩)⟩
set_option maxRecDepth 100000 in
set_option maxHeartbeats 4000000 in
theorem lk_316 : en_FP "EvenStepsModel" true 32 10 2 [(11, 0)] := ⟨"EvenStepsModel", (List.forall_mem_cons.mpr ⟨⟨"EvenStepsModel", en_T11, 33, .array .int, rfl, by decide, wd_957, Or.inl rfl, by decide +kernel, rfl, Or.inr ⟨rfl, rfl, rfl⟩⟩, (fun _ h => absurd h List.not_mem_nil)⟩)⟩
set_option maxRecDepth 100000 in
set_option maxHeartbeats 4000000 in
theorem lk_317 : en_FP "EvenStepsModel" true 35 11 2 [(11, 0)] := ⟨"EvenStepsModel", (List.forall_mem_cons.mpr ⟨⟨"EvenStepsModel", en_T11, 33, .array .int, rfl, by decide, wd_958, Or.inl rfl, by decide +kernel, rfl, Or.inr ⟨rfl, rfl, rfl⟩⟩, (fun _ h => absurd h List.not_mem_nil)⟩)⟩
set_option maxRecDepth 100000 in
set_option maxHeartbeats 4000000 in
theorem lk_318 : en_FP "EvenStepsModel" true 38 12 2 [(11, 0)] := ⟨"EvenStepsModel", (List.forall_mem_cons.mpr ⟨⟨"EvenStepsModel", en_T11, 33, .array .int, rfl, by decide, wd_959, Or.inl rfl, by decide +kernel, rfl, Or.inr ⟨rfl, rfl, rfl⟩⟩, (fun _ h => absurd h List.not_mem_nil)⟩)⟩
set_option maxRecDepth 100000 in
set_option maxHeartbeats 4000000 in
theorem lk_319 : en_FP "EvenStepsModel" true 41 13 2 [(11, 0)] := ⟨"EvenStepsModel", (List.forall_mem_cons.mpr ⟨⟨"EvenStepsModel", en_T11, 33, .array .int, rfl, by decide, wd_960, Or.inl rfl, by decide +kernel, rfl, Or.inr ⟨rfl, rfl, rfl⟩⟩, (fun _ h => absurd h List.not_mem_nil)⟩)⟩
set_option maxRecDepth 100000 in
set_option maxHeartbeats 4000000 in
theorem lk_320 : en_FP "EvenStepsModel" true 44 14 2 [(11, 0)] := ⟨"EvenStepsModel", (List.forall_mem_cons.mpr ⟨⟨"EvenStepsModel", en_T11, 33, .array .int, rfl, by decide, wd_961, Or.inl rfl, by decide +kernel, rfl, Or.inr ⟨rfl, rfl, rfl⟩⟩, (fun _ h => absurd h List.not_mem_nil)⟩)⟩
set_option maxRecDepth 100000 in
set_option maxHeartbeats 4000000 in
theorem lk_321 : en_FP "EvenStepsModel" true 47 16 2 [(11, 0)] := ⟨"EvenStepsModel", (List.forall_mem_cons.mpr ⟨⟨"EvenStepsModel", en_T11, 33, .array .long, rfl, by decide, wd_963, Or.inl rfl, by decide +kernel, rfl, Or.inr ⟨rfl, rfl, rfl⟩⟩, (fun _ h => absurd h List.not_mem_nil)⟩)⟩
set_option maxRecDepth 100000 in
set_option maxHeartbeats 4000000 in
theorem lk_322 : en_FP "EvenStepsModel" true 51 17 2 [(11, 0)] := ⟨"EvenStepsModel", (List.forall_mem_cons.mpr ⟨⟨"EvenStepsModel", en_T11, 33, .array .long, rfl, by decide, wd_964, Or.inl rfl, by decide +kernel, rfl, Or.inr ⟨rfl, rfl, rfl⟩⟩, (fun _ h => absurd h List.not_mem_nil)⟩)⟩
set_option maxRecDepth 100000 in
set_option maxHeartbeats 4000000 in
theorem lk_323 : en_FP "EvenStepsModel" true 54 20 2 [(11, 0)] := ⟨"EvenStepsModel", (List.forall_mem_cons.mpr ⟨⟨"EvenStepsModel", en_T11, 33, .array .int, rfl, by decide, wd_967, Or.inl rfl, by decide +kernel, rfl, Or.inr ⟨rfl, rfl, rfl⟩⟩, (fun _ h => absurd h List.not_mem_nil)⟩)⟩
set_option maxRecDepth 100000 in
set_option maxHeartbeats 4000000 in
theorem lk_324 : en_FP "EvenStepsModel" true 57 22 2 [(11, 0)] := ⟨"EvenStepsModel", (List.forall_mem_cons.mpr ⟨⟨"EvenStepsModel", en_T11, 33, .array .int, rfl, by decide, wd_969, Or.inl rfl, by decide +kernel, rfl, Or.inr ⟨rfl, rfl, rfl⟩⟩, (fun _ h => absurd h List.not_mem_nil)⟩)⟩
set_option maxRecDepth 100000 in
set_option maxHeartbeats 4000000 in
theorem lk_325 : en_FP "EvenStepsModel" true 60 23 2 [(11, 0)] := ⟨"EvenStepsModel", (List.forall_mem_cons.mpr ⟨⟨"EvenStepsModel", en_T11, 33, .array .int, rfl, by decide, wd_970, Or.inl rfl, by decide +kernel, rfl, Or.inr ⟨rfl, rfl, rfl⟩⟩, (fun _ h => absurd h List.not_mem_nil)⟩)⟩
set_option maxRecDepth 100000 in
set_option maxHeartbeats 4000000 in
theorem lk_326 : en_FP "EvenStepsModel" true 63 24 2 [(11, 0)] := ⟨"EvenStepsModel", (List.forall_mem_cons.mpr ⟨⟨"EvenStepsModel", en_T11, 33, .array .int, rfl, by decide, wd_971, Or.inl rfl, by decide +kernel, rfl, Or.inr ⟨rfl, rfl, rfl⟩⟩, (fun _ h => absurd h List.not_mem_nil)⟩)⟩
set_option maxRecDepth 100000 in
set_option maxHeartbeats 4000000 in
theorem lk_327 : en_FP "EvenStepsModel" true 66 25 2 [(11, 0)] := ⟨"EvenStepsModel", (List.forall_mem_cons.mpr ⟨⟨"EvenStepsModel", en_T11, 33, .array .int, rfl, by decide, wd_972, Or.inl rfl, by decide +kernel, rfl, Or.inr ⟨rfl, rfl, rfl⟩⟩, (fun _ h => absurd h List.not_mem_nil)⟩)⟩
set_option maxRecDepth 100000 in
set_option maxHeartbeats 4000000 in
theorem lk_328 : en_FP "EvenStepsModel" true 69 26 2 [(11, 0)] := ⟨"EvenStepsModel", (List.forall_mem_cons.mpr ⟨⟨"EvenStepsModel", en_T11, 33, .array .int, rfl, by decide, wd_973, Or.inl rfl, by decide +kernel, rfl, Or.inr ⟨rfl, rfl, rfl⟩⟩, (fun _ h => absurd h List.not_mem_nil)⟩)⟩
set_option maxRecDepth 100000 in
set_option maxHeartbeats 4000000 in
theorem lk_329 : en_FP "EvenStepsModel" true 72 27 2 [(11, 0)] := ⟨"EvenStepsModel", (List.forall_mem_cons.mpr ⟨⟨"EvenStepsModel", en_T11, 33, .array .int, rfl, by decide, wd_974, Or.inl rfl, by decide +kernel, rfl, Or.inr ⟨rfl, rfl, rfl⟩⟩, (fun _ h => absurd h List.not_mem_nil)⟩)⟩
set_option maxRecDepth 100000 in
set_option maxHeartbeats 4000000 in
theorem lk_330 : en_FP "EvenStepsModel" true 75 28 2 [(11, 0)] := ⟨"EvenStepsModel", (List.forall_mem_cons.mpr ⟨⟨"EvenStepsModel", en_T11, 33, .array .int, rfl, by decide, wd_975, Or.inl rfl, by decide +kernel, rfl, Or.inr ⟨rfl, rfl, rfl⟩⟩, (fun _ h => absurd h List.not_mem_nil)⟩)⟩
set_option maxRecDepth 100000 in
set_option maxHeartbeats 4000000 in
theorem lk_331 : en_FP "EvenStepsModel" true 78 29 2 [(11, 0)] := ⟨"EvenStepsModel", (List.forall_mem_cons.mpr ⟨⟨"EvenStepsModel", en_T11, 33, .array .int, rfl, by decide, wd_976, Or.inl rfl, by decide +kernel, rfl, Or.inr ⟨rfl, rfl, rfl⟩⟩, (fun _ h => absurd h List.not_mem_nil)⟩)⟩
set_option maxRecDepth 100000 in
set_option maxHeartbeats 4000000 in
theorem lk_332 : en_FP "EvenStepsModel" true 81 31 2 [(11, 0)] := ⟨"EvenStepsModel", (List.forall_mem_cons.mpr ⟨⟨"EvenStepsModel", en_T11, 33, .array .int, rfl, by decide, wd_978, Or.inl rfl, by decide +kernel, rfl, Or.inr ⟨rfl, rfl, rfl⟩⟩, (fun _ h => absurd h List.not_mem_nil)⟩)⟩
set_option maxRecDepth 100000 in
set_option maxHeartbeats 4000000 in
theorem lk_333 : en_FG "EvenStepsModel" 35 11 [(11, 0)] := ⟨"EvenStepsModel", (List.forall_mem_cons.mpr ⟨⟨"EvenStepsModel", en_T11, 33, rfl, by decide, wd_958, Or.inl rfl⟩, (fun _ h => absurd h List.not_mem_nil)⟩)⟩
set_option maxRecDepth 100000 in
set_option maxHeartbeats 4000000 in
theorem lk_334 : en_FP "EvenStepsModel" false 84 2 0 [(11, 0)] := ⟨"EvenStepsModel", (List.forall_mem_cons.mpr ⟨⟨"EvenStepsModel", en_T11, 33, .int, rfl, by decide, wd_949, Or.inl rfl, by decide +kernel, rfl, Or.inl rfl⟩, (fun _ h => absurd h List.not_mem_nil)⟩)⟩
set_option maxRecDepth 100000 in
set_option maxHeartbeats 4000000 in
theorem lk_335 : en_FG "EvenStepsModel" 7 3 [(11, 0)] := ⟨"EvenStepsModel", (List.forall_mem_cons.mpr ⟨⟨"EvenStepsModel", en_T11, 33, rfl, by decide, wd_950, Or.inl rfl⟩, (fun _ h => absurd h List.not_mem_nil)⟩)⟩
set_option maxRecDepth 100000 in
set_option maxHeartbeats 4000000 in
theorem lk_336 : en_FG "EvenStepsModel" 16 5 [(11, 0)] := ⟨"EvenStepsModel", (List.forall_mem_cons.mpr ⟨⟨"EvenStepsModel", en_T11, 33, rfl, by decide, wd_952, Or.inl rfl⟩, (fun _ h => absurd h List.not_mem_nil)⟩)⟩
set_option maxRecDepth 100000 in
set_option maxHeartbeats 4000000 in
theorem lk_337 : en_FG "EvenStepsModel" 13 4 [(11, 0)] := ⟨"EvenStepsModel", (List.forall_mem_cons.mpr ⟨⟨"EvenStepsModel", en_T11, 33, rfl, by decide, wd_951, Or.inl rfl⟩, (fun _ h => absurd h List.not_mem_nil)⟩)⟩
set_option maxRecDepth 100000 in
set_option maxHeartbeats 4000000 in
theorem lk_338 : en_FG "EvenStepsModel" 19 6 [(11, 0)] := ⟨"EvenStepsModel", (List.forall_mem_cons.mpr ⟨⟨"EvenStepsModel", en_T11, 33, rfl, by decide, wd_953, Or.inl rfl⟩, (fun _ h => absurd h List.not_mem_nil)⟩)⟩
set_option maxRecDepth 100000 in
set_option maxHeartbeats 4000000 in
theorem me_134 : en_ME 134 ⟨"EvenStepsModel", "sign", "(JJJ)I"⟩ prog_14_method_5_code 10 (some .int) := ⟨⟨p_X12_sign, rfl⟩, wd_1063, wd_68, ⟨by decide, by decide⟩, by decide⟩
set_option maxRecDepth 100000 in
set_option maxHeartbeats 4000000 in
theorem lk_339 : en_LS "EvenStepsModel" 88 3 [(0, 134)] := ⟨0, 134, ⟨"EvenStepsModel", "sign", "(JJJ)I"⟩, prog_14_method_5_code, 10, (some .int), rfl, me_134, np_18, wd_1062, Or.inl wd_1061⟩
set_option maxRecDepth 100000 in
set_option maxHeartbeats 4000000 in
theorem me_135 : en_ME 135 ⟨"EvenStepsModel", "side", "(IJJJ)I"⟩ prog_14_method_6_code 8 (some .int) := ⟨⟨p_X12_side, rfl⟩, wd_1084, wd_68, ⟨by decide, by decide⟩, by decide⟩
set_option maxRecDepth 100000 in
set_option maxHeartbeats 4000000 in
theorem np_42 : en_np "(IJJJ)I" 4 := by unfold en_np; decide +kernel
set_option maxRecDepth 100000 in
set_option maxHeartbeats 4000000 in
theorem lk_340 : en_LV "EvenStepsModel" 92 4 [(11, 135)] := (List.forall_mem_cons.mpr ⟨⟨"EvenStepsModel", en_T11, 33, ⟨"EvenStepsModel", "side", "(IJJJ)I"⟩, ⟨"EvenStepsModel", "side", "(IJJJ)I"⟩, prog_14_method_6_code, 8, (some .int), "EvenStepsModel", rfl, me_135, np_42, wd_1081, wd_32, wd_1083, Or.inl ⟨rfl, rfl⟩⟩, (fun _ h => absurd h List.not_mem_nil)⟩)
set_option maxRecDepth 100000 in
set_option maxHeartbeats 4000000 in
theorem lk_341 : en_FG "EvenStepsModel" 96 0 [(11, 0)] := ⟨"EvenStepsModel", (List.forall_mem_cons.mpr ⟨⟨"EvenStepsModel", en_T11, 33, rfl, by decide, wd_947, Or.inl rfl⟩, (fun _ h => absurd h List.not_mem_nil)⟩)⟩
set_option maxRecDepth 100000 in
set_option maxHeartbeats 4000000 in
theorem me_133 : en_ME 133 ⟨"EvenStepsModel", "in", "(III)Z"⟩ prog_14_method_4_code 3 (some .boolean) := ⟨⟨p_X12_in, rfl⟩, wd_1053, wd_68, ⟨by decide, by decide⟩, by decide⟩
set_option maxRecDepth 100000 in
set_option maxHeartbeats 4000000 in
theorem lk_342 : en_LS "EvenStepsModel" 99 3 [(0, 133)] := ⟨0, 133, ⟨"EvenStepsModel", "in", "(III)Z"⟩, prog_14_method_4_code, 3, (some .boolean), rfl, me_133, np_35, wd_1052, Or.inl wd_1051⟩
set_option maxRecDepth 100000 in
set_option maxHeartbeats 4000000 in
theorem me_131 : en_ME 131 ⟨"EvenStepsModel", "refused", "(I)I"⟩ prog_14_method_2_code 2 (some .int) := ⟨⟨p_X12_refused, rfl⟩, wd_1057, wd_68, ⟨by decide, by decide⟩, by decide⟩
set_option maxRecDepth 100000 in
set_option maxHeartbeats 4000000 in
theorem lk_343 : en_LV "EvenStepsModel" 103 1 [(11, 131)] := (List.forall_mem_cons.mpr ⟨⟨"EvenStepsModel", en_T11, 33, ⟨"EvenStepsModel", "refused", "(I)I"⟩, ⟨"EvenStepsModel", "refused", "(I)I"⟩, prog_14_method_2_code, 2, (some .int), "EvenStepsModel", rfl, me_131, np_8, wd_1054, wd_28, wd_1056, Or.inl ⟨rfl, rfl⟩⟩, (fun _ h => absurd h List.not_mem_nil)⟩)
set_option maxRecDepth 100000 in
set_option maxHeartbeats 4000000 in
theorem me_138 : en_ME 138 ⟨"EvenStepsModel", "isSquare", "(I)Z"⟩ prog_14_method_9_code 2 (some .boolean) := ⟨⟨p_X12_isSquare, rfl⟩, wd_1060, wd_68, ⟨by decide, by decide⟩, by decide⟩
set_option maxRecDepth 100000 in
set_option maxHeartbeats 4000000 in
theorem lk_344 : en_LS "EvenStepsModel" 107 1 [(0, 138)] := ⟨0, 138, ⟨"EvenStepsModel", "isSquare", "(I)Z"⟩, prog_14_method_9_code, 2, (some .boolean), rfl, me_138, np_19, wd_1059, Or.inl wd_1058⟩
set_option maxRecDepth 100000 in
set_option maxHeartbeats 4000000 in
theorem lk_345 : en_FP "EvenStepsModel" false 96 0 0 [(11, 0)] := ⟨"EvenStepsModel", (List.forall_mem_cons.mpr ⟨⟨"EvenStepsModel", en_T11, 33, .int, rfl, by decide, wd_947, Or.inl rfl, by decide +kernel, rfl, Or.inl rfl⟩, (fun _ h => absurd h List.not_mem_nil)⟩)⟩
set_option maxRecDepth 100000 in
set_option maxHeartbeats 4000000 in
theorem me_132 : en_ME 132 ⟨"EvenStepsModel", "fine", "(I)I"⟩ prog_14_method_3_code 2 (some .int) := ⟨⟨p_X12_fine, rfl⟩, wd_1067, wd_68, ⟨by decide, by decide⟩, by decide⟩
set_option maxRecDepth 100000 in
set_option maxHeartbeats 4000000 in
theorem lk_346 : en_LV "EvenStepsModel" 111 1 [(11, 132)] := (List.forall_mem_cons.mpr ⟨⟨"EvenStepsModel", en_T11, 33, ⟨"EvenStepsModel", "fine", "(I)I"⟩, ⟨"EvenStepsModel", "fine", "(I)I"⟩, prog_14_method_3_code, 2, (some .int), "EvenStepsModel", rfl, me_132, np_8, wd_1064, wd_29, wd_1066, Or.inl ⟨rfl, rfl⟩⟩, (fun _ h => absurd h List.not_mem_nil)⟩)
set_option maxRecDepth 100000 in
set_option maxHeartbeats 4000000 in
theorem me_137 : en_ME 137 ⟨"EvenStepsModel", "isSlope", "(I)Z"⟩ prog_14_method_8_code 2 (some .boolean) := ⟨⟨p_X12_isSlope, rfl⟩, wd_1075, wd_68, ⟨by decide, by decide⟩, by decide⟩
set_option maxRecDepth 100000 in
set_option maxHeartbeats 4000000 in
theorem lk_347 : en_LV "EvenStepsModel" 114 1 [(11, 137)] := (List.forall_mem_cons.mpr ⟨⟨"EvenStepsModel", en_T11, 33, ⟨"EvenStepsModel", "isSlope", "(I)Z"⟩, ⟨"EvenStepsModel", "isSlope", "(I)Z"⟩, prog_14_method_8_code, 2, (some .boolean), "EvenStepsModel", rfl, me_137, np_19, wd_1072, wd_30, wd_1074, Or.inl ⟨rfl, rfl⟩⟩, (fun _ h => absurd h List.not_mem_nil)⟩)
set_option maxRecDepth 100000 in
set_option maxHeartbeats 4000000 in
theorem me_136 : en_ME 136 ⟨"EvenStepsModel", "wholeOf", "(II)I"⟩ prog_14_method_7_code 6 (some .int) := ⟨⟨p_X12_wholeOf, rfl⟩, wd_1080, wd_68, ⟨by decide, by decide⟩, by decide⟩
set_option maxRecDepth 100000 in
set_option maxHeartbeats 4000000 in
theorem lk_349 : en_LV "EvenStepsModel" 118 2 [(11, 136)] := (List.forall_mem_cons.mpr ⟨⟨"EvenStepsModel", en_T11, 33, ⟨"EvenStepsModel", "wholeOf", "(II)I"⟩, ⟨"EvenStepsModel", "wholeOf", "(II)I"⟩, prog_14_method_7_code, 6, (some .int), "EvenStepsModel", rfl, me_136, np_12, wd_1077, wd_31, wd_1079, Or.inl ⟨rfl, rfl⟩⟩, (fun _ h => absurd h List.not_mem_nil)⟩)
set_option maxRecDepth 100000 in
set_option maxHeartbeats 4000000 in
theorem lk_353 : en_FP "EvenStepsModel" false 126 18 0 [(11, 0)] := ⟨"EvenStepsModel", (List.forall_mem_cons.mpr ⟨⟨"EvenStepsModel", en_T11, 33, .int, rfl, by decide, wd_965, Or.inl rfl, by decide +kernel, rfl, Or.inl rfl⟩, (fun _ h => absurd h List.not_mem_nil)⟩)⟩
set_option maxRecDepth 100000 in
set_option maxHeartbeats 4000000 in
theorem lk_354 : en_FG "EvenStepsModel" 126 18 [(11, 0)] := ⟨"EvenStepsModel", (List.forall_mem_cons.mpr ⟨⟨"EvenStepsModel", en_T11, 33, rfl, by decide, wd_965, Or.inl rfl⟩, (fun _ h => absurd h List.not_mem_nil)⟩)⟩
set_option maxRecDepth 100000 in
set_option maxHeartbeats 4000000 in
theorem me_143 : en_ME 143 ⟨"EvenStepsModel", "floorOf", "(JJJJ)J"⟩ prog_14_method_14_code 14 (some .long) := ⟨⟨p_X12_floorOf, rfl⟩, wd_1101, wd_68, ⟨by decide, by decide⟩, by decide⟩
set_option maxRecDepth 100000 in
set_option maxHeartbeats 4000000 in
theorem np_43 : en_np "(JJJJ)J" 4 := by unfold en_np; decide +kernel
set_option maxRecDepth 100000 in
set_option maxHeartbeats 4000000 in
theorem lk_355 : en_LS "EvenStepsModel" 129 4 [(0, 143)] := ⟨0, 143, ⟨"EvenStepsModel", "floorOf", "(JJJJ)J"⟩, prog_14_method_14_code, 14, (some .long), rfl, me_143, np_43, wd_1100, Or.inl wd_1099⟩
set_option maxRecDepth 100000 in
set_option maxHeartbeats 4000000 in
theorem lk_356 : en_FG "EvenStepsModel" 47 16 [(11, 0)] := ⟨"EvenStepsModel", (List.forall_mem_cons.mpr ⟨⟨"EvenStepsModel", en_T11, 33, rfl, by decide, wd_963, Or.inl rfl⟩, (fun _ h => absurd h List.not_mem_nil)⟩)⟩
set_option maxRecDepth 100000 in
set_option maxHeartbeats 4000000 in
theorem me_142 : en_ME 142 ⟨"EvenStepsModel", "common", "(JJ)J"⟩ prog_14_method_13_code 10 (some .long) := ⟨⟨p_X12_common, rfl⟩, wd_1105, wd_68, ⟨by decide, by decide⟩, by decide⟩
set_option maxRecDepth 100000 in
set_option maxHeartbeats 4000000 in
theorem lk_357 : en_LS "EvenStepsModel" 133 2 [(0, 142)] := ⟨0, 142, ⟨"EvenStepsModel", "common", "(JJ)J"⟩, prog_14_method_13_code, 10, (some .long), rfl, me_142, np_14, wd_1104, Or.inl wd_1103⟩
set_option maxRecDepth 100000 in
set_option maxHeartbeats 4000000 in
theorem me_144 : en_ME 144 ⟨"EvenStepsModel", "quotientsOf", "(I)V"⟩ prog_14_method_15_code 23 none := ⟨⟨p_X12_quotientsOf, rfl⟩, wd_1098, wd_68, ⟨by decide, by decide⟩, by decide⟩
set_option maxRecDepth 100000 in
set_option maxHeartbeats 4000000 in
theorem lk_358 : en_LV "EvenStepsModel" 137 1 [(11, 144)] := (List.forall_mem_cons.mpr ⟨⟨"EvenStepsModel", en_T11, 33, ⟨"EvenStepsModel", "quotientsOf", "(I)V"⟩, ⟨"EvenStepsModel", "quotientsOf", "(I)V"⟩, prog_14_method_15_code, 23, none, "EvenStepsModel", rfl, me_144, np_1, wd_1095, wd_33, wd_1097, Or.inl ⟨rfl, rfl⟩⟩, (fun _ h => absurd h List.not_mem_nil)⟩)
set_option maxRecDepth 100000 in
set_option maxHeartbeats 4000000 in
theorem lk_359 : en_FP "EvenStepsModel" false 141 19 0 [(11, 0)] := ⟨"EvenStepsModel", (List.forall_mem_cons.mpr ⟨⟨"EvenStepsModel", en_T11, 33, .int, rfl, by decide, wd_966, Or.inl rfl, by decide +kernel, rfl, Or.inl rfl⟩, (fun _ h => absurd h List.not_mem_nil)⟩)⟩
set_option maxRecDepth 100000 in
set_option maxHeartbeats 4000000 in
theorem lk_360 : en_FG "EvenStepsModel" 51 17 [(11, 0)] := ⟨"EvenStepsModel", (List.forall_mem_cons.mpr ⟨⟨"EvenStepsModel", en_T11, 33, rfl, by decide, wd_964, Or.inl rfl⟩, (fun _ h => absurd h List.not_mem_nil)⟩)⟩
set_option maxRecDepth 100000 in
set_option maxHeartbeats 4000000 in
theorem lk_361 : en_FG "EvenStepsModel" 141 19 [(11, 0)] := ⟨"EvenStepsModel", (List.forall_mem_cons.mpr ⟨⟨"EvenStepsModel", en_T11, 33, rfl, by decide, wd_966, Or.inl rfl⟩, (fun _ h => absurd h List.not_mem_nil)⟩)⟩
set_option maxRecDepth 100000 in
set_option maxHeartbeats 4000000 in
theorem me_146 : en_ME 146 ⟨"EvenStepsModel", "linesOf", "(I)V"⟩ prog_14_method_17_code 9 none := ⟨⟨p_X12_linesOf, rfl⟩, wd_1113, wd_68, ⟨by decide, by decide⟩, by decide⟩
set_option maxRecDepth 100000 in
set_option maxHeartbeats 4000000 in
theorem lk_363 : en_LV "EvenStepsModel" 146 1 [(11, 146)] := (List.forall_mem_cons.mpr ⟨⟨"EvenStepsModel", en_T11, 33, ⟨"EvenStepsModel", "linesOf", "(I)V"⟩, ⟨"EvenStepsModel", "linesOf", "(I)V"⟩, prog_14_method_17_code, 9, none, "EvenStepsModel", rfl, me_146, np_1, wd_1110, wd_34, wd_1112, Or.inl ⟨rfl, rfl⟩⟩, (fun _ h => absurd h List.not_mem_nil)⟩)
set_option maxRecDepth 100000 in
set_option maxHeartbeats 4000000 in
theorem lk_364 : en_FP "EvenStepsModel" false 149 21 0 [(11, 0)] := ⟨"EvenStepsModel", (List.forall_mem_cons.mpr ⟨⟨"EvenStepsModel", en_T11, 33, .int, rfl, by decide, wd_968, Or.inl rfl, by decide +kernel, rfl, Or.inl rfl⟩, (fun _ h => absurd h List.not_mem_nil)⟩)⟩
set_option maxRecDepth 100000 in
set_option maxHeartbeats 4000000 in
theorem lk_365 : en_FG "EvenStepsModel" 54 20 [(11, 0)] := ⟨"EvenStepsModel", (List.forall_mem_cons.mpr ⟨⟨"EvenStepsModel", en_T11, 33, rfl, by decide, wd_967, Or.inl rfl⟩, (fun _ h => absurd h List.not_mem_nil)⟩)⟩
set_option maxRecDepth 100000 in
set_option maxHeartbeats 4000000 in
theorem lk_366 : en_FG "EvenStepsModel" 149 21 [(11, 0)] := ⟨"EvenStepsModel", (List.forall_mem_cons.mpr ⟨⟨"EvenStepsModel", en_T11, 33, rfl, by decide, wd_968, Or.inl rfl⟩, (fun _ h => absurd h List.not_mem_nil)⟩)⟩
set_option maxRecDepth 100000 in
set_option maxHeartbeats 4000000 in
theorem me_149 : en_ME 149 ⟨"EvenStepsModel", "nearersOf", "(I)V"⟩ prog_14_method_20_code 16 none := ⟨⟨p_X12_nearersOf, rfl⟩, wd_1126, wd_68, ⟨by decide, by decide⟩, by decide⟩
set_option maxRecDepth 100000 in
set_option maxHeartbeats 4000000 in
theorem lk_367 : en_LV "EvenStepsModel" 152 1 [(11, 149)] := (List.forall_mem_cons.mpr ⟨⟨"EvenStepsModel", en_T11, 33, ⟨"EvenStepsModel", "nearersOf", "(I)V"⟩, ⟨"EvenStepsModel", "nearersOf", "(I)V"⟩, prog_14_method_20_code, 16, none, "EvenStepsModel", rfl, me_149, np_1, wd_1123, wd_35, wd_1125, Or.inl ⟨rfl, rfl⟩⟩, (fun _ h => absurd h List.not_mem_nil)⟩)
set_option maxRecDepth 100000 in
set_option maxHeartbeats 4000000 in
theorem lk_368 : en_FG "EvenStepsModel" 155 1 [(11, 0)] := ⟨"EvenStepsModel", (List.forall_mem_cons.mpr ⟨⟨"EvenStepsModel", en_T11, 33, rfl, by decide, wd_948, Or.inl rfl⟩, (fun _ h => absurd h List.not_mem_nil)⟩)⟩
set_option maxRecDepth 100000 in
set_option maxHeartbeats 4000000 in
theorem lk_369 : en_FG "EvenStepsModel" 35 11 [(11, 0)] := ⟨"EvenStepsModel", (List.forall_mem_cons.mpr ⟨⟨"EvenStepsModel", en_T11, 33, rfl, by decide, wd_958, Or.inl rfl⟩, (fun _ h => absurd h List.not_mem_nil)⟩)⟩
set_option maxRecDepth 100000 in
set_option maxHeartbeats 4000000 in
theorem lk_370 : en_FG "EvenStepsModel" 38 12 [(11, 0)] := ⟨"EvenStepsModel", (List.forall_mem_cons.mpr ⟨⟨"EvenStepsModel", en_T11, 33, rfl, by decide, wd_959, Or.inl rfl⟩, (fun _ h => absurd h List.not_mem_nil)⟩)⟩
set_option maxRecDepth 100000 in
set_option maxHeartbeats 4000000 in
theorem lk_371 : en_FG "EvenStepsModel" 41 13 [(11, 0)] := ⟨"EvenStepsModel", (List.forall_mem_cons.mpr ⟨⟨"EvenStepsModel", en_T11, 33, rfl, by decide, wd_960, Or.inl rfl⟩, (fun _ h => absurd h List.not_mem_nil)⟩)⟩
set_option maxRecDepth 100000 in
set_option maxHeartbeats 4000000 in
theorem lk_372 : en_FG "EvenStepsModel" 32 10 [(11, 0)] := ⟨"EvenStepsModel", (List.forall_mem_cons.mpr ⟨⟨"EvenStepsModel", en_T11, 33, rfl, by decide, wd_957, Or.inl rfl⟩, (fun _ h => absurd h List.not_mem_nil)⟩)⟩
set_option maxRecDepth 100000 in
set_option maxHeartbeats 4000000 in
theorem lk_373 : en_FG "EvenStepsModel" 25 8 [(11, 0)] := ⟨"EvenStepsModel", (List.forall_mem_cons.mpr ⟨⟨"EvenStepsModel", en_T11, 33, rfl, by decide, wd_955, Or.inl rfl⟩, (fun _ h => absurd h List.not_mem_nil)⟩)⟩
set_option maxRecDepth 100000 in
set_option maxHeartbeats 4000000 in
theorem lk_374 : en_FG "EvenStepsModel" 22 7 [(11, 0)] := ⟨"EvenStepsModel", (List.forall_mem_cons.mpr ⟨⟨"EvenStepsModel", en_T11, 33, rfl, by decide, wd_954, Or.inl rfl⟩, (fun _ h => absurd h List.not_mem_nil)⟩)⟩
set_option maxRecDepth 100000 in
set_option maxHeartbeats 4000000 in
theorem lk_375 : en_FG "EvenStepsModel" 28 9 [(11, 0)] := ⟨"EvenStepsModel", (List.forall_mem_cons.mpr ⟨⟨"EvenStepsModel", en_T11, 33, rfl, by decide, wd_956, Or.inl rfl⟩, (fun _ h => absurd h List.not_mem_nil)⟩)⟩
set_option maxRecDepth 100000 in
set_option maxHeartbeats 4000000 in
theorem lk_376 : en_FP "EvenStepsModel" false 155 1 0 [(11, 0)] := ⟨"EvenStepsModel", (List.forall_mem_cons.mpr ⟨⟨"EvenStepsModel", en_T11, 33, .int, rfl, by decide, wd_948, Or.inl rfl, by decide +kernel, rfl, Or.inl rfl⟩, (fun _ h => absurd h List.not_mem_nil)⟩)⟩
set_option maxRecDepth 100000 in
set_option maxHeartbeats 4000000 in
theorem me_154 : en_ME 154 ⟨"EvenStepsModel", "writes", "(JJJJJJ)V"⟩ prog_14_method_25_code 21 none := ⟨⟨p_X12_writes, rfl⟩, wd_1142, wd_68, ⟨by decide, by decide⟩, by decide⟩
set_option maxRecDepth 100000 in
set_option maxHeartbeats 4000000 in
theorem np_44 : en_np "(JJJJJJ)V" 6 := by unfold en_np; decide +kernel
set_option maxRecDepth 100000 in
set_option maxHeartbeats 4000000 in
theorem lk_377 : en_LV "EvenStepsModel" 158 6 [(11, 154)] := (List.forall_mem_cons.mpr ⟨⟨"EvenStepsModel", en_T11, 33, ⟨"EvenStepsModel", "writes", "(JJJJJJ)V"⟩, ⟨"EvenStepsModel", "writes", "(JJJJJJ)V"⟩, prog_14_method_25_code, 21, none, "EvenStepsModel", rfl, me_154, np_44, wd_1139, wd_36, wd_1141, Or.inl ⟨rfl, rfl⟩⟩, (fun _ h => absurd h List.not_mem_nil)⟩)
set_option maxRecDepth 100000 in
set_option maxHeartbeats 4000000 in
theorem me_152 : en_ME 152 ⟨"EvenStepsModel", "isRow", "(I)Z"⟩ prog_14_method_23_code 2 (some .boolean) := ⟨⟨p_X12_isRow, rfl⟩, wd_1154, wd_68, ⟨by decide, by decide⟩, by decide⟩
set_option maxRecDepth 100000 in
set_option maxHeartbeats 4000000 in
theorem lk_378 : en_LV "EvenStepsModel" 162 1 [(11, 152)] := (List.forall_mem_cons.mpr ⟨⟨"EvenStepsModel", en_T11, 33, ⟨"EvenStepsModel", "isRow", "(I)Z"⟩, ⟨"EvenStepsModel", "isRow", "(I)Z"⟩, prog_14_method_23_code, 2, (some .boolean), "EvenStepsModel", rfl, me_152, np_19, wd_1151, wd_37, wd_1153, Or.inl ⟨rfl, rfl⟩⟩, (fun _ h => absurd h List.not_mem_nil)⟩)
set_option maxRecDepth 100000 in
set_option maxHeartbeats 4000000 in
theorem lk_379 : en_FG "EvenStepsModel" 165 15 [(11, 0)] := ⟨"EvenStepsModel", (List.forall_mem_cons.mpr ⟨⟨"EvenStepsModel", en_T11, 33, rfl, by decide, wd_962, Or.inl rfl⟩, (fun _ h => absurd h List.not_mem_nil)⟩)⟩
set_option maxRecDepth 100000 in
set_option maxHeartbeats 4000000 in
theorem me_165 : en_ME 165 ⟨"EvenStepsModel", "sumOf", "(III)I"⟩ prog_14_method_36_code 6 (some .int) := ⟨⟨p_X12_sumOf, rfl⟩, wd_1194, wd_68, ⟨by decide, by decide⟩, by decide⟩
set_option maxRecDepth 100000 in
set_option maxHeartbeats 4000000 in
theorem lk_380 : en_LV "EvenStepsModel" 168 3 [(11, 165)] := (List.forall_mem_cons.mpr ⟨⟨"EvenStepsModel", en_T11, 33, ⟨"EvenStepsModel", "sumOf", "(III)I"⟩, ⟨"EvenStepsModel", "sumOf", "(III)I"⟩, prog_14_method_36_code, 6, (some .int), "EvenStepsModel", rfl, me_165, np_5, wd_1191, wd_40, wd_1193, Or.inl ⟨rfl, rfl⟩⟩, (fun _ h => absurd h List.not_mem_nil)⟩)
set_option maxRecDepth 100000 in
set_option maxHeartbeats 4000000 in
theorem me_164 : en_ME 164 ⟨"EvenStepsModel", "isStretch", "(III)Z"⟩ prog_14_method_35_code 4 (some .boolean) := ⟨⟨p_X12_isStretch, rfl⟩, wd_1186, wd_68, ⟨by decide, by decide⟩, by decide⟩
set_option maxRecDepth 100000 in
set_option maxHeartbeats 4000000 in
theorem lk_381 : en_LV "EvenStepsModel" 172 3 [(11, 164)] := (List.forall_mem_cons.mpr ⟨⟨"EvenStepsModel", en_T11, 33, ⟨"EvenStepsModel", "isStretch", "(III)Z"⟩, ⟨"EvenStepsModel", "isStretch", "(III)Z"⟩, prog_14_method_35_code, 4, (some .boolean), "EvenStepsModel", rfl, me_164, np_35, wd_1183, wd_38, wd_1185, Or.inl ⟨rfl, rfl⟩⟩, (fun _ h => absurd h List.not_mem_nil)⟩)
set_option maxRecDepth 100000 in
set_option maxHeartbeats 4000000 in
theorem me_166 : en_ME 166 ⟨"EvenStepsModel", "clashOf", "(III)I"⟩ prog_14_method_37_code 8 (some .int) := ⟨⟨p_X12_clashOf, rfl⟩, wd_1190, wd_68, ⟨by decide, by decide⟩, by decide⟩
set_option maxRecDepth 100000 in
set_option maxHeartbeats 4000000 in
theorem lk_382 : en_LV "EvenStepsModel" 175 3 [(11, 166)] := (List.forall_mem_cons.mpr ⟨⟨"EvenStepsModel", en_T11, 33, ⟨"EvenStepsModel", "clashOf", "(III)I"⟩, ⟨"EvenStepsModel", "clashOf", "(III)I"⟩, prog_14_method_37_code, 8, (some .int), "EvenStepsModel", rfl, me_166, np_5, wd_1187, wd_39, wd_1189, Or.inl ⟨rfl, rfl⟩⟩, (fun _ h => absurd h List.not_mem_nil)⟩)
set_option maxRecDepth 100000 in
set_option maxHeartbeats 4000000 in
theorem me_170 : en_ME 170 ⟨"EvenStepsModel", "areAlike", "(IIII)Z"⟩ prog_14_method_41_code 6 (some .boolean) := ⟨⟨p_X12_areAlike, rfl⟩, wd_1210, wd_68, ⟨by decide, by decide⟩, by decide⟩
set_option maxRecDepth 100000 in
set_option maxHeartbeats 4000000 in
theorem np_45 : en_np "(IIII)Z" 4 := by unfold en_np; decide +kernel
set_option maxRecDepth 100000 in
set_option maxHeartbeats 4000000 in
theorem lk_383 : en_LV "EvenStepsModel" 178 4 [(11, 170)] := (List.forall_mem_cons.mpr ⟨⟨"EvenStepsModel", en_T11, 33, ⟨"EvenStepsModel", "areAlike", "(IIII)Z"⟩, ⟨"EvenStepsModel", "areAlike", "(IIII)Z"⟩, prog_14_method_41_code, 6, (some .boolean), "EvenStepsModel", rfl, me_170, np_45, wd_1207, wd_41, wd_1209, Or.inl ⟨rfl, rfl⟩⟩, (fun _ h => absurd h List.not_mem_nil)⟩)
set_option maxRecDepth 100000 in
set_option maxHeartbeats 4000000 in
theorem me_171 : en_ME 171 ⟨"EvenStepsModel", "isBackward", "(III)Z"⟩ prog_14_method_42_code 5 (some .boolean) := ⟨⟨p_X12_isBackward, rfl⟩, wd_1214, wd_68, ⟨by decide, by decide⟩, by decide⟩
set_option maxRecDepth 100000 in
set_option maxHeartbeats 4000000 in
theorem lk_384 : en_LV "EvenStepsModel" 182 3 [(11, 171)] := (List.forall_mem_cons.mpr ⟨⟨"EvenStepsModel", en_T11, 33, ⟨"EvenStepsModel", "isBackward", "(III)Z"⟩, ⟨"EvenStepsModel", "isBackward", "(III)Z"⟩, prog_14_method_42_code, 5, (some .boolean), "EvenStepsModel", rfl, me_171, np_35, wd_1211, wd_42, wd_1213, Or.inl ⟨rfl, rfl⟩⟩, (fun _ h => absurd h List.not_mem_nil)⟩)
set_option maxRecDepth 100000 in
set_option maxHeartbeats 4000000 in
theorem lk_385 : en_FG "EvenStepsModel" 60 23 [(11, 0)] := ⟨"EvenStepsModel", (List.forall_mem_cons.mpr ⟨⟨"EvenStepsModel", en_T11, 33, rfl, by decide, wd_970, Or.inl rfl⟩, (fun _ h => absurd h List.not_mem_nil)⟩)⟩
set_option maxRecDepth 100000 in
set_option maxHeartbeats 4000000 in
theorem lk_386 : en_FG "EvenStepsModel" 57 22 [(11, 0)] := ⟨"EvenStepsModel", (List.forall_mem_cons.mpr ⟨⟨"EvenStepsModel", en_T11, 33, rfl, by decide, wd_969, Or.inl rfl⟩, (fun _ h => absurd h List.not_mem_nil)⟩)⟩
set_option maxRecDepth 100000 in
set_option maxHeartbeats 4000000 in
theorem me_175 : en_ME 175 ⟨"EvenStepsModel", "isAhead", "(III)Z"⟩ prog_14_method_46_code 8 (some .boolean) := ⟨⟨p_X12_isAhead, rfl⟩, wd_1234, wd_68, ⟨by decide, by decide⟩, by decide⟩
set_option maxRecDepth 100000 in
set_option maxHeartbeats 4000000 in
theorem lk_387 : en_LV "EvenStepsModel" 185 3 [(11, 175)] := (List.forall_mem_cons.mpr ⟨⟨"EvenStepsModel", en_T11, 33, ⟨"EvenStepsModel", "isAhead", "(III)Z"⟩, ⟨"EvenStepsModel", "isAhead", "(III)Z"⟩, prog_14_method_46_code, 8, (some .boolean), "EvenStepsModel", rfl, me_175, np_35, wd_1231, wd_46, wd_1233, Or.inl ⟨rfl, rfl⟩⟩, (fun _ h => absurd h List.not_mem_nil)⟩)
set_option maxRecDepth 100000 in
set_option maxHeartbeats 4000000 in
theorem me_174 : en_ME 174 ⟨"EvenStepsModel", "rings", "(II)V"⟩ prog_14_method_45_code 5 none := ⟨⟨p_X12_rings, rfl⟩, wd_1230, wd_68, ⟨by decide, by decide⟩, by decide⟩
set_option maxRecDepth 100000 in
set_option maxHeartbeats 4000000 in
theorem lk_388 : en_LV "EvenStepsModel" 188 2 [(11, 174)] := (List.forall_mem_cons.mpr ⟨⟨"EvenStepsModel", en_T11, 33, ⟨"EvenStepsModel", "rings", "(II)V"⟩, ⟨"EvenStepsModel", "rings", "(II)V"⟩, prog_14_method_45_code, 5, none, "EvenStepsModel", rfl, me_174, np_2, wd_1227, wd_45, wd_1229, Or.inl ⟨rfl, rfl⟩⟩, (fun _ h => absurd h List.not_mem_nil)⟩)
set_option maxRecDepth 100000 in
set_option maxHeartbeats 4000000 in
theorem lk_389 : en_FP "EvenStepsModel" false 192 30 0 [(11, 0)] := ⟨"EvenStepsModel", (List.forall_mem_cons.mpr ⟨⟨"EvenStepsModel", en_T11, 33, .int, rfl, by decide, wd_977, Or.inl rfl, by decide +kernel, rfl, Or.inl rfl⟩, (fun _ h => absurd h List.not_mem_nil)⟩)⟩
set_option maxRecDepth 100000 in
set_option maxHeartbeats 4000000 in
theorem lk_390 : en_FG "EvenStepsModel" 63 24 [(11, 0)] := ⟨"EvenStepsModel", (List.forall_mem_cons.mpr ⟨⟨"EvenStepsModel", en_T11, 33, rfl, by decide, wd_971, Or.inl rfl⟩, (fun _ h => absurd h List.not_mem_nil)⟩)⟩
set_option maxRecDepth 100000 in
set_option maxHeartbeats 4000000 in
theorem lk_391 : en_FG "EvenStepsModel" 66 25 [(11, 0)] := ⟨"EvenStepsModel", (List.forall_mem_cons.mpr ⟨⟨"EvenStepsModel", en_T11, 33, rfl, by decide, wd_972, Or.inl rfl⟩, (fun _ h => absurd h List.not_mem_nil)⟩)⟩
set_option maxRecDepth 100000 in
set_option maxHeartbeats 4000000 in
theorem lk_392 : en_FG "EvenStepsModel" 192 30 [(11, 0)] := ⟨"EvenStepsModel", (List.forall_mem_cons.mpr ⟨⟨"EvenStepsModel", en_T11, 33, rfl, by decide, wd_977, Or.inl rfl⟩, (fun _ h => absurd h List.not_mem_nil)⟩)⟩
set_option maxRecDepth 100000 in
set_option maxHeartbeats 4000000 in
theorem lk_393 : en_FG "EvenStepsModel" 69 26 [(11, 0)] := ⟨"EvenStepsModel", (List.forall_mem_cons.mpr ⟨⟨"EvenStepsModel", en_T11, 33, rfl, by decide, wd_973, Or.inl rfl⟩, (fun _ h => absurd h List.not_mem_nil)⟩)⟩
set_option maxRecDepth 100000 in
set_option maxHeartbeats 4000000 in
theorem lk_394 : en_FG "EvenStepsModel" 72 27 [(11, 0)] := ⟨"EvenStepsModel", (List.forall_mem_cons.mpr ⟨⟨"EvenStepsModel", en_T11, 33, rfl, by decide, wd_974, Or.inl rfl⟩, (fun _ h => absurd h List.not_mem_nil)⟩)⟩
set_option maxRecDepth 100000 in
set_option maxHeartbeats 4000000 in
theorem me_176 : en_ME 176 ⟨"EvenStepsModel", "against", "(IIIII)I"⟩ prog_14_method_47_code 10 (some .int) := ⟨⟨p_X12_against_, rfl⟩, wd_1238, wd_68, ⟨by decide, by decide⟩, by decide⟩
set_option maxRecDepth 100000 in
set_option maxHeartbeats 4000000 in
theorem np_46 : en_np "(IIIII)I" 5 := by unfold en_np; decide +kernel
set_option maxRecDepth 100000 in
set_option maxHeartbeats 4000000 in
theorem lk_395 : en_LV "EvenStepsModel" 195 5 [(11, 176)] := (List.forall_mem_cons.mpr ⟨⟨"EvenStepsModel", en_T11, 33, ⟨"EvenStepsModel", "against", "(IIIII)I"⟩, ⟨"EvenStepsModel", "against", "(IIIII)I"⟩, prog_14_method_47_code, 10, (some .int), "EvenStepsModel", rfl, me_176, np_46, wd_1235, wd_47, wd_1237, Or.inl ⟨rfl, rfl⟩⟩, (fun _ h => absurd h List.not_mem_nil)⟩)
set_option maxRecDepth 100000 in
set_option maxHeartbeats 4000000 in
theorem lk_396 : en_FG "EvenStepsModel" 75 28 [(11, 0)] := ⟨"EvenStepsModel", (List.forall_mem_cons.mpr ⟨⟨"EvenStepsModel", en_T11, 33, rfl, by decide, wd_975, Or.inl rfl⟩, (fun _ h => absurd h List.not_mem_nil)⟩)⟩
set_option maxRecDepth 100000 in
set_option maxHeartbeats 4000000 in
theorem me_173 : en_ME 173 ⟨"EvenStepsModel", "arePoints", "(II)Z"⟩ prog_14_method_44_code 4 (some .boolean) := ⟨⟨p_X12_arePoints, rfl⟩, wd_1222, wd_68, ⟨by decide, by decide⟩, by decide⟩
set_option maxRecDepth 100000 in
set_option maxHeartbeats 4000000 in
theorem lk_397 : en_LV "EvenStepsModel" 199 2 [(11, 173)] := (List.forall_mem_cons.mpr ⟨⟨"EvenStepsModel", en_T11, 33, ⟨"EvenStepsModel", "arePoints", "(II)Z"⟩, ⟨"EvenStepsModel", "arePoints", "(II)Z"⟩, prog_14_method_44_code, 4, (some .boolean), "EvenStepsModel", rfl, me_173, np_3, wd_1219, wd_43, wd_1221, Or.inl ⟨rfl, rfl⟩⟩, (fun _ h => absurd h List.not_mem_nil)⟩)
set_option maxRecDepth 100000 in
set_option maxHeartbeats 4000000 in
theorem me_177 : en_ME 177 ⟨"EvenStepsModel", "gapsOf", "(II)V"⟩ prog_14_method_48_code 7 none := ⟨⟨p_X12_gapsOf, rfl⟩, wd_1226, wd_68, ⟨by decide, by decide⟩, by decide⟩
set_option maxRecDepth 100000 in
set_option maxHeartbeats 4000000 in
theorem lk_398 : en_LV "EvenStepsModel" 203 2 [(11, 177)] := (List.forall_mem_cons.mpr ⟨⟨"EvenStepsModel", en_T11, 33, ⟨"EvenStepsModel", "gapsOf", "(II)V"⟩, ⟨"EvenStepsModel", "gapsOf", "(II)V"⟩, prog_14_method_48_code, 7, none, "EvenStepsModel", rfl, me_177, np_2, wd_1223, wd_44, wd_1225, Or.inl ⟨rfl, rfl⟩⟩, (fun _ h => absurd h List.not_mem_nil)⟩)
set_option maxRecDepth 100000 in
set_option maxHeartbeats 4000000 in
theorem me_181 : en_ME 181 ⟨"EvenStepsModel", "areOne", "(II)Z"⟩ prog_14_method_52_code 17 (some .boolean) := ⟨⟨p_X12_areOne, rfl⟩, wd_1254, wd_68, ⟨by decide, by decide⟩, by decide⟩
set_option maxRecDepth 100000 in
set_option maxHeartbeats 4000000 in
theorem lk_399 : en_LV "EvenStepsModel" 206 2 [(11, 181)] := (List.forall_mem_cons.mpr ⟨⟨"EvenStepsModel", en_T11, 33, ⟨"EvenStepsModel", "areOne", "(II)Z"⟩, ⟨"EvenStepsModel", "areOne", "(II)Z"⟩, prog_14_method_52_code, 17, (some .boolean), "EvenStepsModel", rfl, me_181, np_3, wd_1251, wd_48, wd_1253, Or.inl ⟨rfl, rfl⟩⟩, (fun _ h => absurd h List.not_mem_nil)⟩)
set_option maxRecDepth 100000 in
set_option maxHeartbeats 4000000 in
theorem lk_401 : en_FG "EvenStepsModel" 211 32 [(11, 0)] := ⟨"EvenStepsModel", (List.forall_mem_cons.mpr ⟨⟨"EvenStepsModel", en_T11, 33, rfl, by decide, wd_979, Or.inl rfl⟩, (fun _ h => absurd h List.not_mem_nil)⟩)⟩
set_option maxRecDepth 100000 in
set_option maxHeartbeats 4000000 in
theorem lk_402 : en_FP "EvenStepsModel" false 211 32 3 [(11, 0)] := ⟨"EvenStepsModel", (List.forall_mem_cons.mpr ⟨⟨"EvenStepsModel", en_T11, 33, .boolean, rfl, by decide, wd_979, Or.inl rfl, by decide +kernel, rfl, Or.inl rfl⟩, (fun _ h => absurd h List.not_mem_nil)⟩)⟩
set_option maxRecDepth 100000 in
set_option maxHeartbeats 4000000 in
theorem lk_403 : en_FG "EvenStepsModel" 81 31 [(11, 0)] := ⟨"EvenStepsModel", (List.forall_mem_cons.mpr ⟨⟨"EvenStepsModel", en_T11, 33, rfl, by decide, wd_978, Or.inl rfl⟩, (fun _ h => absurd h List.not_mem_nil)⟩)⟩
set_option maxRecDepth 100000 in
set_option maxHeartbeats 4000000 in
theorem me_185 : en_ME 185 ⟨"EvenStepsModel", "pairs", "()V"⟩ prog_14_method_56_code 3 none := ⟨⟨p_X12_pairs, rfl⟩, wd_1271, wd_68, ⟨by decide, by decide⟩, by decide⟩
set_option maxRecDepth 100000 in
set_option maxHeartbeats 4000000 in
theorem lk_404 : en_LV "EvenStepsModel" 215 0 [(11, 185)] := (List.forall_mem_cons.mpr ⟨⟨"EvenStepsModel", en_T11, 33, ⟨"EvenStepsModel", "pairs", "()V"⟩, ⟨"EvenStepsModel", "pairs", "()V"⟩, prog_14_method_56_code, 3, none, "EvenStepsModel", rfl, me_185, np_20, wd_1268, wd_49, wd_1270, Or.inl ⟨rfl, rfl⟩⟩, (fun _ h => absurd h List.not_mem_nil)⟩)
set_option maxRecDepth 100000 in
set_option maxHeartbeats 4000000 in
theorem me_186 : en_ME 186 ⟨"EvenStepsModel", "wins", "(II)I"⟩ prog_14_method_57_code 3 (some .int) := ⟨⟨p_X12_wins, rfl⟩, wd_1267, wd_68, ⟨by decide, by decide⟩, by decide⟩
set_option maxRecDepth 100000 in
set_option maxHeartbeats 4000000 in
theorem lk_405 : en_LV "EvenStepsModel" 218 2 [(11, 186)] := (List.forall_mem_cons.mpr ⟨⟨"EvenStepsModel", en_T11, 33, ⟨"EvenStepsModel", "wins", "(II)I"⟩, ⟨"EvenStepsModel", "wins", "(II)I"⟩, prog_14_method_57_code, 3, (some .int), "EvenStepsModel", rfl, me_186, np_12, wd_1276, wd_1266, wd_1265, Or.inl ⟨rfl, rfl⟩⟩, (fun _ h => absurd h List.not_mem_nil)⟩)
set_option maxRecDepth 100000 in
set_option maxHeartbeats 4000000 in
theorem lk_409 : en_FG "EvenStepsModel" 44 14 [(11, 0)] := ⟨"EvenStepsModel", (List.forall_mem_cons.mpr ⟨⟨"EvenStepsModel", en_T11, 33, rfl, by decide, wd_961, Or.inl rfl⟩, (fun _ h => absurd h List.not_mem_nil)⟩)⟩
set_option maxRecDepth 100000 in
set_option maxHeartbeats 4000000 in
theorem lk_410 : en_FP "EvenStepsModel" false 165 15 0 [(11, 0)] := ⟨"EvenStepsModel", (List.forall_mem_cons.mpr ⟨⟨"EvenStepsModel", en_T11, 33, .int, rfl, by decide, wd_962, Or.inl rfl, by decide +kernel, rfl, Or.inl rfl⟩, (fun _ h => absurd h List.not_mem_nil)⟩)⟩
set_option maxRecDepth 100000 in
set_option maxHeartbeats 4000000 in
theorem me_188 : en_ME 188 ⟨"EvenStepsModel", "ran", "(I)V"⟩ prog_14_method_59_code 2 none := ⟨⟨p_X12_ran, rfl⟩, wd_1295, wd_68, ⟨by decide, by decide⟩, by decide⟩
set_option maxRecDepth 100000 in
set_option maxHeartbeats 4000000 in
theorem lk_411 : en_LV "EvenStepsModel" 224 1 [(11, 188)] := (List.forall_mem_cons.mpr ⟨⟨"EvenStepsModel", en_T11, 33, ⟨"EvenStepsModel", "ran", "(I)V"⟩, ⟨"EvenStepsModel", "ran", "(I)V"⟩, prog_14_method_59_code, 2, none, "EvenStepsModel", rfl, me_188, np_1, wd_1292, wd_52, wd_1294, Or.inl ⟨rfl, rfl⟩⟩, (fun _ h => absurd h List.not_mem_nil)⟩)
set_option maxRecDepth 100000 in
set_option maxHeartbeats 4000000 in
theorem me_189 : en_ME 189 ⟨"EvenStepsModel", "stepOne", "(I)I"⟩ prog_14_method_60_code 2 (some .int) := ⟨⟨p_X12_stepOne, rfl⟩, wd_1299, wd_68, ⟨by decide, by decide⟩, by decide⟩
set_option maxRecDepth 100000 in
set_option maxHeartbeats 4000000 in
theorem lk_412 : en_LV "EvenStepsModel" 227 1 [(11, 189)] := (List.forall_mem_cons.mpr ⟨⟨"EvenStepsModel", en_T11, 33, ⟨"EvenStepsModel", "stepOne", "(I)I"⟩, ⟨"EvenStepsModel", "stepOne", "(I)I"⟩, prog_14_method_60_code, 2, (some .int), "EvenStepsModel", rfl, me_189, np_8, wd_1296, wd_53, wd_1298, Or.inl ⟨rfl, rfl⟩⟩, (fun _ h => absurd h List.not_mem_nil)⟩)
set_option maxRecDepth 100000 in
set_option maxHeartbeats 4000000 in
theorem me_190 : en_ME 190 ⟨"EvenStepsModel", "goRow", "(II)I"⟩ prog_14_method_61_code 3 (some .int) := ⟨⟨p_X12_goRow, rfl⟩, wd_1291, wd_68, ⟨by decide, by decide⟩, by decide⟩
set_option maxRecDepth 100000 in
set_option maxHeartbeats 4000000 in
theorem lk_413 : en_LV "EvenStepsModel" 230 2 [(11, 190)] := (List.forall_mem_cons.mpr ⟨⟨"EvenStepsModel", en_T11, 33, ⟨"EvenStepsModel", "goRow", "(II)I"⟩, ⟨"EvenStepsModel", "goRow", "(II)I"⟩, prog_14_method_61_code, 3, (some .int), "EvenStepsModel", rfl, me_190, np_12, wd_1288, wd_51, wd_1290, Or.inl ⟨rfl, rfl⟩⟩, (fun _ h => absurd h List.not_mem_nil)⟩)
set_option maxRecDepth 100000 in
set_option maxHeartbeats 4000000 in
theorem me_191 : en_ME 191 ⟨"EvenStepsModel", "goEven", "(II)I"⟩ prog_14_method_62_code 3 (some .int) := ⟨⟨p_X12_goEven, rfl⟩, wd_1303, wd_68, ⟨by decide, by decide⟩, by decide⟩
set_option maxRecDepth 100000 in
set_option maxHeartbeats 4000000 in
theorem lk_414 : en_LV "EvenStepsModel" 233 2 [(11, 191)] := (List.forall_mem_cons.mpr ⟨⟨"EvenStepsModel", en_T11, 33, ⟨"EvenStepsModel", "goEven", "(II)I"⟩, ⟨"EvenStepsModel", "goEven", "(II)I"⟩, prog_14_method_62_code, 3, (some .int), "EvenStepsModel", rfl, me_191, np_12, wd_1300, wd_54, wd_1302, Or.inl ⟨rfl, rfl⟩⟩, (fun _ h => absurd h List.not_mem_nil)⟩)
set_option maxRecDepth 100000 in
set_option maxHeartbeats 4000000 in
theorem me_192 : en_ME 192 ⟨"EvenStepsModel", "go", "(II)I"⟩ prog_14_method_63_code 3 (some .int) := ⟨⟨p_X12_go, rfl⟩, wd_1287, wd_68, ⟨by decide, by decide⟩, by decide⟩
set_option maxRecDepth 100000 in
set_option maxHeartbeats 4000000 in
theorem lk_415 : en_LV "EvenStepsModel" 236 2 [(11, 192)] := (List.forall_mem_cons.mpr ⟨⟨"EvenStepsModel", en_T11, 33, ⟨"EvenStepsModel", "go", "(II)I"⟩, ⟨"EvenStepsModel", "go", "(II)I"⟩, prog_14_method_63_code, 3, (some .int), "EvenStepsModel", rfl, me_192, np_12, wd_1284, wd_50, wd_1286, Or.inl ⟨rfl, rfl⟩⟩, (fun _ h => absurd h List.not_mem_nil)⟩)
set_option maxRecDepth 100000 in
set_option maxHeartbeats 4000000 in
theorem me_193 : en_ME 193 ⟨"EvenStepsModel", "gapRow", "(II)I"⟩ prog_14_method_64_code 3 (some .int) := ⟨⟨p_X12_gapRow, rfl⟩, wd_1311, wd_68, ⟨by decide, by decide⟩, by decide⟩
set_option maxRecDepth 100000 in
set_option maxHeartbeats 4000000 in
theorem lk_416 : en_LV "EvenStepsModel" 239 2 [(11, 193)] := (List.forall_mem_cons.mpr ⟨⟨"EvenStepsModel", en_T11, 33, ⟨"EvenStepsModel", "gapRow", "(II)I"⟩, ⟨"EvenStepsModel", "gapRow", "(II)I"⟩, prog_14_method_64_code, 3, (some .int), "EvenStepsModel", rfl, me_193, np_12, wd_1308, wd_56, wd_1310, Or.inl ⟨rfl, rfl⟩⟩, (fun _ h => absurd h List.not_mem_nil)⟩)
set_option maxRecDepth 100000 in
set_option maxHeartbeats 4000000 in
theorem me_195 : en_ME 195 ⟨"EvenStepsModel", "growRow", "(II)I"⟩ prog_14_method_66_code 3 (some .int) := ⟨⟨p_X12_growRow, rfl⟩, wd_1319, wd_68, ⟨by decide, by decide⟩, by decide⟩
set_option maxRecDepth 100000 in
set_option maxHeartbeats 4000000 in
theorem lk_417 : en_LV "EvenStepsModel" 242 2 [(11, 195)] := (List.forall_mem_cons.mpr ⟨⟨"EvenStepsModel", en_T11, 33, ⟨"EvenStepsModel", "growRow", "(II)I"⟩, ⟨"EvenStepsModel", "growRow", "(II)I"⟩, prog_14_method_66_code, 3, (some .int), "EvenStepsModel", rfl, me_195, np_12, wd_1316, wd_58, wd_1318, Or.inl ⟨rfl, rfl⟩⟩, (fun _ h => absurd h List.not_mem_nil)⟩)
set_option maxRecDepth 100000 in
set_option maxHeartbeats 4000000 in
theorem me_196 : en_ME 196 ⟨"EvenStepsModel", "growEven", "(II)I"⟩ prog_14_method_67_code 3 (some .int) := ⟨⟨p_X12_growEven, rfl⟩, wd_1323, wd_68, ⟨by decide, by decide⟩, by decide⟩
set_option maxRecDepth 100000 in
set_option maxHeartbeats 4000000 in
theorem lk_418 : en_LV "EvenStepsModel" 245 2 [(11, 196)] := (List.forall_mem_cons.mpr ⟨⟨"EvenStepsModel", en_T11, 33, ⟨"EvenStepsModel", "growEven", "(II)I"⟩, ⟨"EvenStepsModel", "growEven", "(II)I"⟩, prog_14_method_67_code, 3, (some .int), "EvenStepsModel", rfl, me_196, np_12, wd_1320, wd_59, wd_1322, Or.inl ⟨rfl, rfl⟩⟩, (fun _ h => absurd h List.not_mem_nil)⟩)
set_option maxRecDepth 100000 in
set_option maxHeartbeats 4000000 in
theorem me_194 : en_ME 194 ⟨"EvenStepsModel", "gapNow", "(II)I"⟩ prog_14_method_65_code 4 (some .int) := ⟨⟨p_X12_gapNow, rfl⟩, wd_1307, wd_68, ⟨by decide, by decide⟩, by decide⟩
set_option maxRecDepth 100000 in
set_option maxHeartbeats 4000000 in
theorem lk_419 : en_LV "EvenStepsModel" 248 2 [(11, 194)] := (List.forall_mem_cons.mpr ⟨⟨"EvenStepsModel", en_T11, 33, ⟨"EvenStepsModel", "gapNow", "(II)I"⟩, ⟨"EvenStepsModel", "gapNow", "(II)I"⟩, prog_14_method_65_code, 4, (some .int), "EvenStepsModel", rfl, me_194, np_12, wd_1304, wd_55, wd_1306, Or.inl ⟨rfl, rfl⟩⟩, (fun _ h => absurd h List.not_mem_nil)⟩)
set_option maxRecDepth 100000 in
set_option maxHeartbeats 4000000 in
theorem me_197 : en_ME 197 ⟨"EvenStepsModel", "grow", "(II)I"⟩ prog_14_method_68_code 3 (some .int) := ⟨⟨p_X12_grow, rfl⟩, wd_1315, wd_68, ⟨by decide, by decide⟩, by decide⟩
set_option maxRecDepth 100000 in
set_option maxHeartbeats 4000000 in
theorem lk_420 : en_LV "EvenStepsModel" 251 2 [(11, 197)] := (List.forall_mem_cons.mpr ⟨⟨"EvenStepsModel", en_T11, 33, ⟨"EvenStepsModel", "grow", "(II)I"⟩, ⟨"EvenStepsModel", "grow", "(II)I"⟩, prog_14_method_68_code, 3, (some .int), "EvenStepsModel", rfl, me_197, np_12, wd_1312, wd_57, wd_1314, Or.inl ⟨rfl, rfl⟩⟩, (fun _ h => absurd h List.not_mem_nil)⟩)
set_option maxRecDepth 100000 in
set_option maxHeartbeats 4000000 in
theorem me_198 : en_ME 198 ⟨"EvenStepsModel", "tellRow", "(II)I"⟩ prog_14_method_69_code 4 (some .int) := ⟨⟨p_X12_tellRow, rfl⟩, wd_1331, wd_68, ⟨by decide, by decide⟩, by decide⟩
set_option maxRecDepth 100000 in
set_option maxHeartbeats 4000000 in
theorem lk_421 : en_LV "EvenStepsModel" 254 2 [(11, 198)] := (List.forall_mem_cons.mpr ⟨⟨"EvenStepsModel", en_T11, 33, ⟨"EvenStepsModel", "tellRow", "(II)I"⟩, ⟨"EvenStepsModel", "tellRow", "(II)I"⟩, prog_14_method_69_code, 4, (some .int), "EvenStepsModel", rfl, me_198, np_12, wd_1328, wd_61, wd_1330, Or.inl ⟨rfl, rfl⟩⟩, (fun _ h => absurd h List.not_mem_nil)⟩)
set_option maxRecDepth 100000 in
set_option maxHeartbeats 4000000 in
theorem me_199 : en_ME 199 ⟨"EvenStepsModel", "tell", "(II)I"⟩ prog_14_method_70_code 4 (some .int) := ⟨⟨p_X12_tell, rfl⟩, wd_1327, wd_68, ⟨by decide, by decide⟩, by decide⟩
set_option maxRecDepth 100000 in
set_option maxHeartbeats 4000000 in
theorem lk_422 : en_LV "EvenStepsModel" 257 2 [(11, 199)] := (List.forall_mem_cons.mpr ⟨⟨"EvenStepsModel", en_T11, 33, ⟨"EvenStepsModel", "tell", "(II)I"⟩, ⟨"EvenStepsModel", "tell", "(II)I"⟩, prog_14_method_70_code, 4, (some .int), "EvenStepsModel", rfl, me_199, np_12, wd_1324, wd_60, wd_1326, Or.inl ⟨rfl, rfl⟩⟩, (fun _ h => absurd h List.not_mem_nil)⟩)
set_option maxRecDepth 100000 in
set_option maxHeartbeats 4000000 in
theorem me_204 : en_ME 204 ⟨"EvenStepsModel", "modulo", "(II)I"⟩ prog_14_method_75_code 3 (some .int) := ⟨⟨p_X12_modulo, rfl⟩, wd_1350, wd_68, ⟨by decide, by decide⟩, by decide⟩
set_option maxRecDepth 100000 in
set_option maxHeartbeats 4000000 in
theorem lk_423 : en_LS "EvenStepsModel" 260 2 [(0, 204)] := ⟨0, 204, ⟨"EvenStepsModel", "modulo", "(II)I"⟩, prog_14_method_75_code, 3, (some .int), rfl, me_204, np_12, wd_1349, Or.inl wd_1348⟩
set_option maxRecDepth 100000 in
set_option maxHeartbeats 4000000 in
theorem me_205 : en_ME 205 ⟨"EvenStepsModel", "isUnder", "(II)Z"⟩ prog_14_method_76_code 2 (some .boolean) := ⟨⟨p_X12_isUnder, rfl⟩, wd_1353, wd_68, ⟨by decide, by decide⟩, by decide⟩
set_option maxRecDepth 100000 in
set_option maxHeartbeats 4000000 in
theorem lk_424 : en_LS "EvenStepsModel" 263 2 [(0, 205)] := ⟨0, 205, ⟨"EvenStepsModel", "isUnder", "(II)Z"⟩, prog_14_method_76_code, 2, (some .boolean), rfl, me_205, np_3, wd_1352, Or.inl wd_1351⟩
set_option maxRecDepth 100000 in
set_option maxHeartbeats 4000000 in
theorem lk_425 : en_FG "EvenStepsModel" 84 2 [(11, 0)] := ⟨"EvenStepsModel", (List.forall_mem_cons.mpr ⟨⟨"EvenStepsModel", en_T11, 33, rfl, by decide, wd_949, Or.inl rfl⟩, (fun _ h => absurd h List.not_mem_nil)⟩)⟩
set_option maxRecDepth 100000 in
set_option maxHeartbeats 4000000 in
theorem me_208 : en_ME 208 ⟨"java/lang/Integer", "numberOfLeadingZeros", "(I)I"⟩ prog_15_method_47_code 2 (some .int) := ⟨⟨p_J6_numberOfLeadingZeros_0f7a4, rfl⟩, wd_263, wd_70, ⟨by decide, by decide⟩, by decide⟩
set_option maxRecDepth 100000 in
set_option maxHeartbeats 4000000 in
theorem lk_427 : en_LS "java/lang/Long" 308 1 [(0, 208)] := ⟨0, 208, ⟨"java/lang/Integer", "numberOfLeadingZeros", "(I)I"⟩, prog_15_method_47_code, 2, (some .int), rfl, me_208, np_8, wd_262, Or.inl wd_261⟩
set_option maxRecDepth 100000 in
set_option maxHeartbeats 4000000 in
theorem me_61 : en_ME 61 ⟨"EvenSteps", "<init>", "()V"⟩ prog_1_method_1_code 2 none := ⟨⟨p_X11_init, rfl⟩, wd_83, wd_63, ⟨by decide, by decide⟩, by decide⟩
set_option maxRecDepth 100000 in
set_option maxHeartbeats 4000000 in
theorem lk_432 : en_LI "EvenStepsLaw" 9 0 [(10, 61)] := ⟨⟨"EvenSteps", "<init>", "()V"⟩, prog_1_method_1_code, 2, (List.forall_mem_cons.mpr ⟨me_61, (fun _ h => absurd h List.not_mem_nil)⟩), np_20, wd_82, rfl, wd_81⟩
set_option maxRecDepth 100000 in
set_option maxHeartbeats 4000000 in
theorem me_130 : en_ME 130 ⟨"EvenStepsModel", "<init>", "()V"⟩ prog_14_method_1_code 2 none := ⟨⟨p_X12_init, rfl⟩, wd_944, wd_68, ⟨by decide, by decide⟩, by decide⟩
set_option maxRecDepth 100000 in
set_option maxHeartbeats 4000000 in
theorem lk_434 : en_LI "EvenStepsLaw" 12 0 [(11, 130)] := ⟨⟨"EvenStepsModel", "<init>", "()V"⟩, prog_14_method_1_code, 2, (List.forall_mem_cons.mpr ⟨me_130, (fun _ h => absurd h List.not_mem_nil)⟩), np_20, wd_943, rfl, wd_942⟩
set_option maxRecDepth 100000 in
set_option maxHeartbeats 4000000 in
theorem me_62 : en_ME 62 ⟨"EvenSteps", "slope", "(IIII)I"⟩ prog_1_method_2_code 5 (some .int) := ⟨⟨p_X11_slope, rfl⟩, wd_247, wd_63, ⟨by decide, by decide⟩, by decide⟩
set_option maxRecDepth 100000 in
set_option maxHeartbeats 4000000 in
theorem np_47 : en_np "(IIII)I" 4 := by unfold en_np; decide +kernel
set_option maxRecDepth 100000 in
set_option maxHeartbeats 4000000 in
theorem lk_435 : en_LV "EvenStepsLaw" 13 4 [(10, 62)] := (List.forall_mem_cons.mpr ⟨⟨"EvenSteps", en_T10, 11, ⟨"EvenSteps", "slope", "(IIII)I"⟩, ⟨"EvenSteps", "slope", "(IIII)I"⟩, prog_1_method_2_code, 5, (some .int), "EvenSteps", rfl, me_62, np_47, wd_244, wd_246, wd_245, Or.inl ⟨rfl, rfl⟩⟩, (fun _ h => absurd h List.not_mem_nil)⟩)
set_option maxRecDepth 100000 in
set_option maxHeartbeats 4000000 in
theorem me_139 : en_ME 139 ⟨"EvenStepsModel", "slope", "(IIII)I"⟩ prog_14_method_10_code 6 (some .int) := ⟨⟨p_X12_slope, rfl⟩, wd_1050, wd_68, ⟨by decide, by decide⟩, by decide⟩
set_option maxRecDepth 100000 in
set_option maxHeartbeats 4000000 in
theorem lk_436 : en_LV "EvenStepsLaw" 17 4 [(11, 139)] := (List.forall_mem_cons.mpr ⟨⟨"EvenStepsModel", en_T11, 33, ⟨"EvenStepsModel", "slope", "(IIII)I"⟩, ⟨"EvenStepsModel", "slope", "(IIII)I"⟩, prog_14_method_10_code, 6, (some .int), "EvenStepsModel", rfl, me_139, np_47, wd_1047, wd_1049, wd_1048, Or.inl ⟨rfl, rfl⟩⟩, (fun _ h => absurd h List.not_mem_nil)⟩)
set_option maxRecDepth 100000 in
set_option maxHeartbeats 4000000 in
theorem me_63 : en_ME 63 ⟨"EvenSteps", "row", "(III)I"⟩ prog_1_method_3_code 5 (some .int) := ⟨⟨p_X11_row, rfl⟩, wd_339, wd_63, ⟨by decide, by decide⟩, by decide⟩
set_option maxRecDepth 100000 in
set_option maxHeartbeats 4000000 in
theorem lk_437 : en_LV "EvenStepsLaw" 18 3 [(10, 63)] := (List.forall_mem_cons.mpr ⟨⟨"EvenSteps", en_T10, 11, ⟨"EvenSteps", "row", "(III)I"⟩, ⟨"EvenSteps", "row", "(III)I"⟩, prog_1_method_3_code, 5, (some .int), "EvenSteps", rfl, me_63, np_5, wd_336, wd_338, wd_337, Or.inl ⟨rfl, rfl⟩⟩, (fun _ h => absurd h List.not_mem_nil)⟩)
set_option maxRecDepth 100000 in
set_option maxHeartbeats 4000000 in
theorem me_153 : en_ME 153 ⟨"EvenStepsModel", "row", "(III)I"⟩ prog_14_method_24_code 5 (some .int) := ⟨⟨p_X12_row, rfl⟩, wd_1134, wd_68, ⟨by decide, by decide⟩, by decide⟩
set_option maxRecDepth 100000 in
set_option maxHeartbeats 4000000 in
theorem lk_438 : en_LV "EvenStepsLaw" 22 3 [(11, 153)] := (List.forall_mem_cons.mpr ⟨⟨"EvenStepsModel", en_T11, 33, ⟨"EvenStepsModel", "row", "(III)I"⟩, ⟨"EvenStepsModel", "row", "(III)I"⟩, prog_14_method_24_code, 5, (some .int), "EvenStepsModel", rfl, me_153, np_5, wd_1131, wd_1133, wd_1132, Or.inl ⟨rfl, rfl⟩⟩, (fun _ h => absurd h List.not_mem_nil)⟩)
set_option maxRecDepth 100000 in
set_option maxHeartbeats 4000000 in
theorem me_64 : en_ME 64 ⟨"EvenSteps", "even", "(III)I"⟩ prog_1_method_4_code 5 (some .int) := ⟨⟨p_X11_even, rfl⟩, wd_414, wd_63, ⟨by decide, by decide⟩, by decide⟩
set_option maxRecDepth 100000 in
set_option maxHeartbeats 4000000 in
theorem lk_439 : en_LV "EvenStepsLaw" 23 3 [(10, 64)] := (List.forall_mem_cons.mpr ⟨⟨"EvenSteps", en_T10, 11, ⟨"EvenSteps", "even", "(III)I"⟩, ⟨"EvenSteps", "even", "(III)I"⟩, prog_1_method_4_code, 5, (some .int), "EvenSteps", rfl, me_64, np_5, wd_411, wd_413, wd_412, Or.inl ⟨rfl, rfl⟩⟩, (fun _ h => absurd h List.not_mem_nil)⟩)
set_option maxRecDepth 100000 in
set_option maxHeartbeats 4000000 in
theorem me_155 : en_ME 155 ⟨"EvenStepsModel", "even", "(III)I"⟩ prog_14_method_26_code 4 (some .int) := ⟨⟨p_X12_even, rfl⟩, wd_1138, wd_68, ⟨by decide, by decide⟩, by decide⟩
set_option maxRecDepth 100000 in
set_option maxHeartbeats 4000000 in
theorem lk_440 : en_LV "EvenStepsLaw" 26 3 [(11, 155)] := (List.forall_mem_cons.mpr ⟨⟨"EvenStepsModel", en_T11, 33, ⟨"EvenStepsModel", "even", "(III)I"⟩, ⟨"EvenStepsModel", "even", "(III)I"⟩, prog_14_method_26_code, 4, (some .int), "EvenStepsModel", rfl, me_155, np_5, wd_1135, wd_1137, wd_1136, Or.inl ⟨rfl, rfl⟩⟩, (fun _ h => absurd h List.not_mem_nil)⟩)
set_option maxRecDepth 100000 in
set_option maxHeartbeats 4000000 in
theorem me_65 : en_ME 65 ⟨"EvenSteps", "ring", "(II)I"⟩ prog_1_method_5_code 3 (some .int) := ⟨⟨p_X11_ring, rfl⟩, wd_446, wd_63, ⟨by decide, by decide⟩, by decide⟩
set_option maxRecDepth 100000 in
set_option maxHeartbeats 4000000 in
theorem lk_441 : en_LV "EvenStepsLaw" 27 2 [(10, 65)] := (List.forall_mem_cons.mpr ⟨⟨"EvenSteps", en_T10, 11, ⟨"EvenSteps", "ring", "(II)I"⟩, ⟨"EvenSteps", "ring", "(II)I"⟩, prog_1_method_5_code, 3, (some .int), "EvenSteps", rfl, me_65, np_12, wd_443, wd_445, wd_444, Or.inl ⟨rfl, rfl⟩⟩, (fun _ h => absurd h List.not_mem_nil)⟩)
set_option maxRecDepth 100000 in
set_option maxHeartbeats 4000000 in
theorem me_156 : en_ME 156 ⟨"EvenStepsModel", "ring", "(II)I"⟩ prog_14_method_27_code 3 (some .int) := ⟨⟨p_X12_ring, rfl⟩, wd_1146, wd_68, ⟨by decide, by decide⟩, by decide⟩
set_option maxRecDepth 100000 in
set_option maxHeartbeats 4000000 in
theorem lk_442 : en_LV "EvenStepsLaw" 31 2 [(11, 156)] := (List.forall_mem_cons.mpr ⟨⟨"EvenStepsModel", en_T11, 33, ⟨"EvenStepsModel", "ring", "(II)I"⟩, ⟨"EvenStepsModel", "ring", "(II)I"⟩, prog_14_method_27_code, 3, (some .int), "EvenStepsModel", rfl, me_156, np_12, wd_1143, wd_1145, wd_1144, Or.inl ⟨rfl, rfl⟩⟩, (fun _ h => absurd h List.not_mem_nil)⟩)
set_option maxRecDepth 100000 in
set_option maxHeartbeats 4000000 in
theorem me_66 : en_ME 66 ⟨"EvenSteps", "cut", "(IIIII)I"⟩ prog_1_method_6_code 7 (some .int) := ⟨⟨p_X11_cut, rfl⟩, wd_466, wd_63, ⟨by decide, by decide⟩, by decide⟩
set_option maxRecDepth 100000 in
set_option maxHeartbeats 4000000 in
theorem lk_443 : en_LV "EvenStepsLaw" 32 5 [(10, 66)] := (List.forall_mem_cons.mpr ⟨⟨"EvenSteps", en_T10, 11, ⟨"EvenSteps", "cut", "(IIIII)I"⟩, ⟨"EvenSteps", "cut", "(IIIII)I"⟩, prog_1_method_6_code, 7, (some .int), "EvenSteps", rfl, me_66, np_46, wd_463, wd_465, wd_464, Or.inl ⟨rfl, rfl⟩⟩, (fun _ h => absurd h List.not_mem_nil)⟩)
set_option maxRecDepth 100000 in
set_option maxHeartbeats 4000000 in
theorem me_157 : en_ME 157 ⟨"EvenStepsModel", "cut", "(IIIII)I"⟩ prog_14_method_28_code 11 (some .int) := ⟨⟨p_X12_cut, rfl⟩, wd_1150, wd_68, ⟨by decide, by decide⟩, by decide⟩
set_option maxRecDepth 100000 in
set_option maxHeartbeats 4000000 in
theorem lk_444 : en_LV "EvenStepsLaw" 36 5 [(11, 157)] := (List.forall_mem_cons.mpr ⟨⟨"EvenStepsModel", en_T11, 33, ⟨"EvenStepsModel", "cut", "(IIIII)I"⟩, ⟨"EvenStepsModel", "cut", "(IIIII)I"⟩, prog_14_method_28_code, 11, (some .int), "EvenStepsModel", rfl, me_157, np_46, wd_1147, wd_1149, wd_1148, Or.inl ⟨rfl, rfl⟩⟩, (fun _ h => absurd h List.not_mem_nil)⟩)
set_option maxRecDepth 100000 in
set_option maxHeartbeats 4000000 in
theorem me_67 : en_ME 67 ⟨"EvenSteps", "points", "(I)I"⟩ prog_1_method_7_code 3 (some .int) := ⟨⟨p_X11_points, rfl⟩, wd_513, wd_63, ⟨by decide, by decide⟩, by decide⟩
set_option maxRecDepth 100000 in
set_option maxHeartbeats 4000000 in
theorem lk_445 : en_LV "EvenStepsLaw" 37 1 [(10, 67)] := (List.forall_mem_cons.mpr ⟨⟨"EvenSteps", en_T10, 11, ⟨"EvenSteps", "points", "(I)I"⟩, ⟨"EvenSteps", "points", "(I)I"⟩, prog_1_method_7_code, 3, (some .int), "EvenSteps", rfl, me_67, np_8, wd_510, wd_512, wd_511, Or.inl ⟨rfl, rfl⟩⟩, (fun _ h => absurd h List.not_mem_nil)⟩)
set_option maxRecDepth 100000 in
set_option maxHeartbeats 4000000 in
theorem me_158 : en_ME 158 ⟨"EvenStepsModel", "points", "(I)I"⟩ prog_14_method_29_code 2 (some .int) := ⟨⟨p_X12_points, rfl⟩, wd_1158, wd_68, ⟨by decide, by decide⟩, by decide⟩
set_option maxRecDepth 100000 in
set_option maxHeartbeats 4000000 in
theorem lk_446 : en_LV "EvenStepsLaw" 41 1 [(11, 158)] := (List.forall_mem_cons.mpr ⟨⟨"EvenStepsModel", en_T11, 33, ⟨"EvenStepsModel", "points", "(I)I"⟩, ⟨"EvenStepsModel", "points", "(I)I"⟩, prog_14_method_29_code, 2, (some .int), "EvenStepsModel", rfl, me_158, np_8, wd_1155, wd_1157, wd_1156, Or.inl ⟨rfl, rfl⟩⟩, (fun _ h => absurd h List.not_mem_nil)⟩)
set_option maxRecDepth 100000 in
set_option maxHeartbeats 4000000 in
theorem me_68 : en_ME 68 ⟨"EvenSteps", "drop", "(I)I"⟩ prog_1_method_8_code 2 (some .int) := ⟨⟨p_X11_drop, rfl⟩, wd_530, wd_63, ⟨by decide, by decide⟩, by decide⟩
set_option maxRecDepth 100000 in
set_option maxHeartbeats 4000000 in
theorem lk_447 : en_LV "EvenStepsLaw" 42 1 [(10, 68)] := (List.forall_mem_cons.mpr ⟨⟨"EvenSteps", en_T10, 11, ⟨"EvenSteps", "drop", "(I)I"⟩, ⟨"EvenSteps", "drop", "(I)I"⟩, prog_1_method_8_code, 2, (some .int), "EvenSteps", rfl, me_68, np_8, wd_527, wd_529, wd_528, Or.inl ⟨rfl, rfl⟩⟩, (fun _ h => absurd h List.not_mem_nil)⟩)
set_option maxRecDepth 100000 in
set_option maxHeartbeats 4000000 in
theorem me_159 : en_ME 159 ⟨"EvenStepsModel", "drop", "(I)I"⟩ prog_14_method_30_code 3 (some .int) := ⟨⟨p_X12_drop, rfl⟩, wd_1162, wd_68, ⟨by decide, by decide⟩, by decide⟩
set_option maxRecDepth 100000 in
set_option maxHeartbeats 4000000 in
theorem lk_448 : en_LV "EvenStepsLaw" 45 1 [(11, 159)] := (List.forall_mem_cons.mpr ⟨⟨"EvenStepsModel", en_T11, 33, ⟨"EvenStepsModel", "drop", "(I)I"⟩, ⟨"EvenStepsModel", "drop", "(I)I"⟩, prog_14_method_30_code, 3, (some .int), "EvenStepsModel", rfl, me_159, np_8, wd_1159, wd_1161, wd_1160, Or.inl ⟨rfl, rfl⟩⟩, (fun _ h => absurd h List.not_mem_nil)⟩)
set_option maxRecDepth 100000 in
set_option maxHeartbeats 4000000 in
theorem me_72 : en_ME 72 ⟨"EvenSteps", "count", "(I)I"⟩ prog_1_method_12_code 2 (some .int) := ⟨⟨p_X11_count, rfl⟩, wd_546, wd_63, ⟨by decide, by decide⟩, by decide⟩
set_option maxRecDepth 100000 in
set_option maxHeartbeats 4000000 in
theorem lk_449 : en_LV "EvenStepsLaw" 46 1 [(10, 72)] := (List.forall_mem_cons.mpr ⟨⟨"EvenSteps", en_T10, 11, ⟨"EvenSteps", "count", "(I)I"⟩, ⟨"EvenSteps", "count", "(I)I"⟩, prog_1_method_12_code, 2, (some .int), "EvenSteps", rfl, me_72, np_8, wd_543, wd_545, wd_544, Or.inl ⟨rfl, rfl⟩⟩, (fun _ h => absurd h List.not_mem_nil)⟩)
set_option maxRecDepth 100000 in
set_option maxHeartbeats 4000000 in
theorem me_160 : en_ME 160 ⟨"EvenStepsModel", "count", "(I)I"⟩ prog_14_method_31_code 2 (some .int) := ⟨⟨p_X12_count, rfl⟩, wd_1166, wd_68, ⟨by decide, by decide⟩, by decide⟩
set_option maxRecDepth 100000 in
set_option maxHeartbeats 4000000 in
theorem lk_450 : en_LV "EvenStepsLaw" 49 1 [(11, 160)] := (List.forall_mem_cons.mpr ⟨⟨"EvenStepsModel", en_T11, 33, ⟨"EvenStepsModel", "count", "(I)I"⟩, ⟨"EvenStepsModel", "count", "(I)I"⟩, prog_14_method_31_code, 2, (some .int), "EvenStepsModel", rfl, me_160, np_8, wd_1163, wd_1165, wd_1164, Or.inl ⟨rfl, rfl⟩⟩, (fun _ h => absurd h List.not_mem_nil)⟩)
set_option maxRecDepth 100000 in
set_option maxHeartbeats 4000000 in
theorem me_73 : en_ME 73 ⟨"EvenSteps", "whole", "(II)I"⟩ prog_1_method_13_code 4 (some .int) := ⟨⟨p_X11_whole, rfl⟩, wd_550, wd_63, ⟨by decide, by decide⟩, by decide⟩
set_option maxRecDepth 100000 in
set_option maxHeartbeats 4000000 in
theorem lk_451 : en_LV "EvenStepsLaw" 50 2 [(10, 73)] := (List.forall_mem_cons.mpr ⟨⟨"EvenSteps", en_T10, 11, ⟨"EvenSteps", "whole", "(II)I"⟩, ⟨"EvenSteps", "whole", "(II)I"⟩, prog_1_method_13_code, 4, (some .int), "EvenSteps", rfl, me_73, np_12, wd_547, wd_549, wd_548, Or.inl ⟨rfl, rfl⟩⟩, (fun _ h => absurd h List.not_mem_nil)⟩)
set_option maxRecDepth 100000 in
set_option maxHeartbeats 4000000 in
theorem me_140 : en_ME 140 ⟨"EvenStepsModel", "whole", "(II)I"⟩ prog_14_method_11_code 3 (some .int) := ⟨⟨p_X12_whole, rfl⟩, wd_1071, wd_68, ⟨by decide, by decide⟩, by decide⟩
set_option maxRecDepth 100000 in
set_option maxHeartbeats 4000000 in
theorem lk_452 : en_LV "EvenStepsLaw" 53 2 [(11, 140)] := (List.forall_mem_cons.mpr ⟨⟨"EvenStepsModel", en_T11, 33, ⟨"EvenStepsModel", "whole", "(II)I"⟩, ⟨"EvenStepsModel", "whole", "(II)I"⟩, prog_14_method_11_code, 3, (some .int), "EvenStepsModel", rfl, me_140, np_12, wd_1068, wd_1070, wd_1069, Or.inl ⟨rfl, rfl⟩⟩, (fun _ h => absurd h List.not_mem_nil)⟩)
set_option maxRecDepth 100000 in
set_option maxHeartbeats 4000000 in
theorem me_74 : en_ME 74 ⟨"EvenSteps", "against", "(III)I"⟩ prog_1_method_14_code 5 (some .int) := ⟨⟨p_X11_against, rfl⟩, wd_556, wd_63, ⟨by decide, by decide⟩, by decide⟩
set_option maxRecDepth 100000 in
set_option maxHeartbeats 4000000 in
theorem lk_453 : en_LV "EvenStepsLaw" 54 3 [(10, 74)] := (List.forall_mem_cons.mpr ⟨⟨"EvenSteps", en_T10, 11, ⟨"EvenSteps", "against", "(III)I"⟩, ⟨"EvenSteps", "against", "(III)I"⟩, prog_1_method_14_code, 5, (some .int), "EvenSteps", rfl, me_74, np_5, wd_553, wd_555, wd_554, Or.inl ⟨rfl, rfl⟩⟩, (fun _ h => absurd h List.not_mem_nil)⟩)
set_option maxRecDepth 100000 in
set_option maxHeartbeats 4000000 in
theorem me_141 : en_ME 141 ⟨"EvenStepsModel", "against", "(III)I"⟩ prog_14_method_12_code 4 (some .int) := ⟨⟨p_X12_against, rfl⟩, wd_1088, wd_68, ⟨by decide, by decide⟩, by decide⟩
set_option maxRecDepth 100000 in
set_option maxHeartbeats 4000000 in
theorem lk_454 : en_LV "EvenStepsLaw" 57 3 [(11, 141)] := (List.forall_mem_cons.mpr ⟨⟨"EvenStepsModel", en_T11, 33, ⟨"EvenStepsModel", "against", "(III)I"⟩, ⟨"EvenStepsModel", "against", "(III)I"⟩, prog_14_method_12_code, 4, (some .int), "EvenStepsModel", rfl, me_141, np_5, wd_1085, wd_1087, wd_1086, Or.inl ⟨rfl, rfl⟩⟩, (fun _ h => absurd h List.not_mem_nil)⟩)
set_option maxRecDepth 100000 in
set_option maxHeartbeats 4000000 in
theorem me_75 : en_ME 75 ⟨"EvenSteps", "quotient", "(II)I"⟩ prog_1_method_15_code 4 (some .int) := ⟨⟨p_X11_quotient, rfl⟩, wd_567, wd_63, ⟨by decide, by decide⟩, by decide⟩
set_option maxRecDepth 100000 in
set_option maxHeartbeats 4000000 in
theorem lk_455 : en_LV "EvenStepsLaw" 58 2 [(10, 75)] := (List.forall_mem_cons.mpr ⟨⟨"EvenSteps", en_T10, 11, ⟨"EvenSteps", "quotient", "(II)I"⟩, ⟨"EvenSteps", "quotient", "(II)I"⟩, prog_1_method_15_code, 4, (some .int), "EvenSteps", rfl, me_75, np_12, wd_564, wd_566, wd_565, Or.inl ⟨rfl, rfl⟩⟩, (fun _ h => absurd h List.not_mem_nil)⟩)
set_option maxRecDepth 100000 in
set_option maxHeartbeats 4000000 in
theorem me_145 : en_ME 145 ⟨"EvenStepsModel", "quotient", "(II)I"⟩ prog_14_method_16_code 3 (some .int) := ⟨⟨p_X12_quotient, rfl⟩, wd_1094, wd_68, ⟨by decide, by decide⟩, by decide⟩
set_option maxRecDepth 100000 in
set_option maxHeartbeats 4000000 in
theorem lk_456 : en_LV "EvenStepsLaw" 61 2 [(11, 145)] := (List.forall_mem_cons.mpr ⟨⟨"EvenStepsModel", en_T11, 33, ⟨"EvenStepsModel", "quotient", "(II)I"⟩, ⟨"EvenStepsModel", "quotient", "(II)I"⟩, prog_14_method_16_code, 3, (some .int), "EvenStepsModel", rfl, me_145, np_12, wd_1091, wd_1093, wd_1092, Or.inl ⟨rfl, rfl⟩⟩, (fun _ h => absurd h List.not_mem_nil)⟩)
set_option maxRecDepth 100000 in
set_option maxHeartbeats 4000000 in
theorem me_76 : en_ME 76 ⟨"EvenSteps", "nearer", "(II)I"⟩ prog_1_method_16_code 4 (some .int) := ⟨⟨p_X11_nearer, rfl⟩, wd_571, wd_63, ⟨by decide, by decide⟩, by decide⟩
set_option maxRecDepth 100000 in
set_option maxHeartbeats 4000000 in
theorem lk_457 : en_LV "EvenStepsLaw" 62 2 [(10, 76)] := (List.forall_mem_cons.mpr ⟨⟨"EvenSteps", en_T10, 11, ⟨"EvenSteps", "nearer", "(II)I"⟩, ⟨"EvenSteps", "nearer", "(II)I"⟩, prog_1_method_16_code, 4, (some .int), "EvenSteps", rfl, me_76, np_12, wd_568, wd_570, wd_569, Or.inl ⟨rfl, rfl⟩⟩, (fun _ h => absurd h List.not_mem_nil)⟩)
set_option maxRecDepth 100000 in
set_option maxHeartbeats 4000000 in
theorem me_150 : en_ME 150 ⟨"EvenStepsModel", "nearer", "(II)I"⟩ prog_14_method_21_code 3 (some .int) := ⟨⟨p_X12_nearer, rfl⟩, wd_1122, wd_68, ⟨by decide, by decide⟩, by decide⟩
set_option maxRecDepth 100000 in
set_option maxHeartbeats 4000000 in
theorem lk_458 : en_LV "EvenStepsLaw" 65 2 [(11, 150)] := (List.forall_mem_cons.mpr ⟨⟨"EvenStepsModel", en_T11, 33, ⟨"EvenStepsModel", "nearer", "(II)I"⟩, ⟨"EvenStepsModel", "nearer", "(II)I"⟩, prog_14_method_21_code, 3, (some .int), "EvenStepsModel", rfl, me_150, np_12, wd_1119, wd_1121, wd_1120, Or.inl ⟨rfl, rfl⟩⟩, (fun _ h => absurd h List.not_mem_nil)⟩)
set_option maxRecDepth 100000 in
set_option maxHeartbeats 4000000 in
theorem me_77 : en_ME 77 ⟨"EvenSteps", "within", "(IIII)I"⟩ prog_1_method_17_code 9 (some .int) := ⟨⟨p_X11_within, rfl⟩, wd_578, wd_63, ⟨by decide, by decide⟩, by decide⟩
set_option maxRecDepth 100000 in
set_option maxHeartbeats 4000000 in
theorem lk_459 : en_LV "EvenStepsLaw" 66 4 [(10, 77)] := (List.forall_mem_cons.mpr ⟨⟨"EvenSteps", en_T10, 11, ⟨"EvenSteps", "within", "(IIII)I"⟩, ⟨"EvenSteps", "within", "(IIII)I"⟩, prog_1_method_17_code, 9, (some .int), "EvenSteps", rfl, me_77, np_47, wd_575, wd_577, wd_576, Or.inl ⟨rfl, rfl⟩⟩, (fun _ h => absurd h List.not_mem_nil)⟩)
set_option maxRecDepth 100000 in
set_option maxHeartbeats 4000000 in
theorem me_151 : en_ME 151 ⟨"EvenStepsModel", "within", "(IIII)I"⟩ prog_14_method_22_code 8 (some .int) := ⟨⟨p_X12_within, rfl⟩, wd_1130, wd_68, ⟨by decide, by decide⟩, by decide⟩
set_option maxRecDepth 100000 in
set_option maxHeartbeats 4000000 in
theorem lk_460 : en_LV "EvenStepsLaw" 69 4 [(11, 151)] := (List.forall_mem_cons.mpr ⟨⟨"EvenStepsModel", en_T11, 33, ⟨"EvenStepsModel", "within", "(IIII)I"⟩, ⟨"EvenStepsModel", "within", "(IIII)I"⟩, prog_14_method_22_code, 8, (some .int), "EvenStepsModel", rfl, me_151, np_47, wd_1127, wd_1129, wd_1128, Or.inl ⟨rfl, rfl⟩⟩, (fun _ h => absurd h List.not_mem_nil)⟩)
set_option maxRecDepth 100000 in
set_option maxHeartbeats 4000000 in
theorem me_78 : en_ME 78 ⟨"EvenSteps", "digit", "(III)I"⟩ prog_1_method_18_code 7 (some .int) := ⟨⟨p_X11_digit, rfl⟩, wd_585, wd_63, ⟨by decide, by decide⟩, by decide⟩
set_option maxRecDepth 100000 in
set_option maxHeartbeats 4000000 in
theorem lk_461 : en_LV "EvenStepsLaw" 70 3 [(10, 78)] := (List.forall_mem_cons.mpr ⟨⟨"EvenSteps", en_T10, 11, ⟨"EvenSteps", "digit", "(III)I"⟩, ⟨"EvenSteps", "digit", "(III)I"⟩, prog_1_method_18_code, 7, (some .int), "EvenSteps", rfl, me_78, np_5, wd_582, wd_584, wd_583, Or.inl ⟨rfl, rfl⟩⟩, (fun _ h => absurd h List.not_mem_nil)⟩)
set_option maxRecDepth 100000 in
set_option maxHeartbeats 4000000 in
theorem me_148 : en_ME 148 ⟨"EvenStepsModel", "digit", "(III)I"⟩ prog_14_method_19_code 7 (some .int) := ⟨⟨p_X12_digit, rfl⟩, wd_1118, wd_68, ⟨by decide, by decide⟩, by decide⟩
set_option maxRecDepth 100000 in
set_option maxHeartbeats 4000000 in
theorem lk_462 : en_LV "EvenStepsLaw" 73 3 [(11, 148)] := (List.forall_mem_cons.mpr ⟨⟨"EvenStepsModel", en_T11, 33, ⟨"EvenStepsModel", "digit", "(III)I"⟩, ⟨"EvenStepsModel", "digit", "(III)I"⟩, prog_14_method_19_code, 7, (some .int), "EvenStepsModel", rfl, me_148, np_5, wd_1115, wd_1117, wd_1116, Or.inl ⟨rfl, rfl⟩⟩, (fun _ h => absurd h List.not_mem_nil)⟩)
set_option maxRecDepth 100000 in
set_option maxHeartbeats 4000000 in
theorem me_79 : en_ME 79 ⟨"EvenSteps", "line", "(II)I"⟩ prog_1_method_19_code 3 (some .int) := ⟨⟨p_X11_line, rfl⟩, wd_595, wd_63, ⟨by decide, by decide⟩, by decide⟩
set_option maxRecDepth 100000 in
set_option maxHeartbeats 4000000 in
theorem lk_463 : en_LV "EvenStepsLaw" 74 2 [(10, 79)] := (List.forall_mem_cons.mpr ⟨⟨"EvenSteps", en_T10, 11, ⟨"EvenSteps", "line", "(II)I"⟩, ⟨"EvenSteps", "line", "(II)I"⟩, prog_1_method_19_code, 3, (some .int), "EvenSteps", rfl, me_79, np_12, wd_592, wd_594, wd_593, Or.inl ⟨rfl, rfl⟩⟩, (fun _ h => absurd h List.not_mem_nil)⟩)
set_option maxRecDepth 100000 in
set_option maxHeartbeats 4000000 in
theorem me_147 : en_ME 147 ⟨"EvenStepsModel", "line", "(II)I"⟩ prog_14_method_18_code 3 (some .int) := ⟨⟨p_X12_line, rfl⟩, wd_1109, wd_68, ⟨by decide, by decide⟩, by decide⟩
set_option maxRecDepth 100000 in
set_option maxHeartbeats 4000000 in
theorem lk_464 : en_LV "EvenStepsLaw" 77 2 [(11, 147)] := (List.forall_mem_cons.mpr ⟨⟨"EvenStepsModel", en_T11, 33, ⟨"EvenStepsModel", "line", "(II)I"⟩, ⟨"EvenStepsModel", "line", "(II)I"⟩, prog_14_method_18_code, 3, (some .int), "EvenStepsModel", rfl, me_147, np_12, wd_1106, wd_1108, wd_1107, Or.inl ⟨rfl, rfl⟩⟩, (fun _ h => absurd h List.not_mem_nil)⟩)
set_option maxRecDepth 100000 in
set_option maxHeartbeats 4000000 in
theorem me_84 : en_ME 84 ⟨"EvenSteps", "kind", "(I)I"⟩ prog_1_method_24_code 3 (some .int) := ⟨⟨p_X11_kind, rfl⟩, wd_614, wd_63, ⟨by decide, by decide⟩, by decide⟩
set_option maxRecDepth 100000 in
set_option maxHeartbeats 4000000 in
theorem lk_465 : en_LV "EvenStepsLaw" 78 1 [(10, 84)] := (List.forall_mem_cons.mpr ⟨⟨"EvenSteps", en_T10, 11, ⟨"EvenSteps", "kind", "(I)I"⟩, ⟨"EvenSteps", "kind", "(I)I"⟩, prog_1_method_24_code, 3, (some .int), "EvenSteps", rfl, me_84, np_8, wd_611, wd_613, wd_612, Or.inl ⟨rfl, rfl⟩⟩, (fun _ h => absurd h List.not_mem_nil)⟩)
set_option maxRecDepth 100000 in
set_option maxHeartbeats 4000000 in
theorem me_161 : en_ME 161 ⟨"EvenStepsModel", "kind", "(I)I"⟩ prog_14_method_32_code 2 (some .int) := ⟨⟨p_X12_kind, rfl⟩, wd_1170, wd_68, ⟨by decide, by decide⟩, by decide⟩
set_option maxRecDepth 100000 in
set_option maxHeartbeats 4000000 in
theorem lk_466 : en_LV "EvenStepsLaw" 81 1 [(11, 161)] := (List.forall_mem_cons.mpr ⟨⟨"EvenStepsModel", en_T11, 33, ⟨"EvenStepsModel", "kind", "(I)I"⟩, ⟨"EvenStepsModel", "kind", "(I)I"⟩, prog_14_method_32_code, 2, (some .int), "EvenStepsModel", rfl, me_161, np_8, wd_1167, wd_1169, wd_1168, Or.inl ⟨rfl, rfl⟩⟩, (fun _ h => absurd h List.not_mem_nil)⟩)
set_option maxRecDepth 100000 in
set_option maxHeartbeats 4000000 in
theorem me_85 : en_ME 85 ⟨"EvenSteps", "step", "(II)I"⟩ prog_1_method_25_code 4 (some .int) := ⟨⟨p_X11_step, rfl⟩, wd_636, wd_63, ⟨by decide, by decide⟩, by decide⟩
set_option maxRecDepth 100000 in
set_option maxHeartbeats 4000000 in
theorem lk_467 : en_LV "EvenStepsLaw" 82 2 [(10, 85)] := (List.forall_mem_cons.mpr ⟨⟨"EvenSteps", en_T10, 11, ⟨"EvenSteps", "step", "(II)I"⟩, ⟨"EvenSteps", "step", "(II)I"⟩, prog_1_method_25_code, 4, (some .int), "EvenSteps", rfl, me_85, np_12, wd_633, wd_635, wd_634, Or.inl ⟨rfl, rfl⟩⟩, (fun _ h => absurd h List.not_mem_nil)⟩)
set_option maxRecDepth 100000 in
set_option maxHeartbeats 4000000 in
theorem me_162 : en_ME 162 ⟨"EvenStepsModel", "step", "(II)I"⟩ prog_14_method_33_code 3 (some .int) := ⟨⟨p_X12_step, rfl⟩, wd_1174, wd_68, ⟨by decide, by decide⟩, by decide⟩
set_option maxRecDepth 100000 in
set_option maxHeartbeats 4000000 in
theorem lk_468 : en_LV "EvenStepsLaw" 85 2 [(11, 162)] := (List.forall_mem_cons.mpr ⟨⟨"EvenStepsModel", en_T11, 33, ⟨"EvenStepsModel", "step", "(II)I"⟩, ⟨"EvenStepsModel", "step", "(II)I"⟩, prog_14_method_33_code, 3, (some .int), "EvenStepsModel", rfl, me_162, np_12, wd_1171, wd_1173, wd_1172, Or.inl ⟨rfl, rfl⟩⟩, (fun _ h => absurd h List.not_mem_nil)⟩)
set_option maxRecDepth 100000 in
set_option maxHeartbeats 4000000 in
theorem me_86 : en_ME 86 ⟨"EvenSteps", "sum", "(II)I"⟩ prog_1_method_26_code 4 (some .int) := ⟨⟨p_X11_sum, rfl⟩, wd_640, wd_63, ⟨by decide, by decide⟩, by decide⟩
set_option maxRecDepth 100000 in
set_option maxHeartbeats 4000000 in
theorem lk_469 : en_LV "EvenStepsLaw" 86 2 [(10, 86)] := (List.forall_mem_cons.mpr ⟨⟨"EvenSteps", en_T10, 11, ⟨"EvenSteps", "sum", "(II)I"⟩, ⟨"EvenSteps", "sum", "(II)I"⟩, prog_1_method_26_code, 4, (some .int), "EvenSteps", rfl, me_86, np_12, wd_637, wd_639, wd_638, Or.inl ⟨rfl, rfl⟩⟩, (fun _ h => absurd h List.not_mem_nil)⟩)
set_option maxRecDepth 100000 in
set_option maxHeartbeats 4000000 in
theorem me_163 : en_ME 163 ⟨"EvenStepsModel", "sum", "(II)I"⟩ prog_14_method_34_code 5 (some .int) := ⟨⟨p_X12_sum, rfl⟩, wd_1178, wd_68, ⟨by decide, by decide⟩, by decide⟩
set_option maxRecDepth 100000 in
set_option maxHeartbeats 4000000 in
theorem lk_470 : en_LV "EvenStepsLaw" 89 2 [(11, 163)] := (List.forall_mem_cons.mpr ⟨⟨"EvenStepsModel", en_T11, 33, ⟨"EvenStepsModel", "sum", "(II)I"⟩, ⟨"EvenStepsModel", "sum", "(II)I"⟩, prog_14_method_34_code, 5, (some .int), "EvenStepsModel", rfl, me_163, np_12, wd_1175, wd_1177, wd_1176, Or.inl ⟨rfl, rfl⟩⟩, (fun _ h => absurd h List.not_mem_nil)⟩)
set_option maxRecDepth 100000 in
set_option maxHeartbeats 4000000 in
theorem me_87 : en_ME 87 ⟨"EvenSteps", "isEven", "(III)I"⟩ prog_1_method_27_code 4 (some .int) := ⟨⟨p_X11_isEven, rfl⟩, wd_664, wd_63, ⟨by decide, by decide⟩, by decide⟩
set_option maxRecDepth 100000 in
set_option maxHeartbeats 4000000 in
theorem lk_471 : en_LV "EvenStepsLaw" 90 3 [(10, 87)] := (List.forall_mem_cons.mpr ⟨⟨"EvenSteps", en_T10, 11, ⟨"EvenSteps", "isEven", "(III)I"⟩, ⟨"EvenSteps", "isEven", "(III)I"⟩, prog_1_method_27_code, 4, (some .int), "EvenSteps", rfl, me_87, np_5, wd_661, wd_663, wd_662, Or.inl ⟨rfl, rfl⟩⟩, (fun _ h => absurd h List.not_mem_nil)⟩)
set_option maxRecDepth 100000 in
set_option maxHeartbeats 4000000 in
theorem me_167 : en_ME 167 ⟨"EvenStepsModel", "isEven", "(III)I"⟩ prog_14_method_38_code 4 (some .int) := ⟨⟨p_X12_isEven, rfl⟩, wd_1182, wd_68, ⟨by decide, by decide⟩, by decide⟩
set_option maxRecDepth 100000 in
set_option maxHeartbeats 4000000 in
theorem lk_472 : en_LV "EvenStepsLaw" 93 3 [(11, 167)] := (List.forall_mem_cons.mpr ⟨⟨"EvenStepsModel", en_T11, 33, ⟨"EvenStepsModel", "isEven", "(III)I"⟩, ⟨"EvenStepsModel", "isEven", "(III)I"⟩, prog_14_method_38_code, 4, (some .int), "EvenStepsModel", rfl, me_167, np_5, wd_1179, wd_1181, wd_1180, Or.inl ⟨rfl, rfl⟩⟩, (fun _ h => absurd h List.not_mem_nil)⟩)
set_option maxRecDepth 100000 in
set_option maxHeartbeats 4000000 in
theorem me_88 : en_ME 88 ⟨"EvenSteps", "clash", "(IIII)I"⟩ prog_1_method_28_code 5 (some .int) := ⟨⟨p_X11_clash, rfl⟩, wd_696, wd_63, ⟨by decide, by decide⟩, by decide⟩
set_option maxRecDepth 100000 in
set_option maxHeartbeats 4000000 in
theorem lk_473 : en_LV "EvenStepsLaw" 94 4 [(10, 88)] := (List.forall_mem_cons.mpr ⟨⟨"EvenSteps", en_T10, 11, ⟨"EvenSteps", "clash", "(IIII)I"⟩, ⟨"EvenSteps", "clash", "(IIII)I"⟩, prog_1_method_28_code, 5, (some .int), "EvenSteps", rfl, me_88, np_47, wd_693, wd_695, wd_694, Or.inl ⟨rfl, rfl⟩⟩, (fun _ h => absurd h List.not_mem_nil)⟩)
set_option maxRecDepth 100000 in
set_option maxHeartbeats 4000000 in
theorem me_168 : en_ME 168 ⟨"EvenStepsModel", "clash", "(IIII)I"⟩ prog_14_method_39_code 6 (some .int) := ⟨⟨p_X12_clash, rfl⟩, wd_1198, wd_68, ⟨by decide, by decide⟩, by decide⟩
set_option maxRecDepth 100000 in
set_option maxHeartbeats 4000000 in
theorem lk_474 : en_LV "EvenStepsLaw" 97 4 [(11, 168)] := (List.forall_mem_cons.mpr ⟨⟨"EvenStepsModel", en_T11, 33, ⟨"EvenStepsModel", "clash", "(IIII)I"⟩, ⟨"EvenStepsModel", "clash", "(IIII)I"⟩, prog_14_method_39_code, 6, (some .int), "EvenStepsModel", rfl, me_168, np_47, wd_1195, wd_1197, wd_1196, Or.inl ⟨rfl, rfl⟩⟩, (fun _ h => absurd h List.not_mem_nil)⟩)
set_option maxRecDepth 100000 in
set_option maxHeartbeats 4000000 in
theorem me_89 : en_ME 89 ⟨"EvenSteps", "range", "(IIII)I"⟩ prog_1_method_29_code 9 (some .int) := ⟨⟨p_X11_range, rfl⟩, wd_700, wd_63, ⟨by decide, by decide⟩, by decide⟩
set_option maxRecDepth 100000 in
set_option maxHeartbeats 4000000 in
theorem lk_475 : en_LV "EvenStepsLaw" 98 4 [(10, 89)] := (List.forall_mem_cons.mpr ⟨⟨"EvenSteps", en_T10, 11, ⟨"EvenSteps", "range", "(IIII)I"⟩, ⟨"EvenSteps", "range", "(IIII)I"⟩, prog_1_method_29_code, 9, (some .int), "EvenSteps", rfl, me_89, np_47, wd_697, wd_699, wd_698, Or.inl ⟨rfl, rfl⟩⟩, (fun _ h => absurd h List.not_mem_nil)⟩)
set_option maxRecDepth 100000 in
set_option maxHeartbeats 4000000 in
theorem me_169 : en_ME 169 ⟨"EvenStepsModel", "range", "(IIII)I"⟩ prog_14_method_40_code 13 (some .int) := ⟨⟨p_X12_range, rfl⟩, wd_1202, wd_68, ⟨by decide, by decide⟩, by decide⟩
set_option maxRecDepth 100000 in
set_option maxHeartbeats 4000000 in
theorem lk_476 : en_LV "EvenStepsLaw" 101 4 [(11, 169)] := (List.forall_mem_cons.mpr ⟨⟨"EvenStepsModel", en_T11, 33, ⟨"EvenStepsModel", "range", "(IIII)I"⟩, ⟨"EvenStepsModel", "range", "(IIII)I"⟩, prog_14_method_40_code, 13, (some .int), "EvenStepsModel", rfl, me_169, np_47, wd_1199, wd_1201, wd_1200, Or.inl ⟨rfl, rfl⟩⟩, (fun _ h => absurd h List.not_mem_nil)⟩)
set_option maxRecDepth 100000 in
set_option maxHeartbeats 4000000 in
theorem me_90 : en_ME 90 ⟨"EvenSteps", "parts", "(III)I"⟩ prog_1_method_30_code 8 (some .int) := ⟨⟨p_X11_parts, rfl⟩, wd_709, wd_63, ⟨by decide, by decide⟩, by decide⟩
set_option maxRecDepth 100000 in
set_option maxHeartbeats 4000000 in
theorem lk_477 : en_LV "EvenStepsLaw" 102 3 [(10, 90)] := (List.forall_mem_cons.mpr ⟨⟨"EvenSteps", en_T10, 11, ⟨"EvenSteps", "parts", "(III)I"⟩, ⟨"EvenSteps", "parts", "(III)I"⟩, prog_1_method_30_code, 8, (some .int), "EvenSteps", rfl, me_90, np_5, wd_706, wd_708, wd_707, Or.inl ⟨rfl, rfl⟩⟩, (fun _ h => absurd h List.not_mem_nil)⟩)
set_option maxRecDepth 100000 in
set_option maxHeartbeats 4000000 in
theorem me_172 : en_ME 172 ⟨"EvenStepsModel", "parts", "(III)I"⟩ prog_14_method_43_code 8 (some .int) := ⟨⟨p_X12_parts, rfl⟩, wd_1206, wd_68, ⟨by decide, by decide⟩, by decide⟩
set_option maxRecDepth 100000 in
set_option maxHeartbeats 4000000 in
theorem lk_478 : en_LV "EvenStepsLaw" 105 3 [(11, 172)] := (List.forall_mem_cons.mpr ⟨⟨"EvenStepsModel", en_T11, 33, ⟨"EvenStepsModel", "parts", "(III)I"⟩, ⟨"EvenStepsModel", "parts", "(III)I"⟩, prog_14_method_43_code, 8, (some .int), "EvenStepsModel", rfl, me_172, np_5, wd_1203, wd_1205, wd_1204, Or.inl ⟨rfl, rfl⟩⟩, (fun _ h => absurd h List.not_mem_nil)⟩)
set_option maxRecDepth 100000 in
set_option maxHeartbeats 4000000 in
theorem me_96 : en_ME 96 ⟨"EvenSteps", "gaps", "(II)I"⟩ prog_1_method_36_code 3 (some .int) := ⟨⟨p_X11_gaps, rfl⟩, wd_733, wd_63, ⟨by decide, by decide⟩, by decide⟩
set_option maxRecDepth 100000 in
set_option maxHeartbeats 4000000 in
theorem lk_479 : en_LV "EvenStepsLaw" 106 2 [(10, 96)] := (List.forall_mem_cons.mpr ⟨⟨"EvenSteps", en_T10, 11, ⟨"EvenSteps", "gaps", "(II)I"⟩, ⟨"EvenSteps", "gaps", "(II)I"⟩, prog_1_method_36_code, 3, (some .int), "EvenSteps", rfl, me_96, np_12, wd_730, wd_732, wd_731, Or.inl ⟨rfl, rfl⟩⟩, (fun _ h => absurd h List.not_mem_nil)⟩)
set_option maxRecDepth 100000 in
set_option maxHeartbeats 4000000 in
theorem me_178 : en_ME 178 ⟨"EvenStepsModel", "gaps", "(II)I"⟩ prog_14_method_49_code 3 (some .int) := ⟨⟨p_X12_gaps, rfl⟩, wd_1218, wd_68, ⟨by decide, by decide⟩, by decide⟩
set_option maxRecDepth 100000 in
set_option maxHeartbeats 4000000 in
theorem lk_480 : en_LV "EvenStepsLaw" 109 2 [(11, 178)] := (List.forall_mem_cons.mpr ⟨⟨"EvenStepsModel", en_T11, 33, ⟨"EvenStepsModel", "gaps", "(II)I"⟩, ⟨"EvenStepsModel", "gaps", "(II)I"⟩, prog_14_method_49_code, 3, (some .int), "EvenStepsModel", rfl, me_178, np_12, wd_1215, wd_1217, wd_1216, Or.inl ⟨rfl, rfl⟩⟩, (fun _ h => absurd h List.not_mem_nil)⟩)
set_option maxRecDepth 100000 in
set_option maxHeartbeats 4000000 in
theorem me_97 : en_ME 97 ⟨"EvenSteps", "gap", "(IIII)I"⟩ prog_1_method_37_code 5 (some .int) := ⟨⟨p_X11_gap, rfl⟩, wd_771, wd_63, ⟨by decide, by decide⟩, by decide⟩
set_option maxRecDepth 100000 in
set_option maxHeartbeats 4000000 in
theorem lk_481 : en_LV "EvenStepsLaw" 110 4 [(10, 97)] := (List.forall_mem_cons.mpr ⟨⟨"EvenSteps", en_T10, 11, ⟨"EvenSteps", "gap", "(IIII)I"⟩, ⟨"EvenSteps", "gap", "(IIII)I"⟩, prog_1_method_37_code, 5, (some .int), "EvenSteps", rfl, me_97, np_47, wd_768, wd_770, wd_769, Or.inl ⟨rfl, rfl⟩⟩, (fun _ h => absurd h List.not_mem_nil)⟩)
set_option maxRecDepth 100000 in
set_option maxHeartbeats 4000000 in
theorem me_179 : en_ME 179 ⟨"EvenStepsModel", "gap", "(IIII)I"⟩ prog_14_method_50_code 5 (some .int) := ⟨⟨p_X12_gap, rfl⟩, wd_1242, wd_68, ⟨by decide, by decide⟩, by decide⟩
set_option maxRecDepth 100000 in
set_option maxHeartbeats 4000000 in
theorem lk_482 : en_LV "EvenStepsLaw" 113 4 [(11, 179)] := (List.forall_mem_cons.mpr ⟨⟨"EvenStepsModel", en_T11, 33, ⟨"EvenStepsModel", "gap", "(IIII)I"⟩, ⟨"EvenStepsModel", "gap", "(IIII)I"⟩, prog_14_method_50_code, 5, (some .int), "EvenStepsModel", rfl, me_179, np_47, wd_1239, wd_1241, wd_1240, Or.inl ⟨rfl, rfl⟩⟩, (fun _ h => absurd h List.not_mem_nil)⟩)
set_option maxRecDepth 100000 in
set_option maxHeartbeats 4000000 in
theorem me_98 : en_ME 98 ⟨"EvenSteps", "follows", "(III)I"⟩ prog_1_method_38_code 4 (some .int) := ⟨⟨p_X11_follows, rfl⟩, wd_775, wd_63, ⟨by decide, by decide⟩, by decide⟩
set_option maxRecDepth 100000 in
set_option maxHeartbeats 4000000 in
theorem lk_483 : en_LV "EvenStepsLaw" 114 3 [(10, 98)] := (List.forall_mem_cons.mpr ⟨⟨"EvenSteps", en_T10, 11, ⟨"EvenSteps", "follows", "(III)I"⟩, ⟨"EvenSteps", "follows", "(III)I"⟩, prog_1_method_38_code, 4, (some .int), "EvenSteps", rfl, me_98, np_5, wd_772, wd_774, wd_773, Or.inl ⟨rfl, rfl⟩⟩, (fun _ h => absurd h List.not_mem_nil)⟩)
set_option maxRecDepth 100000 in
set_option maxHeartbeats 4000000 in
theorem me_180 : en_ME 180 ⟨"EvenStepsModel", "follows", "(III)I"⟩ prog_14_method_51_code 5 (some .int) := ⟨⟨p_X12_follows, rfl⟩, wd_1246, wd_68, ⟨by decide, by decide⟩, by decide⟩
set_option maxRecDepth 100000 in
set_option maxHeartbeats 4000000 in
theorem lk_484 : en_LV "EvenStepsLaw" 117 3 [(11, 180)] := (List.forall_mem_cons.mpr ⟨⟨"EvenStepsModel", en_T11, 33, ⟨"EvenStepsModel", "follows", "(III)I"⟩, ⟨"EvenStepsModel", "follows", "(III)I"⟩, prog_14_method_51_code, 5, (some .int), "EvenStepsModel", rfl, me_180, np_5, wd_1243, wd_1245, wd_1244, Or.inl ⟨rfl, rfl⟩⟩, (fun _ h => absurd h List.not_mem_nil)⟩)
set_option maxRecDepth 100000 in
set_option maxHeartbeats 4000000 in
theorem me_81 : en_ME 81 ⟨"EvenSteps", "share", "(II)I"⟩ prog_1_method_21_code 5 (some .int) := ⟨⟨p_X11_share, rfl⟩, wd_599, wd_63, ⟨by decide, by decide⟩, by decide⟩
set_option maxRecDepth 100000 in
set_option maxHeartbeats 4000000 in
theorem lk_485 : en_LV "EvenStepsLaw" 118 2 [(10, 81)] := (List.forall_mem_cons.mpr ⟨⟨"EvenSteps", en_T10, 11, ⟨"EvenSteps", "share", "(II)I"⟩, ⟨"EvenSteps", "share", "(II)I"⟩, prog_1_method_21_code, 5, (some .int), "EvenSteps", rfl, me_81, np_12, wd_596, wd_598, wd_597, Or.inl ⟨rfl, rfl⟩⟩, (fun _ h => absurd h List.not_mem_nil)⟩)
set_option maxRecDepth 100000 in
set_option maxHeartbeats 4000000 in
theorem me_182 : en_ME 182 ⟨"EvenStepsModel", "share", "(II)I"⟩ prog_14_method_53_code 7 (some .int) := ⟨⟨p_X12_share, rfl⟩, wd_1250, wd_68, ⟨by decide, by decide⟩, by decide⟩
set_option maxRecDepth 100000 in
set_option maxHeartbeats 4000000 in
theorem lk_486 : en_LV "EvenStepsLaw" 121 2 [(11, 182)] := (List.forall_mem_cons.mpr ⟨⟨"EvenStepsModel", en_T11, 33, ⟨"EvenStepsModel", "share", "(II)I"⟩, ⟨"EvenStepsModel", "share", "(II)I"⟩, prog_14_method_53_code, 7, (some .int), "EvenStepsModel", rfl, me_182, np_12, wd_1247, wd_1249, wd_1248, Or.inl ⟨rfl, rfl⟩⟩, (fun _ h => absurd h List.not_mem_nil)⟩)
set_option maxRecDepth 100000 in
set_option maxHeartbeats 4000000 in
theorem me_100 : en_ME 100 ⟨"EvenSteps", "spread", "(II)J"⟩ prog_1_method_40_code 16 (some .long) := ⟨⟨p_X11_spread, rfl⟩, wd_779, wd_63, ⟨by decide, by decide⟩, by decide⟩
set_option maxRecDepth 100000 in
set_option maxHeartbeats 4000000 in
theorem np_48 : en_np "(II)J" 2 := by unfold en_np; decide +kernel
set_option maxRecDepth 100000 in
set_option maxHeartbeats 4000000 in
theorem lk_487 : en_LV "EvenStepsLaw" 122 2 [(10, 100)] := (List.forall_mem_cons.mpr ⟨⟨"EvenSteps", en_T10, 11, ⟨"EvenSteps", "spread", "(II)J"⟩, ⟨"EvenSteps", "spread", "(II)J"⟩, prog_1_method_40_code, 16, (some .long), "EvenSteps", rfl, me_100, np_48, wd_776, wd_778, wd_777, Or.inl ⟨rfl, rfl⟩⟩, (fun _ h => absurd h List.not_mem_nil)⟩)
set_option maxRecDepth 100000 in
set_option maxHeartbeats 4000000 in
theorem me_183 : en_ME 183 ⟨"EvenStepsModel", "spread", "(II)J"⟩ prog_14_method_54_code 15 (some .long) := ⟨⟨p_X12_spread, rfl⟩, wd_1258, wd_68, ⟨by decide, by decide⟩, by decide⟩
set_option maxRecDepth 100000 in
set_option maxHeartbeats 4000000 in
theorem lk_488 : en_LV "EvenStepsLaw" 126 2 [(11, 183)] := (List.forall_mem_cons.mpr ⟨⟨"EvenStepsModel", en_T11, 33, ⟨"EvenStepsModel", "spread", "(II)J"⟩, ⟨"EvenStepsModel", "spread", "(II)J"⟩, prog_14_method_54_code, 15, (some .long), "EvenStepsModel", rfl, me_183, np_48, wd_1255, wd_1257, wd_1256, Or.inl ⟨rfl, rfl⟩⟩, (fun _ h => absurd h List.not_mem_nil)⟩)
set_option maxRecDepth 100000 in
set_option maxHeartbeats 4000000 in
theorem me_102 : en_ME 102 ⟨"EvenSteps", "turning", "(JI)I"⟩ prog_1_method_42_code 12 (some .int) := ⟨⟨p_X11_turning, rfl⟩, wd_788, wd_63, ⟨by decide, by decide⟩, by decide⟩
set_option maxRecDepth 100000 in
set_option maxHeartbeats 4000000 in
theorem np_49 : en_np "(JI)I" 2 := by unfold en_np; decide +kernel
set_option maxRecDepth 100000 in
set_option maxHeartbeats 4000000 in
theorem lk_490 : en_LV "EvenStepsLaw" 129 2 [(10, 102)] := (List.forall_mem_cons.mpr ⟨⟨"EvenSteps", en_T10, 11, ⟨"EvenSteps", "turning", "(JI)I"⟩, ⟨"EvenSteps", "turning", "(JI)I"⟩, prog_1_method_42_code, 12, (some .int), "EvenSteps", rfl, me_102, np_49, wd_785, wd_787, wd_786, Or.inl ⟨rfl, rfl⟩⟩, (fun _ h => absurd h List.not_mem_nil)⟩)
set_option maxRecDepth 100000 in
set_option maxHeartbeats 4000000 in
theorem me_184 : en_ME 184 ⟨"EvenStepsModel", "turning", "(JI)I"⟩ prog_14_method_55_code 7 (some .int) := ⟨⟨p_X12_turning, rfl⟩, wd_1263, wd_68, ⟨by decide, by decide⟩, by decide⟩
set_option maxRecDepth 100000 in
set_option maxHeartbeats 4000000 in
theorem lk_491 : en_LV "EvenStepsLaw" 133 2 [(11, 184)] := (List.forall_mem_cons.mpr ⟨⟨"EvenStepsModel", en_T11, 33, ⟨"EvenStepsModel", "turning", "(JI)I"⟩, ⟨"EvenStepsModel", "turning", "(JI)I"⟩, prog_14_method_55_code, 7, (some .int), "EvenStepsModel", rfl, me_184, np_49, wd_1260, wd_1262, wd_1261, Or.inl ⟨rfl, rfl⟩⟩, (fun _ h => absurd h List.not_mem_nil)⟩)
set_option maxRecDepth 100000 in
set_option maxHeartbeats 4000000 in
theorem me_104 : en_ME 104 ⟨"EvenSteps", "wins", "(II)I"⟩ prog_1_method_44_code 3 (some .int) := ⟨⟨p_X11_wins, rfl⟩, wd_795, wd_63, ⟨by decide, by decide⟩, by decide⟩
set_option maxRecDepth 100000 in
set_option maxHeartbeats 4000000 in
theorem lk_492 : en_LV "EvenStepsLaw" 134 2 [(10, 104)] := (List.forall_mem_cons.mpr ⟨⟨"EvenSteps", en_T10, 11, ⟨"EvenSteps", "wins", "(II)I"⟩, ⟨"EvenSteps", "wins", "(II)I"⟩, prog_1_method_44_code, 3, (some .int), "EvenSteps", rfl, me_104, np_12, wd_792, wd_794, wd_793, Or.inl ⟨rfl, rfl⟩⟩, (fun _ h => absurd h List.not_mem_nil)⟩)
set_option maxRecDepth 100000 in
set_option maxHeartbeats 4000000 in
theorem lk_493 : en_LV "EvenStepsLaw" 137 2 [(11, 186)] := (List.forall_mem_cons.mpr ⟨⟨"EvenStepsModel", en_T11, 33, ⟨"EvenStepsModel", "wins", "(II)I"⟩, ⟨"EvenStepsModel", "wins", "(II)I"⟩, prog_14_method_57_code, 3, (some .int), "EvenStepsModel", rfl, me_186, np_12, wd_1264, wd_1266, wd_1265, Or.inl ⟨rfl, rfl⟩⟩, (fun _ h => absurd h List.not_mem_nil)⟩)
set_option maxRecDepth 100000 in
set_option maxHeartbeats 4000000 in
theorem me_105 : en_ME 105 ⟨"EvenSteps", "takes", "(II)I"⟩ prog_1_method_45_code 6 (some .int) := ⟨⟨p_X11_takes, rfl⟩, wd_809, wd_63, ⟨by decide, by decide⟩, by decide⟩
set_option maxRecDepth 100000 in
set_option maxHeartbeats 4000000 in
theorem lk_494 : en_LV "EvenStepsLaw" 138 2 [(10, 105)] := (List.forall_mem_cons.mpr ⟨⟨"EvenSteps", en_T10, 11, ⟨"EvenSteps", "takes", "(II)I"⟩, ⟨"EvenSteps", "takes", "(II)I"⟩, prog_1_method_45_code, 6, (some .int), "EvenSteps", rfl, me_105, np_12, wd_806, wd_808, wd_807, Or.inl ⟨rfl, rfl⟩⟩, (fun _ h => absurd h List.not_mem_nil)⟩)
set_option maxRecDepth 100000 in
set_option maxHeartbeats 4000000 in
theorem me_187 : en_ME 187 ⟨"EvenStepsModel", "takes", "(II)I"⟩ prog_14_method_58_code 4 (some .int) := ⟨⟨p_X12_takes, rfl⟩, wd_1275, wd_68, ⟨by decide, by decide⟩, by decide⟩
set_option maxRecDepth 100000 in
set_option maxHeartbeats 4000000 in
theorem lk_495 : en_LV "EvenStepsLaw" 141 2 [(11, 187)] := (List.forall_mem_cons.mpr ⟨⟨"EvenStepsModel", en_T11, 33, ⟨"EvenStepsModel", "takes", "(II)I"⟩, ⟨"EvenStepsModel", "takes", "(II)I"⟩, prog_14_method_58_code, 4, (some .int), "EvenStepsModel", rfl, me_187, np_12, wd_1272, wd_1274, wd_1273, Or.inl ⟨rfl, rfl⟩⟩, (fun _ h => absurd h List.not_mem_nil)⟩)
set_option maxRecDepth 100000 in
set_option maxHeartbeats 4000000 in
theorem me_109 : en_ME 109 ⟨"EvenSteps", "act", "(III)I"⟩ prog_1_method_49_code 5 (some .int) := ⟨⟨p_X11_act, rfl⟩, wd_816, wd_63, ⟨by decide, by decide⟩, by decide⟩
set_option maxRecDepth 100000 in
set_option maxHeartbeats 4000000 in
theorem lk_496 : en_LV "EvenStepsLaw" 142 3 [(10, 109)] := (List.forall_mem_cons.mpr ⟨⟨"EvenSteps", en_T10, 11, ⟨"EvenSteps", "act", "(III)I"⟩, ⟨"EvenSteps", "act", "(III)I"⟩, prog_1_method_49_code, 5, (some .int), "EvenSteps", rfl, me_109, np_5, wd_813, wd_815, wd_814, Or.inl ⟨rfl, rfl⟩⟩, (fun _ h => absurd h List.not_mem_nil)⟩)
set_option maxRecDepth 100000 in
set_option maxHeartbeats 4000000 in
theorem me_200 : en_ME 200 ⟨"EvenStepsModel", "act", "(III)I"⟩ prog_14_method_71_code 4 (some .int) := ⟨⟨p_X12_act, rfl⟩, wd_1283, wd_68, ⟨by decide, by decide⟩, by decide⟩
set_option maxRecDepth 100000 in
set_option maxHeartbeats 4000000 in
theorem lk_497 : en_LV "EvenStepsLaw" 145 3 [(11, 200)] := (List.forall_mem_cons.mpr ⟨⟨"EvenStepsModel", en_T11, 33, ⟨"EvenStepsModel", "act", "(III)I"⟩, ⟨"EvenStepsModel", "act", "(III)I"⟩, prog_14_method_71_code, 4, (some .int), "EvenStepsModel", rfl, me_200, np_5, wd_1280, wd_1282, wd_1281, Or.inl ⟨rfl, rfl⟩⟩, (fun _ h => absurd h List.not_mem_nil)⟩)
set_option maxRecDepth 100000 in
set_option maxHeartbeats 4000000 in
theorem me_110 : en_ME 110 ⟨"EvenSteps", "trace", "(I)I"⟩ prog_1_method_50_code 2 (some .int) := ⟨⟨p_X11_trace, rfl⟩, wd_900, wd_63, ⟨by decide, by decide⟩, by decide⟩
set_option maxRecDepth 100000 in
set_option maxHeartbeats 4000000 in
theorem lk_498 : en_LV "EvenStepsLaw" 146 1 [(10, 110)] := (List.forall_mem_cons.mpr ⟨⟨"EvenSteps", en_T10, 11, ⟨"EvenSteps", "trace", "(I)I"⟩, ⟨"EvenSteps", "trace", "(I)I"⟩, prog_1_method_50_code, 2, (some .int), "EvenSteps", rfl, me_110, np_8, wd_897, wd_899, wd_898, Or.inl ⟨rfl, rfl⟩⟩, (fun _ h => absurd h List.not_mem_nil)⟩)
set_option maxRecDepth 100000 in
set_option maxHeartbeats 4000000 in
theorem me_201 : en_ME 201 ⟨"EvenStepsModel", "trace", "(I)I"⟩ prog_14_method_72_code 2 (some .int) := ⟨⟨p_X12_trace, rfl⟩, wd_1335, wd_68, ⟨by decide, by decide⟩, by decide⟩
set_option maxRecDepth 100000 in
set_option maxHeartbeats 4000000 in
theorem lk_499 : en_LV "EvenStepsLaw" 149 1 [(11, 201)] := (List.forall_mem_cons.mpr ⟨⟨"EvenStepsModel", en_T11, 33, ⟨"EvenStepsModel", "trace", "(I)I"⟩, ⟨"EvenStepsModel", "trace", "(I)I"⟩, prog_14_method_72_code, 2, (some .int), "EvenStepsModel", rfl, me_201, np_8, wd_1332, wd_1334, wd_1333, Or.inl ⟨rfl, rfl⟩⟩, (fun _ h => absurd h List.not_mem_nil)⟩)
set_option maxRecDepth 100000 in
set_option maxHeartbeats 4000000 in
theorem me_111 : en_ME 111 ⟨"EvenSteps", "sheet", "(III)I"⟩ prog_1_method_51_code 4 (some .int) := ⟨⟨p_X11_sheet, rfl⟩, wd_904, wd_63, ⟨by decide, by decide⟩, by decide⟩
set_option maxRecDepth 100000 in
set_option maxHeartbeats 4000000 in
theorem lk_500 : en_LV "EvenStepsLaw" 150 3 [(10, 111)] := (List.forall_mem_cons.mpr ⟨⟨"EvenSteps", en_T10, 11, ⟨"EvenSteps", "sheet", "(III)I"⟩, ⟨"EvenSteps", "sheet", "(III)I"⟩, prog_1_method_51_code, 4, (some .int), "EvenSteps", rfl, me_111, np_5, wd_901, wd_903, wd_902, Or.inl ⟨rfl, rfl⟩⟩, (fun _ h => absurd h List.not_mem_nil)⟩)
set_option maxRecDepth 100000 in
set_option maxHeartbeats 4000000 in
theorem me_202 : en_ME 202 ⟨"EvenStepsModel", "sheet", "(III)I"⟩ prog_14_method_73_code 5 (some .int) := ⟨⟨p_X12_sheet, rfl⟩, wd_1339, wd_68, ⟨by decide, by decide⟩, by decide⟩
set_option maxRecDepth 100000 in
set_option maxHeartbeats 4000000 in
theorem lk_501 : en_LV "EvenStepsLaw" 153 3 [(11, 202)] := (List.forall_mem_cons.mpr ⟨⟨"EvenStepsModel", en_T11, 33, ⟨"EvenStepsModel", "sheet", "(III)I"⟩, ⟨"EvenStepsModel", "sheet", "(III)I"⟩, prog_14_method_73_code, 5, (some .int), "EvenStepsModel", rfl, me_202, np_5, wd_1336, wd_1338, wd_1337, Or.inl ⟨rfl, rfl⟩⟩, (fun _ h => absurd h List.not_mem_nil)⟩)
set_option maxRecDepth 100000 in
set_option maxHeartbeats 4000000 in
theorem me_112 : en_ME 112 ⟨"EvenSteps", "cell", "(III)I"⟩ prog_1_method_52_code 5 (some .int) := ⟨⟨p_X11_cell, rfl⟩, wd_912, wd_63, ⟨by decide, by decide⟩, by decide⟩
set_option maxRecDepth 100000 in
set_option maxHeartbeats 4000000 in
theorem lk_502 : en_LV "EvenStepsLaw" 154 3 [(10, 112)] := (List.forall_mem_cons.mpr ⟨⟨"EvenSteps", en_T10, 11, ⟨"EvenSteps", "cell", "(III)I"⟩, ⟨"EvenSteps", "cell", "(III)I"⟩, prog_1_method_52_code, 5, (some .int), "EvenSteps", rfl, me_112, np_5, wd_909, wd_911, wd_910, Or.inl ⟨rfl, rfl⟩⟩, (fun _ h => absurd h List.not_mem_nil)⟩)
set_option maxRecDepth 100000 in
set_option maxHeartbeats 4000000 in
theorem me_203 : en_ME 203 ⟨"EvenStepsModel", "cell", "(III)I"⟩ prog_14_method_74_code 4 (some .int) := ⟨⟨p_X12_cell, rfl⟩, wd_1343, wd_68, ⟨by decide, by decide⟩, by decide⟩
set_option maxRecDepth 100000 in
set_option maxHeartbeats 4000000 in
theorem lk_503 : en_LV "EvenStepsLaw" 157 3 [(11, 203)] := (List.forall_mem_cons.mpr ⟨⟨"EvenStepsModel", en_T11, 33, ⟨"EvenStepsModel", "cell", "(III)I"⟩, ⟨"EvenStepsModel", "cell", "(III)I"⟩, prog_14_method_74_code, 4, (some .int), "EvenStepsModel", rfl, me_203, np_5, wd_1340, wd_1342, wd_1341, Or.inl ⟨rfl, rfl⟩⟩, (fun _ h => absurd h List.not_mem_nil)⟩)
set_option maxRecDepth 100000 in
set_option maxHeartbeats 4000000 in
theorem me_113 : en_ME 113 ⟨"EvenSteps", "forge", "(III)I"⟩ prog_1_method_53_code 4 (some .int) := ⟨⟨p_X11_forge, rfl⟩, wd_916, wd_63, ⟨by decide, by decide⟩, by decide⟩
set_option maxRecDepth 100000 in
set_option maxHeartbeats 4000000 in
theorem lk_504 : en_LV "EvenStepsLaw" 158 3 [(10, 113)] := (List.forall_mem_cons.mpr ⟨⟨"EvenSteps", en_T10, 11, ⟨"EvenSteps", "forge", "(III)I"⟩, ⟨"EvenSteps", "forge", "(III)I"⟩, prog_1_method_53_code, 4, (some .int), "EvenSteps", rfl, me_113, np_5, wd_913, wd_915, wd_914, Or.inl ⟨rfl, rfl⟩⟩, (fun _ h => absurd h List.not_mem_nil)⟩)
set_option maxRecDepth 100000 in
set_option maxHeartbeats 4000000 in
theorem me_206 : en_ME 206 ⟨"EvenStepsModel", "forge", "(III)I"⟩ prog_14_method_77_code 8 (some .int) := ⟨⟨p_X12_forge, rfl⟩, wd_1347, wd_68, ⟨by decide, by decide⟩, by decide⟩
set_option maxRecDepth 100000 in
set_option maxHeartbeats 4000000 in
theorem lk_505 : en_LV "EvenStepsLaw" 161 3 [(11, 206)] := (List.forall_mem_cons.mpr ⟨⟨"EvenStepsModel", en_T11, 33, ⟨"EvenStepsModel", "forge", "(III)I"⟩, ⟨"EvenStepsModel", "forge", "(III)I"⟩, prog_14_method_77_code, 8, (some .int), "EvenStepsModel", rfl, me_206, np_5, wd_1344, wd_1346, wd_1345, Or.inl ⟨rfl, rfl⟩⟩, (fun _ h => absurd h List.not_mem_nil)⟩)
set_option maxRecDepth 100000 in
set_option maxHeartbeats 4000000 in
theorem me_119 : en_ME 119 ⟨"EvenSteps", "status", "()I"⟩ prog_1_method_59_code 1 (some .int) := ⟨⟨p_X11_status, rfl⟩, wd_939, wd_63, ⟨by decide, by decide⟩, by decide⟩
set_option maxRecDepth 100000 in
set_option maxHeartbeats 4000000 in
theorem lk_506 : en_LV "EvenStepsLaw" 162 0 [(10, 119)] := (List.forall_mem_cons.mpr ⟨⟨"EvenSteps", en_T10, 11, ⟨"EvenSteps", "status", "()I"⟩, ⟨"EvenSteps", "status", "()I"⟩, prog_1_method_59_code, 1, (some .int), "EvenSteps", rfl, me_119, np_29, wd_936, wd_938, wd_937, Or.inl ⟨rfl, rfl⟩⟩, (fun _ h => absurd h List.not_mem_nil)⟩)
set_option maxRecDepth 100000 in
set_option maxHeartbeats 4000000 in
theorem me_207 : en_ME 207 ⟨"EvenStepsModel", "status", "()I"⟩ prog_14_method_78_code 1 (some .int) := ⟨⟨p_X12_status, rfl⟩, wd_1357, wd_68, ⟨by decide, by decide⟩, by decide⟩
set_option maxRecDepth 100000 in
set_option maxHeartbeats 4000000 in
theorem lk_507 : en_LV "EvenStepsLaw" 166 0 [(11, 207)] := (List.forall_mem_cons.mpr ⟨⟨"EvenStepsModel", en_T11, 33, ⟨"EvenStepsModel", "status", "()I"⟩, ⟨"EvenStepsModel", "status", "()I"⟩, prog_14_method_78_code, 1, (some .int), "EvenStepsModel", rfl, me_207, np_29, wd_1354, wd_1356, wd_1355, Or.inl ⟨rfl, rfl⟩⟩, (fun _ h => absurd h List.not_mem_nil)⟩)
