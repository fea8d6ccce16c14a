/-! each method against the tables. Written by wip/whole/lnk.py. -/
set_option maxRecDepth 100000 in
set_option maxHeartbeats 4000000 in
theorem n_X11_signOf_2 : en_lkC "EvenSteps" false [(.iconst 0, 1, 0, 0, [], 0, 0)] := ⟨trivial, trivial⟩
set_option maxRecDepth 100000 in
set_option maxHeartbeats 4000000 in
theorem n_X11_signOf_3 : en_lkC "EvenSteps" false [(.istore 6, 2, 6, 0, [], 0, 0), (.lload_n 2, 1, 2, 0, [], 0, 0), (.lconst 0, 1, 0, 0, [], 0, 0), (.lcmp, 1, 0, 0, [], 0, 0), (.ifCond .le 7, 3, 4, 0, [], 0, 0), (.iconst 1, 1, 0, 0, [], 1, 0), (.goto 14, 3, 6, 0, [], 0, 0)] := ⟨trivial, ⟨trivial, ⟨trivial, ⟨trivial, ⟨trivial, ⟨trivial, ⟨trivial, trivial⟩⟩⟩⟩⟩⟩⟩
set_option maxRecDepth 100000 in
set_option maxHeartbeats 4000000 in
theorem n_X11_signOf_4 : en_lkC "EvenSteps" false [(.lload_n 2, 1, 2, 0, [], 0, 0), (.lconst 0, 1, 0, 0, [], 0, 0), (.lcmp, 1, 0, 0, [], 0, 0), (.ifCond .ge 7, 3, 5, 0, [], 0, 0), (.iconst (-1), 1, 0, 0, [], (-1), 0), (.goto 4, 3, 6, 0, [], 0, 0)] := ⟨trivial, ⟨trivial, ⟨trivial, ⟨trivial, ⟨trivial, ⟨trivial, trivial⟩⟩⟩⟩⟩⟩
set_option maxRecDepth 100000 in
set_option maxHeartbeats 4000000 in
theorem n_X11_signOf_5 : en_lkC "EvenSteps" false [(.iconst 0, 1, 0, 0, [], 0, 0)] := ⟨trivial, trivial⟩
set_option maxRecDepth 100000 in
set_option maxHeartbeats 4000000 in
theorem n_X11_signOf_6 : en_lkC "EvenSteps" false [(.istore 7, 2, 7, 0, [], 0, 0), (.iload 6, 2, 6, 0, [], 0, 0), (.iload 7, 2, 7, 0, [], 0, 0), (.imul, 1, 0, 0, [], 0, 0), (.ifCond .lt 16, 3, 9, 0, [], 0, 0), (.iload 6, 2, 6, 0, [], 0, 0), (.ifCond .eq 8, 3, 7, 0, [], 0, 0), (.iload 6, 2, 6, 0, [], 0, 0), (.goto 5, 3, 8, 0, [], 0, 0)] := ⟨trivial, ⟨trivial, ⟨trivial, ⟨trivial, ⟨trivial, ⟨trivial, ⟨trivial, ⟨trivial, ⟨trivial, trivial⟩⟩⟩⟩⟩⟩⟩⟩⟩
set_option maxRecDepth 100000 in
set_option maxHeartbeats 4000000 in
theorem n_X11_signOf_7 : en_lkC "EvenSteps" false [(.iload 7, 2, 7, 0, [], 0, 0)] := ⟨trivial, trivial⟩
set_option maxRecDepth 100000 in
set_option maxHeartbeats 4000000 in
theorem n_X11_signOf_8 : en_lkC "EvenSteps" false [(.ireturn, 1, 0, 0, [], 0, 0)] := ⟨trivial, trivial⟩
set_option maxRecDepth 100000 in
set_option maxHeartbeats 4000000 in
theorem n_X11_signOf_9 : en_lkC "EvenSteps" false [(.lload_n 0, 1, 0, 0, [], 0, 0), (.lload_n 0, 1, 0, 0, [], 0, 0), (.lmul, 1, 0, 0, [], 0, 0), (.lload_n 2, 1, 2, 0, [], 0, 0), (.lload_n 2, 1, 2, 0, [], 0, 0), (.lmul, 1, 0, 0, [], 0, 0), (.lload 4, 2, 4, 0, [], 0, 0), (.lmul, 1, 0, 0, [], 0, 0), (.lsub, 1, 0, 0, [], 0, 0), (.lstore 8, 2, 8, 0, [], 0, 0), (.lload 8, 2, 8, 0, [], 0, 0), (.lconst 0, 1, 0, 0, [], 0, 0), (.lcmp, 1, 0, 0, [], 0, 0), (.ifCond .le 8, 3, 10, 0, [], 0, 0), (.iload 6, 2, 6, 0, [], 0, 0), (.goto 16, 3, 12, 0, [], 0, 0)] := ⟨trivial, ⟨trivial, ⟨trivial, ⟨trivial, ⟨trivial, ⟨trivial, ⟨trivial, ⟨trivial, ⟨trivial, ⟨trivial, ⟨trivial, ⟨trivial, ⟨trivial, ⟨trivial, ⟨trivial, ⟨trivial, trivial⟩⟩⟩⟩⟩⟩⟩⟩⟩⟩⟩⟩⟩⟩⟩⟩
set_option maxRecDepth 100000 in
set_option maxHeartbeats 4000000 in
theorem n_X11_signOf_10 : en_lkC "EvenSteps" false [(.lload 8, 2, 8, 0, [], 0, 0), (.lconst 0, 1, 0, 0, [], 0, 0), (.lcmp, 1, 0, 0, [], 0, 0), (.ifCond .ge 8, 3, 11, 0, [], 0, 0), (.iload 7, 2, 7, 0, [], 0, 0), (.goto 4, 3, 12, 0, [], 0, 0)] := ⟨trivial, ⟨trivial, ⟨trivial, ⟨trivial, ⟨trivial, ⟨trivial, trivial⟩⟩⟩⟩⟩⟩
set_option maxRecDepth 100000 in
set_option maxHeartbeats 4000000 in
theorem n_X11_signOf_11 : en_lkC "EvenSteps" false [(.iconst 0, 1, 0, 0, [], 0, 0)] := ⟨trivial, trivial⟩
set_option maxRecDepth 100000 in
set_option maxHeartbeats 4000000 in
theorem n_X11_signOf_12 : en_lkC "EvenSteps" false [(.ireturn, 1, 0, 0, [], 0, 0)] := ⟨trivial, trivial⟩
set_option maxRecDepth 100000 in
set_option maxHeartbeats 4000000 in
theorem n_X11_signOf : en_lkM (⟨"EvenSteps", "signOf", "(JJJ)I"⟩, prog_1_method_68_code, 10, (some .int), p_X11_signOf) := (List.forall_mem_cons.mpr ⟨n_X11_signOf_0, (List.forall_mem_cons.mpr ⟨n_X11_signOf_1, (List.forall_mem_cons.mpr ⟨n_X11_signOf_2, (List.forall_mem_cons.mpr ⟨n_X11_signOf_3, (List.forall_mem_cons.mpr ⟨n_X11_signOf_4, (List.forall_mem_cons.mpr ⟨n_X11_signOf_5, (List.forall_mem_cons.mpr ⟨n_X11_signOf_6, (List.forall_mem_cons.mpr ⟨n_X11_signOf_7, (List.forall_mem_cons.mpr ⟨n_X11_signOf_8, (List.forall_mem_cons.mpr ⟨n_X11_signOf_9, (List.forall_mem_cons.mpr ⟨n_X11_signOf_10, (List.forall_mem_cons.mpr ⟨n_X11_signOf_11, (List.forall_mem_cons.mpr ⟨n_X11_signOf_12, (fun _ h => absurd h List.not_mem_nil)⟩)⟩)⟩)⟩)⟩)⟩)⟩)⟩)⟩)⟩)⟩)⟩)⟩)
set_option maxRecDepth 100000 in
set_option maxHeartbeats 4000000 in
theorem k_X11_commonOf : en_ckM (⟨"EvenSteps", "commonOf", "(JJ)J"⟩, prog_1_method_69_code, 11, (some .long), p_X11_commonOf) = true := by decide +kernel
set_option maxRecDepth 100000 in
set_option maxHeartbeats 4000000 in
theorem n_X11_commonOf_0 : en_lkC "EvenSteps" false [(.lload_n 0, 1, 0, 0, [], 0, 0), (.invokestatic 387, 3, 1, 1, [(0, 216)], 0, 0), (.lstore 4, 2, 4, 0, [], 0, 0), (.lload_n 2, 1, 2, 0, [], 0, 0), (.invokestatic 387, 3, 1, 1, [(0, 216)], 0, 0), (.lstore 6, 2, 6, 0, [], 0, 0), (.iconst 0, 1, 0, 0, [], 0, 0), (.istore 8, 2, 8, 0, [], 0, 0)] := ⟨trivial, ⟨lk_306, ⟨trivial, ⟨trivial, ⟨lk_306, ⟨trivial, ⟨trivial, ⟨trivial, trivial⟩⟩⟩⟩⟩⟩⟩⟩
set_option maxRecDepth 100000 in
set_option maxHeartbeats 4000000 in
theorem n_X11_commonOf_1 : en_lkC "EvenSteps" false [(.iload 8, 2, 8, 0, [], 0, 0), (.bipush 100, 2, 0, 0, [], 100, 0), (.if_icmp .ge 31, 3, 2, 0, [], 0, 0), (.lload 6, 2, 6, 0, [], 0, 0), (.lconst 0, 1, 0, 0, [], 0, 0), (.lcmp, 1, 0, 0, [], 0, 0), (.ifCond .eq 24, 3, 2, 0, [], 0, 0), (.lload 4, 2, 4, 0, [], 0, 0), (.lload 6, 2, 6, 0, [], 0, 0), (.lrem, 1, 0, 0, [], 0, 0), (.lstore 9, 2, 9, 0, [], 0, 0), (.lload 6, 2, 6, 0, [], 0, 0), (.lstore 4, 2, 4, 0, [], 0, 0), (.lload 9, 2, 9, 0, [], 0, 0), (.lstore 6, 2, 6, 0, [], 0, 0), (.iinc 8 1, 3, 8, 0, [], 1, 0), (.goto (-32), 3, 1, 0, [], 0, 0)] := ⟨trivial, ⟨trivial, ⟨trivial, ⟨trivial, ⟨trivial, ⟨trivial, ⟨trivial, ⟨trivial, ⟨trivial, ⟨trivial, ⟨trivial, ⟨trivial, ⟨trivial, ⟨trivial, ⟨trivial, ⟨trivial, ⟨trivial, trivial⟩⟩⟩⟩⟩⟩⟩⟩⟩⟩⟩⟩⟩⟩⟩⟩⟩
set_option maxRecDepth 100000 in
set_option maxHeartbeats 4000000 in
theorem n_X11_commonOf_2 : en_lkC "EvenSteps" false [(.lload 4, 2, 4, 0, [], 0, 0), (.lreturn, 1, 0, 0, [], 0, 0)] := ⟨trivial, ⟨trivial, trivial⟩⟩
set_option maxRecDepth 100000 in
set_option maxHeartbeats 4000000 in
theorem n_X11_commonOf : en_lkM (⟨"EvenSteps", "commonOf", "(JJ)J"⟩, prog_1_method_69_code, 11, (some .long), p_X11_commonOf) := (List.forall_mem_cons.mpr ⟨n_X11_commonOf_0, (List.forall_mem_cons.mpr ⟨n_X11_commonOf_1, (List.forall_mem_cons.mpr ⟨n_X11_commonOf_2, (fun _ h => absurd h List.not_mem_nil)⟩)⟩)⟩)
set_option maxRecDepth 100000 in
set_option maxHeartbeats 4000000 in
theorem k_X12_init : en_ckM (⟨"EvenStepsModel", "<init>", "()V"⟩, prog_14_method_1_code, 2, none, p_X12_init) = true := by decide +kernel
set_option maxRecDepth 100000 in
set_option maxHeartbeats 4000000 in
theorem n_X12_init_0 : en_lkC "EvenStepsModel" true [(.aload_n 0, 1, 0, 0, [], 0, 0), (.invokespecial 1, 3, 0, 9, [], 0, 0), (.aload_n 0, 1, 0, 0, [], 0, 0), (.bipush 8, 2, 0, 0, [], 8, 0), (.newarray .int, 2, 0, 0, [], 0, 0), (.putfield 7, 3, 3, 2, [(11, 0)], 0, 0), (.aload_n 0, 1, 0, 0, [], 0, 0), (.bipush 8, 2, 0, 0, [], 8, 0), (.newarray .int, 2, 0, 0, [], 0, 0), (.putfield 13, 3, 4, 2, [(11, 0)], 0, 0), (.aload_n 0, 1, 0, 0, [], 0, 0), (.bipush 8, 2, 0, 0, [], 8, 0), (.newarray .int, 2, 0, 0, [], 0, 0), (.putfield 16, 3, 5, 2, [(11, 0)], 0, 0), (.aload_n 0, 1, 0, 0, [], 0, 0), (.bipush 8, 2, 0, 0, [], 8, 0), (.newarray .int, 2, 0, 0, [], 0, 0), (.putfield 19, 3, 6, 2, [(11, 0)], 0, 0), (.aload_n 0, 1, 0, 0, [], 0, 0), (.bipush 10, 2, 0, 0, [], 10, 0), (.newarray .int, 2, 0, 0, [], 0, 0), (.putfield 22, 3, 7, 2, [(11, 0)], 0, 0)] := ⟨trivial, ⟨(Or.inl ⟨rfl, wd_945, wd_85, wd_86⟩), ⟨trivial, ⟨trivial, ⟨(Or.inl ⟨rfl, wd_108⟩), ⟨lk_308, ⟨trivial, ⟨trivial, ⟨(Or.inl ⟨rfl, wd_108⟩), ⟨lk_309, ⟨trivial, ⟨trivial, ⟨(Or.inl ⟨rfl, wd_108⟩), ⟨lk_310, ⟨trivial, ⟨trivial, ⟨(Or.inl ⟨rfl, wd_108⟩), ⟨lk_311, ⟨trivial, ⟨trivial, ⟨(Or.inl ⟨rfl, wd_108⟩), ⟨lk_312, trivial⟩⟩⟩⟩⟩⟩⟩⟩⟩⟩⟩⟩⟩⟩⟩⟩⟩⟩⟩⟩⟩⟩
set_option maxRecDepth 100000 in
set_option maxHeartbeats 4000000 in
theorem n_X12_init_1 : en_lkC "EvenStepsModel" true [(.aload_n 0, 1, 0, 0, [], 0, 0), (.bipush 10, 2, 0, 0, [], 10, 0), (.newarray .int, 2, 0, 0, [], 0, 0), (.putfield 25, 3, 8, 2, [(11, 0)], 0, 0), (.aload_n 0, 1, 0, 0, [], 0, 0), (.bipush 10, 2, 0, 0, [], 10, 0), (.newarray .int, 2, 0, 0, [], 0, 0), (.putfield 28, 3, 9, 2, [(11, 0)], 0, 0), (.aload_n 0, 1, 0, 0, [], 0, 0), (.ldc 31, 2, 0, 0, [], 100010, 0), (.newarray .int, 2, 0, 0, [], 0, 0), (.putfield 32, 3, 10, 2, [(11, 0)], 0, 0), (.aload_n 0, 1, 0, 0, [], 0, 0), (.iconst 4, 1, 0, 0, [], 4, 0), (.newarray .int, 2, 0, 0, [], 0, 0), (.putfield 35, 3, 11, 2, [(11, 0)], 0, 0), (.aload_n 0, 1, 0, 0, [], 0, 0), (.iconst 4, 1, 0, 0, [], 4, 0), (.newarray .int, 2, 0, 0, [], 0, 0), (.putfield 38, 3, 12, 2, [(11, 0)], 0, 0)] := ⟨trivial, ⟨trivial, ⟨(Or.inl ⟨rfl, wd_108⟩), ⟨lk_313, ⟨trivial, ⟨trivial, ⟨(Or.inl ⟨rfl, wd_108⟩), ⟨lk_314, ⟨trivial, ⟨wd_946, ⟨(Or.inl ⟨rfl, wd_108⟩), ⟨lk_316, ⟨trivial, ⟨trivial, ⟨(Or.inl ⟨rfl, wd_108⟩), ⟨lk_317, ⟨trivial, ⟨trivial, ⟨(Or.inl ⟨rfl, wd_108⟩), ⟨lk_318, trivial⟩⟩⟩⟩⟩⟩⟩⟩⟩⟩⟩⟩⟩⟩⟩⟩⟩⟩⟩⟩
set_option maxRecDepth 100000 in
set_option maxHeartbeats 4000000 in
theorem n_X12_init_2 : en_lkC "EvenStepsModel" true [(.aload_n 0, 1, 0, 0, [], 0, 0), (.sipush 160, 3, 0, 0, [], 160, 0), (.newarray .int, 2, 0, 0, [], 0, 0), (.putfield 41, 3, 13, 2, [(11, 0)], 0, 0), (.aload_n 0, 1, 0, 0, [], 0, 0), (.bipush 60, 2, 0, 0, [], 60, 0), (.newarray .int, 2, 0, 0, [], 0, 0), (.putfield 44, 3, 14, 2, [(11, 0)], 0, 0), (.aload_n 0, 1, 0, 0, [], 0, 0), (.bipush 20, 2, 0, 0, [], 20, 0), (.newarray .long, 2, 0, 0, [], 0, 0), (.putfield 47, 3, 16, 2, [(11, 0)], 0, 0), (.aload_n 0, 1, 0, 0, [], 0, 0), (.bipush 24, 2, 0, 0, [], 24, 0), (.newarray .long, 2, 0, 0, [], 0, 0), (.putfield 51, 3, 17, 2, [(11, 0)], 0, 0), (.aload_n 0, 1, 0, 0, [], 0, 0), (.sipush 2001, 3, 0, 0, [], 2001, 0), (.newarray .int, 2, 0, 0, [], 0, 0), (.putfield 54, 3, 20, 2, [(11, 0)], 0, 0)] := ⟨trivial, ⟨trivial, ⟨(Or.inl ⟨rfl, wd_108⟩), ⟨lk_319, ⟨trivial, ⟨trivial, ⟨(Or.inl ⟨rfl, wd_108⟩), ⟨lk_320, ⟨trivial, ⟨trivial, ⟨(Or.inr ⟨rfl, wd_509⟩), ⟨lk_321, ⟨trivial, ⟨trivial, ⟨(Or.inr ⟨rfl, wd_509⟩), ⟨lk_322, ⟨trivial, ⟨trivial, ⟨(Or.inl ⟨rfl, wd_108⟩), ⟨lk_323, trivial⟩⟩⟩⟩⟩⟩⟩⟩⟩⟩⟩⟩⟩⟩⟩⟩⟩⟩⟩⟩
set_option maxRecDepth 100000 in
set_option maxHeartbeats 4000000 in
theorem n_X12_init_3 : en_lkC "EvenStepsModel" true [(.aload_n 0, 1, 0, 0, [], 0, 0), (.bipush 60, 2, 0, 0, [], 60, 0), (.newarray .int, 2, 0, 0, [], 0, 0), (.putfield 57, 3, 22, 2, [(11, 0)], 0, 0), (.aload_n 0, 1, 0, 0, [], 0, 0), (.bipush 60, 2, 0, 0, [], 60, 0), (.newarray .int, 2, 0, 0, [], 0, 0), (.putfield 60, 3, 23, 2, [(11, 0)], 0, 0), (.aload_n 0, 1, 0, 0, [], 0, 0), (.bipush 60, 2, 0, 0, [], 60, 0), (.newarray .int, 2, 0, 0, [], 0, 0), (.putfield 63, 3, 24, 2, [(11, 0)], 0, 0), (.aload_n 0, 1, 0, 0, [], 0, 0), (.bipush 60, 2, 0, 0, [], 60, 0), (.newarray .int, 2, 0, 0, [], 0, 0), (.putfield 66, 3, 25, 2, [(11, 0)], 0, 0), (.aload_n 0, 1, 0, 0, [], 0, 0), (.bipush 60, 2, 0, 0, [], 60, 0), (.newarray .int, 2, 0, 0, [], 0, 0), (.putfield 69, 3, 26, 2, [(11, 0)], 0, 0)] := ⟨trivial, ⟨trivial, ⟨(Or.inl ⟨rfl, wd_108⟩), ⟨lk_324, ⟨trivial, ⟨trivial, ⟨(Or.inl ⟨rfl, wd_108⟩), ⟨lk_325, ⟨trivial, ⟨trivial, ⟨(Or.inl ⟨rfl, wd_108⟩), ⟨lk_326, ⟨trivial, ⟨trivial, ⟨(Or.inl ⟨rfl, wd_108⟩), ⟨lk_327, ⟨trivial, ⟨trivial, ⟨(Or.inl ⟨rfl, wd_108⟩), ⟨lk_328, trivial⟩⟩⟩⟩⟩⟩⟩⟩⟩⟩⟩⟩⟩⟩⟩⟩⟩⟩⟩⟩
set_option maxRecDepth 100000 in
set_option maxHeartbeats 4000000 in
theorem n_X12_init_4 : en_lkC "EvenStepsModel" true [(.aload_n 0, 1, 0, 0, [], 0, 0), (.bipush 60, 2, 0, 0, [], 60, 0), (.newarray .int, 2, 0, 0, [], 0, 0), (.putfield 72, 3, 27, 2, [(11, 0)], 0, 0), (.aload_n 0, 1, 0, 0, [], 0, 0), (.bipush 60, 2, 0, 0, [], 60, 0), (.newarray .int, 2, 0, 0, [], 0, 0), (.putfield 75, 3, 28, 2, [(11, 0)], 0, 0), (.aload_n 0, 1, 0, 0, [], 0, 0), (.bipush 60, 2, 0, 0, [], 60, 0), (.newarray .int, 2, 0, 0, [], 0, 0), (.putfield 78, 3, 29, 2, [(11, 0)], 0, 0), (.aload_n 0, 1, 0, 0, [], 0, 0), (.sipush 2001, 3, 0, 0, [], 2001, 0), (.newarray .int, 2, 0, 0, [], 0, 0), (.putfield 81, 3, 31, 2, [(11, 0)], 0, 0), (.iconst 0, 1, 0, 0, [], 0, 0), (.istore_n 1, 1, 1, 0, [], 0, 0)] := ⟨trivial, ⟨trivial, ⟨(Or.inl ⟨rfl, wd_108⟩), ⟨lk_329, ⟨trivial, ⟨trivial, ⟨(Or.inl ⟨rfl, wd_108⟩), ⟨lk_330, ⟨trivial, ⟨trivial, ⟨(Or.inl ⟨rfl, wd_108⟩), ⟨lk_331, ⟨trivial, ⟨trivial, ⟨(Or.inl ⟨rfl, wd_108⟩), ⟨lk_332, ⟨trivial, ⟨trivial, trivial⟩⟩⟩⟩⟩⟩⟩⟩⟩⟩⟩⟩⟩⟩⟩⟩⟩⟩
set_option maxRecDepth 100000 in
set_option maxHeartbeats 4000000 in
theorem n_X12_init_5 : en_lkC "EvenStepsModel" true [(.iload_n 1, 1, 1, 0, [], 0, 0), (.iconst 4, 1, 0, 0, [], 4, 0), (.if_icmp .ge 16, 3, 6, 0, [], 0, 0), (.aload_n 0, 1, 0, 0, [], 0, 0), (.getfield 35, 3, 11, 2, [(11, 0)], 0, 0), (.iload_n 1, 1, 1, 0, [], 0, 0), (.iconst (-1), 1, 0, 0, [], (-1), 0), (.iastore, 1, 0, 0, [], 0, 0), (.iinc 1 1, 3, 1, 0, [], 1, 0), (.goto (-15), 3, 5, 0, [], 0, 0)] := ⟨trivial, ⟨trivial, ⟨trivial, ⟨trivial, ⟨lk_333, ⟨trivial, ⟨trivial, ⟨trivial, ⟨trivial, ⟨trivial, trivial⟩⟩⟩⟩⟩⟩⟩⟩⟩⟩
set_option maxRecDepth 100000 in
set_option maxHeartbeats 4000000 in
theorem n_X12_init_6 : en_lkC "EvenStepsModel" true [(.return_, 1, 0, 0, [], 0, 0)] := ⟨trivial, trivial⟩
set_option maxRecDepth 100000 in
set_option maxHeartbeats 4000000 in
theorem n_X12_init : en_lkM (⟨"EvenStepsModel", "<init>", "()V"⟩, prog_14_method_1_code, 2, none, p_X12_init) := (List.forall_mem_cons.mpr ⟨n_X12_init_0, (List.forall_mem_cons.mpr ⟨n_X12_init_1, (List.forall_mem_cons.mpr ⟨n_X12_init_2, (List.forall_mem_cons.mpr ⟨n_X12_init_3, (List.forall_mem_cons.mpr ⟨n_X12_init_4, (List.forall_mem_cons.mpr ⟨n_X12_init_5, (List.forall_mem_cons.mpr ⟨n_X12_init_6, (fun _ h => absurd h List.not_mem_nil)⟩)⟩)⟩)⟩)⟩)⟩)⟩)
set_option maxRecDepth 100000 in
set_option maxHeartbeats 4000000 in
theorem k_X12_refused : en_ckM (⟨"EvenStepsModel", "refused", "(I)I"⟩, prog_14_method_2_code, 2, (some .int), p_X12_refused) = true := by decide +kernel
set_option maxRecDepth 100000 in
set_option maxHeartbeats 4000000 in
theorem n_X12_refused_0 : en_lkC "EvenStepsModel" false [(.aload_n 0, 1, 0, 0, [], 0, 0), (.iload_n 1, 1, 1, 0, [], 0, 0), (.putfield 84, 3, 2, 0, [(11, 0)], 0, 0), (.iconst (-1), 1, 0, 0, [], (-1), 0), (.ireturn, 1, 0, 0, [], 0, 0)] := ⟨trivial, ⟨trivial, ⟨lk_334, ⟨trivial, ⟨trivial, trivial⟩⟩⟩⟩⟩
set_option maxRecDepth 100000 in
set_option maxHeartbeats 4000000 in
theorem n_X12_refused : en_lkM (⟨"EvenStepsModel", "refused", "(I)I"⟩, prog_14_method_2_code, 2, (some .int), p_X12_refused) := (List.forall_mem_cons.mpr ⟨n_X12_refused_0, (fun _ h => absurd h List.not_mem_nil)⟩)
set_option maxRecDepth 100000 in
set_option maxHeartbeats 4000000 in
theorem k_X12_fine : en_ckM (⟨"EvenStepsModel", "fine", "(I)I"⟩, prog_14_method_3_code, 2, (some .int), p_X12_fine) = true := by decide +kernel
set_option maxRecDepth 100000 in
set_option maxHeartbeats 4000000 in
theorem n_X12_fine_0 : en_lkC "EvenStepsModel" false [(.aload_n 0, 1, 0, 0, [], 0, 0), (.iconst 0, 1, 0, 0, [], 0, 0), (.putfield 84, 3, 2, 0, [(11, 0)], 0, 0), (.iload_n 1, 1, 1, 0, [], 0, 0), (.ireturn, 1, 0, 0, [], 0, 0)] := ⟨trivial, ⟨trivial, ⟨lk_334, ⟨trivial, ⟨trivial, trivial⟩⟩⟩⟩⟩
set_option maxRecDepth 100000 in
set_option maxHeartbeats 4000000 in
theorem n_X12_fine : en_lkM (⟨"EvenStepsModel", "fine", "(I)I"⟩, prog_14_method_3_code, 2, (some .int), p_X12_fine) := (List.forall_mem_cons.mpr ⟨n_X12_fine_0, (fun _ h => absurd h List.not_mem_nil)⟩)
set_option maxRecDepth 100000 in
set_option maxHeartbeats 4000000 in
theorem k_X12_in : en_ckM (⟨"EvenStepsModel", "in", "(III)Z"⟩, prog_14_method_4_code, 3, (some .boolean), p_X12_in) = true := by decide +kernel
set_option maxRecDepth 100000 in
set_option maxHeartbeats 4000000 in
theorem n_X12_in_0 : en_lkC "EvenStepsModel" false [(.iload_n 0, 1, 0, 0, [], 0, 0), (.iload_n 1, 1, 1, 0, [], 0, 0), (.if_icmp .lt 12, 3, 1, 0, [], 0, 0), (.iload_n 0, 1, 0, 0, [], 0, 0), (.iload_n 2, 1, 2, 0, [], 0, 0), (.if_icmp .gt 7, 3, 1, 0, [], 0, 0), (.iconst 1, 1, 0, 0, [], 1, 0), (.goto 4, 3, 2, 0, [], 0, 0)] := ⟨trivial, ⟨trivial, ⟨trivial, ⟨trivial, ⟨trivial, ⟨trivial, ⟨trivial, ⟨trivial, trivial⟩⟩⟩⟩⟩⟩⟩⟩
set_option maxRecDepth 100000 in
set_option maxHeartbeats 4000000 in
theorem n_X12_in_1 : en_lkC "EvenStepsModel" false [(.iconst 0, 1, 0, 0, [], 0, 0)] := ⟨trivial, trivial⟩
set_option maxRecDepth 100000 in
set_option maxHeartbeats 4000000 in
theorem n_X12_in_2 : en_lkC "EvenStepsModel" false [(.ireturn, 1, 0, 3, [], 0, 0)] := ⟨trivial, trivial⟩
set_option maxRecDepth 100000 in
set_option maxHeartbeats 4000000 in
theorem n_X12_in : en_lkM (⟨"EvenStepsModel", "in", "(III)Z"⟩, prog_14_method_4_code, 3, (some .boolean), p_X12_in) := (List.forall_mem_cons.mpr ⟨n_X12_in_0, (List.forall_mem_cons.mpr ⟨n_X12_in_1, (List.forall_mem_cons.mpr ⟨n_X12_in_2, (fun _ h => absurd h List.not_mem_nil)⟩)⟩)⟩)
set_option maxRecDepth 100000 in
set_option maxHeartbeats 4000000 in
theorem k_X12_sign : en_ckM (⟨"EvenStepsModel", "sign", "(JJJ)I"⟩, prog_14_method_5_code, 10, (some .int), p_X12_sign) = true := by decide +kernel
set_option maxRecDepth 100000 in
set_option maxHeartbeats 4000000 in
theorem n_X12_sign_0 : en_lkC "EvenStepsModel" false [(.lload_n 2, 1, 2, 0, [], 0, 0), (.lconst 0, 1, 0, 0, [], 0, 0), (.lcmp, 1, 0, 0, [], 0, 0), (.ifCond .ne 25, 3, 4, 0, [], 0, 0), (.lload_n 0, 1, 0, 0, [], 0, 0), (.lconst 0, 1, 0, 0, [], 0, 0), (.lcmp, 1, 0, 0, [], 0, 0), (.ifCond .le 7, 3, 1, 0, [], 0, 0), (.iconst 1, 1, 0, 0, [], 1, 0), (.goto 14, 3, 3, 0, [], 0, 0)] := ⟨trivial, ⟨trivial, ⟨trivial, ⟨trivial, ⟨trivial, ⟨trivial, ⟨trivial, ⟨trivial, ⟨trivial, ⟨trivial, trivial⟩⟩⟩⟩⟩⟩⟩⟩⟩⟩
set_option maxRecDepth 100000 in
set_option maxHeartbeats 4000000 in
theorem n_X12_sign_1 : en_lkC "EvenStepsModel" false [(.lload_n 0, 1, 0, 0, [], 0, 0), (.lconst 0, 1, 0, 0, [], 0, 0), (.lcmp, 1, 0, 0, [], 0, 0), (.ifCond .ge 7, 3, 2, 0, [], 0, 0), (.iconst (-1), 1, 0, 0, [], (-1), 0), (.goto 4, 3, 3, 0, [], 0, 0)] := ⟨trivial, ⟨trivial, ⟨trivial, ⟨trivial, ⟨trivial, ⟨trivial, trivial⟩⟩⟩⟩⟩⟩
set_option maxRecDepth 100000 in
set_option maxHeartbeats 4000000 in
theorem n_X12_sign_2 : en_lkC "EvenStepsModel" false [(.iconst 0, 1, 0, 0, [], 0, 0)] := ⟨trivial, trivial⟩
set_option maxRecDepth 100000 in
set_option maxHeartbeats 4000000 in
theorem n_X12_sign_3 : en_lkC "EvenStepsModel" false [(.ireturn, 1, 0, 0, [], 0, 0)] := ⟨trivial, trivial⟩
set_option maxRecDepth 100000 in
set_option maxHeartbeats 4000000 in
theorem n_X12_sign_4 : en_lkC "EvenStepsModel" false [(.lload_n 0, 1, 0, 0, [], 0, 0), (.lconst 0, 1, 0, 0, [], 0, 0), (.lcmp, 1, 0, 0, [], 0, 0), (.ifCond .lt 11, 3, 5, 0, [], 0, 0), (.lload_n 2, 1, 2, 0, [], 0, 0), (.lconst 0, 1, 0, 0, [], 0, 0), (.lcmp, 1, 0, 0, [], 0, 0), (.ifCond .le 5, 3, 5, 0, [], 0, 0), (.iconst 1, 1, 0, 0, [], 1, 0), (.ireturn, 1, 0, 0, [], 0, 0)] := ⟨trivial, ⟨trivial, ⟨trivial, ⟨trivial, ⟨trivial, ⟨trivial, ⟨trivial, ⟨trivial, ⟨trivial, ⟨trivial, trivial⟩⟩⟩⟩⟩⟩⟩⟩⟩⟩
set_option maxRecDepth 100000 in
set_option maxHeartbeats 4000000 in
theorem n_X12_sign_5 : en_lkC "EvenStepsModel" false [(.lload_n 0, 1, 0, 0, [], 0, 0), (.lconst 0, 1, 0, 0, [], 0, 0), (.lcmp, 1, 0, 0, [], 0, 0), (.ifCond .gt 11, 3, 6, 0, [], 0, 0), (.lload_n 2, 1, 2, 0, [], 0, 0), (.lconst 0, 1, 0, 0, [], 0, 0), (.lcmp, 1, 0, 0, [], 0, 0), (.ifCond .ge 5, 3, 6, 0, [], 0, 0), (.iconst (-1), 1, 0, 0, [], (-1), 0), (.ireturn, 1, 0, 0, [], 0, 0)] := ⟨trivial, ⟨trivial, ⟨trivial, ⟨trivial, ⟨trivial, ⟨trivial, ⟨trivial, ⟨trivial, ⟨trivial, ⟨trivial, trivial⟩⟩⟩⟩⟩⟩⟩⟩⟩⟩
set_option maxRecDepth 100000 in
set_option maxHeartbeats 4000000 in
theorem n_X12_sign_6 : en_lkC "EvenStepsModel" false [(.lload_n 0, 1, 0, 0, [], 0, 0), (.lload_n 0, 1, 0, 0, [], 0, 0), (.lmul, 1, 0, 0, [], 0, 0), (.lstore 6, 2, 6, 0, [], 0, 0), (.lload_n 2, 1, 2, 0, [], 0, 0), (.lload_n 2, 1, 2, 0, [], 0, 0), (.lmul, 1, 0, 0, [], 0, 0), (.lload 4, 2, 4, 0, [], 0, 0), (.lmul, 1, 0, 0, [], 0, 0), (.lstore 8, 2, 8, 0, [], 0, 0), (.lload 6, 2, 6, 0, [], 0, 0), (.lload 8, 2, 8, 0, [], 0, 0), (.lcmp, 1, 0, 0, [], 0, 0), (.ifCond .ne 5, 3, 7, 0, [], 0, 0), (.iconst 0, 1, 0, 0, [], 0, 0), (.ireturn, 1, 0, 0, [], 0, 0)] := ⟨trivial, ⟨trivial, ⟨trivial, ⟨trivial, ⟨trivial, ⟨trivial, ⟨trivial, ⟨trivial, ⟨trivial, ⟨trivial, ⟨trivial, ⟨trivial, ⟨trivial, ⟨trivial, ⟨trivial, ⟨trivial, trivial⟩⟩⟩⟩⟩⟩⟩⟩⟩⟩⟩⟩⟩⟩⟩⟩
set_option maxRecDepth 100000 in
set_option maxHeartbeats 4000000 in
theorem n_X12_sign_7 : en_lkC "EvenStepsModel" false [(.lload 6, 2, 6, 0, [], 0, 0), (.lload 8, 2, 8, 0, [], 0, 0), (.lcmp, 1, 0, 0, [], 0, 0), (.ifCond .le 7, 3, 8, 0, [], 0, 0), (.iconst 1, 1, 0, 0, [], 1, 0), (.goto 4, 3, 9, 0, [], 0, 0)] := ⟨trivial, ⟨trivial, ⟨trivial, ⟨trivial, ⟨trivial, ⟨trivial, trivial⟩⟩⟩⟩⟩⟩
set_option maxRecDepth 100000 in
set_option maxHeartbeats 4000000 in
theorem n_X12_sign_8 : en_lkC "EvenStepsModel" false [(.iconst 0, 1, 0, 0, [], 0, 0)] := ⟨trivial, trivial⟩
set_option maxRecDepth 100000 in
set_option maxHeartbeats 4000000 in
theorem n_X12_sign_9 : en_lkC "EvenStepsModel" false [(.lload_n 0, 1, 0, 0, [], 0, 0), (.lconst 0, 1, 0, 0, [], 0, 0), (.lcmp, 1, 0, 0, [], 0, 0), (.ifCond .le 7, 3, 10, 0, [], 0, 0), (.iconst 1, 1, 0, 0, [], 1, 0), (.goto 4, 3, 11, 0, [], 0, 0)] := ⟨trivial, ⟨trivial, ⟨trivial, ⟨trivial, ⟨trivial, ⟨trivial, trivial⟩⟩⟩⟩⟩⟩
set_option maxRecDepth 100000 in
set_option maxHeartbeats 4000000 in
theorem n_X12_sign_10 : en_lkC "EvenStepsModel" false [(.iconst 0, 1, 0, 0, [], 0, 0)] := ⟨trivial, trivial⟩
set_option maxRecDepth 100000 in
set_option maxHeartbeats 4000000 in
theorem n_X12_sign_11 : en_lkC "EvenStepsModel" false [(.if_icmp .ne 7, 3, 12, 0, [], 0, 0), (.iconst 1, 1, 0, 0, [], 1, 0), (.goto 4, 3, 13, 0, [], 0, 0)] := ⟨trivial, ⟨trivial, ⟨trivial, trivial⟩⟩⟩
set_option maxRecDepth 100000 in
set_option maxHeartbeats 4000000 in
theorem n_X12_sign_12 : en_lkC "EvenStepsModel" false [(.iconst (-1), 1, 0, 0, [], (-1), 0)] := ⟨trivial, trivial⟩
set_option maxRecDepth 100000 in
set_option maxHeartbeats 4000000 in
theorem n_X12_sign_13 : en_lkC "EvenStepsModel" false [(.ireturn, 1, 0, 0, [], 0, 0)] := ⟨trivial, trivial⟩
set_option maxRecDepth 100000 in
set_option maxHeartbeats 4000000 in
theorem n_X12_sign : en_lkM (⟨"EvenStepsModel", "sign", "(JJJ)I"⟩, prog_14_method_5_code, 10, (some .int), p_X12_sign) := (List.forall_mem_cons.mpr ⟨n_X12_sign_0, (List.forall_mem_cons.mpr ⟨n_X12_sign_1, (List.forall_mem_cons.mpr ⟨n_X12_sign_2, (List.forall_mem_cons.mpr ⟨n_X12_sign_3, (List.forall_mem_cons.mpr ⟨n_X12_sign_4, (List.forall_mem_cons.mpr ⟨n_X12_sign_5, (List.forall_mem_cons.mpr ⟨n_X12_sign_6, (List.forall_mem_cons.mpr ⟨n_X12_sign_7, (List.forall_mem_cons.mpr ⟨n_X12_sign_8, (List.forall_mem_cons.mpr ⟨n_X12_sign_9, (List.forall_mem_cons.mpr ⟨n_X12_sign_10, (List.forall_mem_cons.mpr ⟨n_X12_sign_11, (List.forall_mem_cons.mpr ⟨n_X12_sign_12, (List.forall_mem_cons.mpr ⟨n_X12_sign_13, (fun _ h => absurd h List.not_mem_nil)⟩)⟩)⟩)⟩)⟩)⟩)⟩)⟩)⟩)⟩)⟩)⟩)⟩)⟩)
set_option maxRecDepth 100000 in
set_option maxHeartbeats 4000000 in
theorem k_X12_side : en_ckM (⟨"EvenStepsModel", "side", "(IJJJ)I"⟩, prog_14_method_6_code, 8, (some .int), p_X12_side) = true := by decide +kernel
set_option maxRecDepth 100000 in
set_option maxHeartbeats 4000000 in
theorem n_X12_side_0 : en_lkC "EvenStepsModel" false [(.lload 6, 2, 6, 0, [], 0, 0), (.aload_n 0, 1, 0, 0, [], 0, 0), (.getfield 7, 3, 3, 2, [(11, 0)], 0, 0), (.iload_n 1, 1, 1, 0, [], 0, 0), (.iaload, 1, 0, 0, [], 0, 0), (.i2l, 1, 0, 0, [], 0, 0), (.lmul, 1, 0, 0, [], 0, 0), (.lload_n 2, 1, 2, 0, [], 0, 0), (.lmul, 1, 0, 0, [], 0, 0), (.lload 4, 2, 4, 0, [], 0, 0), (.aload_n 0, 1, 0, 0, [], 0, 0), (.getfield 16, 3, 5, 2, [(11, 0)], 0, 0), (.iload_n 1, 1, 1, 0, [], 0, 0), (.iaload, 1, 0, 0, [], 0, 0), (.i2l, 1, 0, 0, [], 0, 0), (.lmul, 1, 0, 0, [], 0, 0), (.lsub, 1, 0, 0, [], 0, 0), (.lload 6, 2, 6, 0, [], 0, 0), (.aload_n 0, 1, 0, 0, [], 0, 0), (.getfield 13, 3, 4, 2, [(11, 0)], 0, 0), (.iload_n 1, 1, 1, 0, [], 0, 0), (.iaload, 1, 0, 0, [], 0, 0), (.i2l, 1, 0, 0, [], 0, 0), (.lmul, 1, 0, 0, [], 0, 0), (.lload_n 2, 1, 2, 0, [], 0, 0), (.lmul, 1, 0, 0, [], 0, 0), (.aload_n 0, 1, 0, 0, [], 0, 0), (.getfield 19, 3, 6, 2, [(11, 0)], 0, 0), (.iload_n 1, 1, 1, 0, [], 0, 0), (.iaload, 1, 0, 0, [], 0, 0), (.i2l, 1, 0, 0, [], 0, 0), (.invokestatic 88, 3, 3, 0, [(0, 134)], 0, 0), (.ireturn, 1, 0, 0, [], 0, 0)] := ⟨trivial, ⟨trivial, ⟨lk_335, ⟨trivial, ⟨trivial, ⟨trivial, ⟨trivial, ⟨trivial, ⟨trivial, ⟨trivial, ⟨trivial, ⟨lk_336, ⟨trivial, ⟨trivial, ⟨trivial, ⟨trivial, ⟨trivial, ⟨trivial, ⟨trivial, ⟨lk_337, ⟨trivial, ⟨trivial, ⟨trivial, ⟨trivial, ⟨trivial, ⟨trivial, ⟨trivial, ⟨lk_338, ⟨trivial, ⟨trivial, ⟨trivial, ⟨lk_339, ⟨trivial, trivial⟩⟩⟩⟩⟩⟩⟩⟩⟩⟩⟩⟩⟩⟩⟩⟩⟩⟩⟩⟩⟩⟩⟩⟩⟩⟩⟩⟩⟩⟩⟩⟩⟩
set_option maxRecDepth 100000 in
set_option maxHeartbeats 4000000 in
theorem n_X12_side : en_lkM (⟨"EvenStepsModel", "side", "(IJJJ)I"⟩, prog_14_method_6_code, 8, (some .int), p_X12_side) := (List.forall_mem_cons.mpr ⟨n_X12_side_0, (fun _ h => absurd h List.not_mem_nil)⟩)
set_option maxRecDepth 100000 in
set_option maxHeartbeats 4000000 in
theorem k_X12_wholeOf : en_ckM (⟨"EvenStepsModel", "wholeOf", "(II)I"⟩, prog_14_method_7_code, 6, (some .int), p_X12_wholeOf) = true := by decide +kernel
set_option maxRecDepth 100000 in
set_option maxHeartbeats 4000000 in
theorem n_X12_wholeOf_0 : en_lkC "EvenStepsModel" false [(.iconst 0, 1, 0, 0, [], 0, 0), (.istore_n 3, 1, 3, 0, [], 0, 0), (.bipush 20, 2, 0, 0, [], 20, 0), (.iload_n 2, 1, 2, 0, [], 0, 0), (.imul, 1, 0, 0, [], 0, 0), (.istore 4, 2, 4, 0, [], 0, 0)] := ⟨trivial, ⟨trivial, ⟨trivial, ⟨trivial, ⟨trivial, ⟨trivial, trivial⟩⟩⟩⟩⟩⟩
set_option maxRecDepth 100000 in
set_option maxHeartbeats 4000000 in
theorem n_X12_wholeOf_1 : en_lkC "EvenStepsModel" false [(.iload_n 3, 1, 3, 0, [], 0, 0), (.iload 4, 2, 4, 0, [], 0, 0), (.if_icmp .ge 44, 3, 4, 0, [], 0, 0), (.iload_n 3, 1, 3, 0, [], 0, 0), (.iload 4, 2, 4, 0, [], 0, 0), (.iload_n 3, 1, 3, 0, [], 0, 0), (.isub, 1, 0, 0, [], 0, 0), (.iconst 1, 1, 0, 0, [], 1, 0), (.iadd, 1, 0, 0, [], 0, 0), (.iconst 2, 1, 0, 0, [], 2, 0), (.idiv, 1, 0, 0, [], 0, 0), (.iadd, 1, 0, 0, [], 0, 0), (.istore 5, 2, 5, 0, [], 0, 0), (.aload_n 0, 1, 0, 0, [], 0, 0), (.iload_n 1, 1, 1, 0, [], 0, 0), (.iload_n 2, 1, 2, 0, [], 0, 0), (.i2l, 1, 0, 0, [], 0, 0), (.iload 5, 2, 5, 0, [], 0, 0), (.i2l, 1, 0, 0, [], 0, 0), (.lconst 1, 1, 0, 0, [], 0, 1), (.invokevirtual 92, 3, 4, 0, [(11, 135)], 0, 0), (.ifCond .lt 9, 3, 2, 0, [], 0, 0), (.iload 5, 2, 5, 0, [], 0, 0), (.istore_n 3, 1, 3, 0, [], 0, 0), (.goto 9, 3, 3, 0, [], 0, 0)] := ⟨trivial, ⟨trivial, ⟨trivial, ⟨trivial, ⟨trivial, ⟨trivial, ⟨trivial, ⟨trivial, ⟨trivial, ⟨trivial, ⟨trivial, ⟨trivial, ⟨trivial, ⟨trivial, ⟨trivial, ⟨trivial, ⟨trivial, ⟨trivial, ⟨trivial, ⟨trivial, ⟨lk_340, ⟨trivial, ⟨trivial, ⟨trivial, ⟨trivial, trivial⟩⟩⟩⟩⟩⟩⟩⟩⟩⟩⟩⟩⟩⟩⟩⟩⟩⟩⟩⟩⟩⟩⟩⟩⟩
set_option maxRecDepth 100000 in
set_option maxHeartbeats 4000000 in
theorem n_X12_wholeOf_2 : en_lkC "EvenStepsModel" false [(.iload 5, 2, 5, 0, [], 0, 0), (.iconst 1, 1, 0, 0, [], 1, 0), (.isub, 1, 0, 0, [], 0, 0), (.istore 4, 2, 4, 0, [], 0, 0)] := ⟨trivial, ⟨trivial, ⟨trivial, ⟨trivial, trivial⟩⟩⟩⟩
set_option maxRecDepth 100000 in
set_option maxHeartbeats 4000000 in
theorem n_X12_wholeOf_3 : en_lkC "EvenStepsModel" false [(.goto (-44), 3, 1, 0, [], 0, 0)] := ⟨trivial, trivial⟩
set_option maxRecDepth 100000 in
set_option maxHeartbeats 4000000 in
theorem n_X12_wholeOf_4 : en_lkC "EvenStepsModel" false [(.iload_n 3, 1, 3, 0, [], 0, 0), (.ireturn, 1, 0, 0, [], 0, 0)] := ⟨trivial, ⟨trivial, trivial⟩⟩
set_option maxRecDepth 100000 in
set_option maxHeartbeats 4000000 in
theorem n_X12_wholeOf : en_lkM (⟨"EvenStepsModel", "wholeOf", "(II)I"⟩, prog_14_method_7_code, 6, (some .int), p_X12_wholeOf) := (List.forall_mem_cons.mpr ⟨n_X12_wholeOf_0, (List.forall_mem_cons.mpr ⟨n_X12_wholeOf_1, (List.forall_mem_cons.mpr ⟨n_X12_wholeOf_2, (List.forall_mem_cons.mpr ⟨n_X12_wholeOf_3, (List.forall_mem_cons.mpr ⟨n_X12_wholeOf_4, (fun _ h => absurd h List.not_mem_nil)⟩)⟩)⟩)⟩)⟩)
set_option maxRecDepth 100000 in
set_option maxHeartbeats 4000000 in
theorem k_X12_isSlope : en_ckM (⟨"EvenStepsModel", "isSlope", "(I)Z"⟩, prog_14_method_8_code, 2, (some .boolean), p_X12_isSlope) = true := by decide +kernel
set_option maxRecDepth 100000 in
set_option maxHeartbeats 4000000 in
theorem n_X12_isSlope_0 : en_lkC "EvenStepsModel" false [(.iload_n 1, 1, 1, 0, [], 0, 0), (.iconst 0, 1, 0, 0, [], 0, 0), (.aload_n 0, 1, 0, 0, [], 0, 0), (.getfield 96, 3, 0, 0, [(11, 0)], 0, 0), (.iconst 1, 1, 0, 0, [], 1, 0), (.isub, 1, 0, 0, [], 0, 0), (.invokestatic 99, 3, 3, 3, [(0, 133)], 0, 0), (.ireturn, 1, 0, 3, [], 0, 0)] := ⟨trivial, ⟨trivial, ⟨trivial, ⟨lk_341, ⟨trivial, ⟨trivial, ⟨lk_342, ⟨trivial, trivial⟩⟩⟩⟩⟩⟩⟩⟩
set_option maxRecDepth 100000 in
set_option maxHeartbeats 4000000 in
theorem n_X12_isSlope : en_lkM (⟨"EvenStepsModel", "isSlope", "(I)Z"⟩, prog_14_method_8_code, 2, (some .boolean), p_X12_isSlope) := (List.forall_mem_cons.mpr ⟨n_X12_isSlope_0, (fun _ h => absurd h List.not_mem_nil)⟩)
set_option maxRecDepth 100000 in
set_option maxHeartbeats 4000000 in
theorem k_X12_isSquare : en_ckM (⟨"EvenStepsModel", "isSquare", "(I)Z"⟩, prog_14_method_9_code, 2, (some .boolean), p_X12_isSquare) = true := by decide +kernel
set_option maxRecDepth 100000 in
set_option maxHeartbeats 4000000 in
theorem n_X12_isSquare_0 : en_lkC "EvenStepsModel" false [(.iconst 1, 1, 0, 0, [], 1, 0), (.istore_n 1, 1, 1, 0, [], 0, 0)] := ⟨trivial, ⟨trivial, trivial⟩⟩
set_option maxRecDepth 100000 in
set_option maxHeartbeats 4000000 in
theorem n_X12_isSquare_1 : en_lkC "EvenStepsModel" false [(.iload_n 1, 1, 1, 0, [], 0, 0), (.iload_n 1, 1, 1, 0, [], 0, 0), (.imul, 1, 0, 0, [], 0, 0), (.iload_n 0, 1, 0, 0, [], 0, 0), (.if_icmp .gt 18, 3, 3, 0, [], 0, 0), (.iload_n 1, 1, 1, 0, [], 0, 0), (.iload_n 1, 1, 1, 0, [], 0, 0), (.imul, 1, 0, 0, [], 0, 0), (.iload_n 0, 1, 0, 0, [], 0, 0), (.if_icmp .ne 5, 3, 2, 0, [], 0, 0), (.iconst 1, 1, 0, 0, [], 1, 0), (.ireturn, 1, 0, 3, [], 0, 0)] := ⟨trivial, ⟨trivial, ⟨trivial, ⟨trivial, ⟨trivial, ⟨trivial, ⟨trivial, ⟨trivial, ⟨trivial, ⟨trivial, ⟨trivial, ⟨trivial, trivial⟩⟩⟩⟩⟩⟩⟩⟩⟩⟩⟩⟩
set_option maxRecDepth 100000 in
set_option maxHeartbeats 4000000 in
theorem n_X12_isSquare_2 : en_lkC "EvenStepsModel" false [(.iinc 1 1, 3, 1, 0, [], 1, 0), (.goto (-19), 3, 1, 0, [], 0, 0)] := ⟨trivial, ⟨trivial, trivial⟩⟩
set_option maxRecDepth 100000 in
set_option maxHeartbeats 4000000 in
theorem n_X12_isSquare_3 : en_lkC "EvenStepsModel" false [(.iconst 0, 1, 0, 0, [], 0, 0), (.ireturn, 1, 0, 3, [], 0, 0)] := ⟨trivial, ⟨trivial, trivial⟩⟩
set_option maxRecDepth 100000 in
set_option maxHeartbeats 4000000 in
theorem n_X12_isSquare : en_lkM (⟨"EvenStepsModel", "isSquare", "(I)Z"⟩, prog_14_method_9_code, 2, (some .boolean), p_X12_isSquare) := (List.forall_mem_cons.mpr ⟨n_X12_isSquare_0, (List.forall_mem_cons.mpr ⟨n_X12_isSquare_1, (List.forall_mem_cons.mpr ⟨n_X12_isSquare_2, (List.forall_mem_cons.mpr ⟨n_X12_isSquare_3, (fun _ h => absurd h List.not_mem_nil)⟩)⟩)⟩)⟩)
set_option maxRecDepth 100000 in
set_option maxHeartbeats 4000000 in
theorem k_X12_slope : en_ckM (⟨"EvenStepsModel", "slope", "(IIII)I"⟩, prog_14_method_10_code, 6, (some .int), p_X12_slope) = true := by decide +kernel
set_option maxRecDepth 100000 in
set_option maxHeartbeats 4000000 in
theorem n_X12_slope_0 : en_lkC "EvenStepsModel" false [(.iload_n 1, 1, 1, 0, [], 0, 0), (.sipush (-1000), 3, 0, 0, [], (-1000), 0), (.sipush 1000, 3, 0, 0, [], 1000, 0), (.invokestatic 99, 3, 3, 3, [(0, 133)], 0, 0), (.ifCond .eq 24, 3, 1, 0, [], 0, 0), (.iload_n 2, 1, 2, 0, [], 0, 0), (.bipush (-20), 2, 0, 0, [], (-20), 0), (.bipush 20, 2, 0, 0, [], 20, 0), (.invokestatic 99, 3, 3, 3, [(0, 133)], 0, 0), (.ifCond .eq 13, 3, 1, 0, [], 0, 0), (.iload_n 3, 1, 3, 0, [], 0, 0), (.iconst 1, 1, 0, 0, [], 1, 0), (.bipush 100, 2, 0, 0, [], 100, 0), (.invokestatic 99, 3, 3, 3, [(0, 133)], 0, 0), (.ifCond .ne 9, 3, 2, 0, [], 0, 0)] := ⟨trivial, ⟨trivial, ⟨trivial, ⟨lk_342, ⟨trivial, ⟨trivial, ⟨trivial, ⟨trivial, ⟨lk_342, ⟨trivial, ⟨trivial, ⟨trivial, ⟨trivial, ⟨lk_342, ⟨trivial, trivial⟩⟩⟩⟩⟩⟩⟩⟩⟩⟩⟩⟩⟩⟩⟩
set_option maxRecDepth 100000 in
set_option maxHeartbeats 4000000 in
theorem n_X12_slope_1 : en_lkC "EvenStepsModel" false [(.aload_n 0, 1, 0, 0, [], 0, 0), (.iconst 1, 1, 0, 0, [], 1, 0), (.invokevirtual 103, 3, 1, 0, [(11, 131)], 0, 0), (.ireturn, 1, 0, 0, [], 0, 0)] := ⟨trivial, ⟨trivial, ⟨lk_343, ⟨trivial, trivial⟩⟩⟩⟩
set_option maxRecDepth 100000 in
set_option maxHeartbeats 4000000 in
theorem n_X12_slope_2 : en_lkC "EvenStepsModel" false [(.iload_n 2, 1, 2, 0, [], 0, 0), (.ifCond .eq 28, 3, 4, 0, [], 0, 0), (.iload 4, 2, 4, 0, [], 0, 0), (.iconst 2, 1, 0, 0, [], 2, 0), (.bipush 50, 2, 0, 0, [], 50, 0), (.invokestatic 99, 3, 3, 3, [(0, 133)], 0, 0), (.ifCond .eq 11, 3, 3, 0, [], 0, 0), (.iload 4, 2, 4, 0, [], 0, 0), (.invokestatic 107, 3, 1, 3, [(0, 138)], 0, 0), (.ifCond .eq 9, 3, 4, 0, [], 0, 0)] := ⟨trivial, ⟨trivial, ⟨trivial, ⟨trivial, ⟨trivial, ⟨lk_342, ⟨trivial, ⟨trivial, ⟨lk_344, ⟨trivial, trivial⟩⟩⟩⟩⟩⟩⟩⟩⟩⟩
set_option maxRecDepth 100000 in
set_option maxHeartbeats 4000000 in
theorem n_X12_slope_3 : en_lkC "EvenStepsModel" false [(.aload_n 0, 1, 0, 0, [], 0, 0), (.iconst 1, 1, 0, 0, [], 1, 0), (.invokevirtual 103, 3, 1, 0, [(11, 131)], 0, 0), (.ireturn, 1, 0, 0, [], 0, 0)] := ⟨trivial, ⟨trivial, ⟨lk_343, ⟨trivial, trivial⟩⟩⟩⟩
set_option maxRecDepth 100000 in
set_option maxHeartbeats 4000000 in
theorem n_X12_slope_4 : en_lkC "EvenStepsModel" false [(.aload_n 0, 1, 0, 0, [], 0, 0), (.getfield 96, 3, 0, 0, [(11, 0)], 0, 0), (.bipush 8, 2, 0, 0, [], 8, 0), (.if_icmp .ne 9, 3, 5, 0, [], 0, 0), (.aload_n 0, 1, 0, 0, [], 0, 0), (.iconst 2, 1, 0, 0, [], 2, 0), (.invokevirtual 103, 3, 1, 0, [(11, 131)], 0, 0), (.ireturn, 1, 0, 0, [], 0, 0)] := ⟨trivial, ⟨lk_341, ⟨trivial, ⟨trivial, ⟨trivial, ⟨trivial, ⟨lk_343, ⟨trivial, trivial⟩⟩⟩⟩⟩⟩⟩⟩
set_option maxRecDepth 100000 in
set_option maxHeartbeats 4000000 in
theorem n_X12_slope_5 : en_lkC "EvenStepsModel" false [(.iload_n 2, 1, 2, 0, [], 0, 0), (.ifCond .ne 7, 3, 6, 0, [], 0, 0), (.iconst 2, 1, 0, 0, [], 2, 0), (.goto 5, 3, 7, 0, [], 0, 0)] := ⟨trivial, ⟨trivial, ⟨trivial, ⟨trivial, trivial⟩⟩⟩⟩
set_option maxRecDepth 100000 in
set_option maxHeartbeats 4000000 in
theorem n_X12_slope_6 : en_lkC "EvenStepsModel" false [(.iload 4, 2, 4, 0, [], 0, 0)] := ⟨trivial, trivial⟩
set_option maxRecDepth 100000 in
set_option maxHeartbeats 4000000 in
theorem n_X12_slope_7 : en_lkC "EvenStepsModel" false [(.istore 5, 2, 5, 0, [], 0, 0), (.iload_n 1, 1, 1, 0, [], 0, 0), (.i2l, 1, 0, 0, [], 0, 0), (.iload_n 2, 1, 2, 0, [], 0, 0), (.i2l, 1, 0, 0, [], 0, 0), (.iload 5, 2, 5, 0, [], 0, 0), (.i2l, 1, 0, 0, [], 0, 0), (.invokestatic 88, 3, 3, 0, [(0, 134)], 0, 0), (.ifCond .le 21, 3, 8, 0, [], 0, 0), (.iload_n 1, 1, 1, 0, [], 0, 0), (.bipush 20, 2, 0, 0, [], 20, 0), (.iload_n 3, 1, 3, 0, [], 0, 0), (.imul, 1, 0, 0, [], 0, 0), (.isub, 1, 0, 0, [], 0, 0), (.i2l, 1, 0, 0, [], 0, 0), (.iload_n 2, 1, 2, 0, [], 0, 0), (.i2l, 1, 0, 0, [], 0, 0), (.iload 5, 2, 5, 0, [], 0, 0), (.i2l, 1, 0, 0, [], 0, 0), (.invokestatic 88, 3, 3, 0, [(0, 134)], 0, 0), (.ifCond .le 9, 3, 9, 0, [], 0, 0)] := ⟨trivial, ⟨trivial, ⟨trivial, ⟨trivial, ⟨trivial, ⟨trivial, ⟨trivial, ⟨lk_339, ⟨trivial, ⟨trivial, ⟨trivial, ⟨trivial, ⟨trivial, ⟨trivial, ⟨trivial, ⟨trivial, ⟨trivial, ⟨trivial, ⟨trivial, ⟨lk_339, ⟨trivial, trivial⟩⟩⟩⟩⟩⟩⟩⟩⟩⟩⟩⟩⟩⟩⟩⟩⟩⟩⟩⟩⟩
set_option maxRecDepth 100000 in
set_option maxHeartbeats 4000000 in
theorem n_X12_slope_8 : en_lkC "EvenStepsModel" false [(.aload_n 0, 1, 0, 0, [], 0, 0), (.iconst 3, 1, 0, 0, [], 3, 0), (.invokevirtual 103, 3, 1, 0, [(11, 131)], 0, 0), (.ireturn, 1, 0, 0, [], 0, 0)] := ⟨trivial, ⟨trivial, ⟨lk_343, ⟨trivial, trivial⟩⟩⟩⟩
set_option maxRecDepth 100000 in
set_option maxHeartbeats 4000000 in
theorem n_X12_slope_9 : en_lkC "EvenStepsModel" false [(.aload_n 0, 1, 0, 0, [], 0, 0), (.getfield 7, 3, 3, 2, [(11, 0)], 0, 0), (.aload_n 0, 1, 0, 0, [], 0, 0), (.getfield 96, 3, 0, 0, [(11, 0)], 0, 0), (.iload_n 1, 1, 1, 0, [], 0, 0), (.iastore, 1, 0, 0, [], 0, 0), (.aload_n 0, 1, 0, 0, [], 0, 0), (.getfield 13, 3, 4, 2, [(11, 0)], 0, 0), (.aload_n 0, 1, 0, 0, [], 0, 0), (.getfield 96, 3, 0, 0, [(11, 0)], 0, 0), (.iload_n 2, 1, 2, 0, [], 0, 0), (.iastore, 1, 0, 0, [], 0, 0), (.aload_n 0, 1, 0, 0, [], 0, 0), (.getfield 16, 3, 5, 2, [(11, 0)], 0, 0), (.aload_n 0, 1, 0, 0, [], 0, 0), (.getfield 96, 3, 0, 0, [(11, 0)], 0, 0), (.iload_n 3, 1, 3, 0, [], 0, 0), (.iastore, 1, 0, 0, [], 0, 0), (.aload_n 0, 1, 0, 0, [], 0, 0), (.getfield 19, 3, 6, 2, [(11, 0)], 0, 0), (.aload_n 0, 1, 0, 0, [], 0, 0), (.getfield 96, 3, 0, 0, [(11, 0)], 0, 0), (.iload 5, 2, 5, 0, [], 0, 0), (.iastore, 1, 0, 0, [], 0, 0), (.aload_n 0, 1, 0, 0, [], 0, 0), (.aload_n 0, 1, 0, 0, [], 0, 0), (.dup, 1, 0, 0, [], 0, 0), (.getfield 96, 3, 0, 0, [(11, 0)], 0, 0), (.dup_x1, 1, 0, 0, [], 0, 0), (.iconst 1, 1, 0, 0, [], 1, 0), (.iadd, 1, 0, 0, [], 0, 0), (.putfield 96, 3, 0, 0, [(11, 0)], 0, 0), (.invokevirtual 111, 3, 1, 0, [(11, 132)], 0, 0), (.ireturn, 1, 0, 0, [], 0, 0)] := ⟨trivial, ⟨lk_335, ⟨trivial, ⟨lk_341, ⟨trivial, ⟨trivial, ⟨trivial, ⟨lk_337, ⟨trivial, ⟨lk_341, ⟨trivial, ⟨trivial, ⟨trivial, ⟨lk_336, ⟨trivial, ⟨lk_341, ⟨trivial, ⟨trivial, ⟨trivial, ⟨lk_338, ⟨trivial, ⟨lk_341, ⟨trivial, ⟨trivial, ⟨trivial, ⟨trivial, ⟨trivial, ⟨lk_341, ⟨trivial, ⟨trivial, ⟨trivial, ⟨lk_345, ⟨lk_346, ⟨trivial, trivial⟩⟩⟩⟩⟩⟩⟩⟩⟩⟩⟩⟩⟩⟩⟩⟩⟩⟩⟩⟩⟩⟩⟩⟩⟩⟩⟩⟩⟩⟩⟩⟩⟩⟩
set_option maxRecDepth 100000 in
set_option maxHeartbeats 4000000 in
theorem n_X12_slope : en_lkM (⟨"EvenStepsModel", "slope", "(IIII)I"⟩, prog_14_method_10_code, 6, (some .int), p_X12_slope) := (List.forall_mem_cons.mpr ⟨n_X12_slope_0, (List.forall_mem_cons.mpr ⟨n_X12_slope_1, (List.forall_mem_cons.mpr ⟨n_X12_slope_2, (List.forall_mem_cons.mpr ⟨n_X12_slope_3, (List.forall_mem_cons.mpr ⟨n_X12_slope_4, (List.forall_mem_cons.mpr ⟨n_X12_slope_5, (List.forall_mem_cons.mpr ⟨n_X12_slope_6, (List.forall_mem_cons.mpr ⟨n_X12_slope_7, (List.forall_mem_cons.mpr ⟨n_X12_slope_8, (List.forall_mem_cons.mpr ⟨n_X12_slope_9, (fun _ h => absurd h List.not_mem_nil)⟩)⟩)⟩)⟩)⟩)⟩)⟩)⟩)⟩)⟩)
set_option maxRecDepth 100000 in
set_option maxHeartbeats 4000000 in
theorem k_X12_whole : en_ckM (⟨"EvenStepsModel", "whole", "(II)I"⟩, prog_14_method_11_code, 3, (some .int), p_X12_whole) = true := by decide +kernel
set_option maxRecDepth 100000 in
set_option maxHeartbeats 4000000 in
theorem n_X12_whole_0 : en_lkC "EvenStepsModel" false [(.aload_n 0, 1, 0, 0, [], 0, 0), (.iload_n 1, 1, 1, 0, [], 0, 0), (.invokevirtual 114, 3, 1, 3, [(11, 137)], 0, 0), (.ifCond .eq 13, 3, 1, 0, [], 0, 0), (.iload_n 2, 1, 2, 0, [], 0, 0), (.iconst 0, 1, 0, 0, [], 0, 0), (.ldc 117, 2, 0, 0, [], 100000, 0), (.invokestatic 99, 3, 3, 3, [(0, 133)], 0, 0), (.ifCond .ne 5, 3, 2, 0, [], 0, 0)] := ⟨trivial, ⟨trivial, ⟨lk_347, ⟨trivial, ⟨trivial, ⟨trivial, ⟨wd_1076, ⟨lk_342, ⟨trivial, trivial⟩⟩⟩⟩⟩⟩⟩⟩⟩
set_option maxRecDepth 100000 in
set_option maxHeartbeats 4000000 in
theorem n_X12_whole_1 : en_lkC "EvenStepsModel" false [(.iconst (-1), 1, 0, 0, [], (-1), 0), (.ireturn, 1, 0, 0, [], 0, 0)] := ⟨trivial, ⟨trivial, trivial⟩⟩
set_option maxRecDepth 100000 in
set_option maxHeartbeats 4000000 in
theorem n_X12_whole_2 : en_lkC "EvenStepsModel" false [(.aload_n 0, 1, 0, 0, [], 0, 0), (.iload_n 1, 1, 1, 0, [], 0, 0), (.iload_n 2, 1, 2, 0, [], 0, 0), (.invokevirtual 118, 3, 2, 0, [(11, 136)], 0, 0), (.ireturn, 1, 0, 0, [], 0, 0)] := ⟨trivial, ⟨trivial, ⟨trivial, ⟨lk_349, ⟨trivial, trivial⟩⟩⟩⟩⟩
set_option maxRecDepth 100000 in
set_option maxHeartbeats 4000000 in
theorem n_X12_whole : en_lkM (⟨"EvenStepsModel", "whole", "(II)I"⟩, prog_14_method_11_code, 3, (some .int), p_X12_whole) := (List.forall_mem_cons.mpr ⟨n_X12_whole_0, (List.forall_mem_cons.mpr ⟨n_X12_whole_1, (List.forall_mem_cons.mpr ⟨n_X12_whole_2, (fun _ h => absurd h List.not_mem_nil)⟩)⟩)⟩)
set_option maxRecDepth 100000 in
set_option maxHeartbeats 4000000 in
theorem k_X12_against : en_ckM (⟨"EvenStepsModel", "against", "(III)I"⟩, prog_14_method_12_code, 4, (some .int), p_X12_against) = true := by decide +kernel
set_option maxRecDepth 100000 in
set_option maxHeartbeats 4000000 in
theorem n_X12_against_0 : en_lkC "EvenStepsModel" false [(.aload_n 0, 1, 0, 0, [], 0, 0), (.iload_n 1, 1, 1, 0, [], 0, 0), (.invokevirtual 114, 3, 1, 3, [(11, 137)], 0, 0), (.ifCond .eq 24, 3, 1, 0, [], 0, 0), (.iload_n 3, 1, 3, 0, [], 0, 0), (.iconst 1, 1, 0, 0, [], 1, 0), (.sipush 10000, 3, 0, 0, [], 10000, 0), (.invokestatic 99, 3, 3, 3, [(0, 133)], 0, 0), (.ifCond .eq 13, 3, 1, 0, [], 0, 0), (.iload_n 2, 1, 2, 0, [], 0, 0), (.iconst 0, 1, 0, 0, [], 0, 0), (.ldc 122, 2, 0, 0, [], 200000, 0), (.invokestatic 99, 3, 3, 3, [(0, 133)], 0, 0), (.ifCond .ne 6, 3, 2, 0, [], 0, 0)] := ⟨trivial, ⟨trivial, ⟨lk_347, ⟨trivial, ⟨trivial, ⟨trivial, ⟨trivial, ⟨lk_342, ⟨trivial, ⟨trivial, ⟨trivial, ⟨wd_1089, ⟨lk_342, ⟨trivial, trivial⟩⟩⟩⟩⟩⟩⟩⟩⟩⟩⟩⟩⟩⟩
set_option maxRecDepth 100000 in
set_option maxHeartbeats 4000000 in
theorem n_X12_against_1 : en_lkC "EvenStepsModel" false [(.ldc 123, 2, 0, 0, [], (-1000000), 0), (.ireturn, 1, 0, 0, [], 0, 0)] := ⟨wd_1090, ⟨trivial, trivial⟩⟩
set_option maxRecDepth 100000 in
set_option maxHeartbeats 4000000 in
theorem n_X12_against_2 : en_lkC "EvenStepsModel" false [(.aload_n 0, 1, 0, 0, [], 0, 0), (.iload_n 1, 1, 1, 0, [], 0, 0), (.lconst 1, 1, 0, 0, [], 0, 1), (.iload_n 2, 1, 2, 0, [], 0, 0), (.i2l, 1, 0, 0, [], 0, 0), (.iload_n 3, 1, 3, 0, [], 0, 0), (.i2l, 1, 0, 0, [], 0, 0), (.invokevirtual 92, 3, 4, 0, [(11, 135)], 0, 0), (.ireturn, 1, 0, 0, [], 0, 0)] := ⟨trivial, ⟨trivial, ⟨trivial, ⟨trivial, ⟨trivial, ⟨trivial, ⟨trivial, ⟨lk_340, ⟨trivial, trivial⟩⟩⟩⟩⟩⟩⟩⟩⟩
set_option maxRecDepth 100000 in
set_option maxHeartbeats 4000000 in
theorem n_X12_against : en_lkM (⟨"EvenStepsModel", "against", "(III)I"⟩, prog_14_method_12_code, 4, (some .int), p_X12_against) := (List.forall_mem_cons.mpr ⟨n_X12_against_0, (List.forall_mem_cons.mpr ⟨n_X12_against_1, (List.forall_mem_cons.mpr ⟨n_X12_against_2, (fun _ h => absurd h List.not_mem_nil)⟩)⟩)⟩)
set_option maxRecDepth 100000 in
set_option maxHeartbeats 4000000 in
theorem k_X12_common : en_ckM (⟨"EvenStepsModel", "common", "(JJ)J"⟩, prog_14_method_13_code, 10, (some .long), p_X12_common) = true := by decide +kernel
set_option maxRecDepth 100000 in
set_option maxHeartbeats 4000000 in
theorem n_X12_common_0 : en_lkC "EvenStepsModel" false [(.lload_n 0, 1, 0, 0, [], 0, 0), (.lconst 0, 1, 0, 0, [], 0, 0), (.lcmp, 1, 0, 0, [], 0, 0), (.ifCond .ge 8, 3, 1, 0, [], 0, 0), (.lload_n 0, 1, 0, 0, [], 0, 0), (.lneg, 1, 0, 0, [], 0, 0), (.goto 4, 3, 2, 0, [], 0, 0)] := ⟨trivial, ⟨trivial, ⟨trivial, ⟨trivial, ⟨trivial, ⟨trivial, ⟨trivial, trivial⟩⟩⟩⟩⟩⟩⟩
set_option maxRecDepth 100000 in
set_option maxHeartbeats 4000000 in
theorem n_X12_common_1 : en_lkC "EvenStepsModel" false [(.lload_n 0, 1, 0, 0, [], 0, 0)] := ⟨trivial, trivial⟩
set_option maxRecDepth 100000 in
set_option maxHeartbeats 4000000 in
theorem n_X12_common_2 : en_lkC "EvenStepsModel" false [(.lstore 4, 2, 4, 0, [], 0, 0), (.lload_n 2, 1, 2, 0, [], 0, 0), (.lconst 0, 1, 0, 0, [], 0, 0), (.lcmp, 1, 0, 0, [], 0, 0), (.ifCond .ge 8, 3, 3, 0, [], 0, 0), (.lload_n 2, 1, 2, 0, [], 0, 0), (.lneg, 1, 0, 0, [], 0, 0), (.goto 4, 3, 4, 0, [], 0, 0)] := ⟨trivial, ⟨trivial, ⟨trivial, ⟨trivial, ⟨trivial, ⟨trivial, ⟨trivial, ⟨trivial, trivial⟩⟩⟩⟩⟩⟩⟩⟩
set_option maxRecDepth 100000 in
set_option maxHeartbeats 4000000 in
theorem n_X12_common_3 : en_lkC "EvenStepsModel" false [(.lload_n 2, 1, 2, 0, [], 0, 0)] := ⟨trivial, trivial⟩
set_option maxRecDepth 100000 in
set_option maxHeartbeats 4000000 in
theorem n_X12_common_4 : en_lkC "EvenStepsModel" false [(.lstore 6, 2, 6, 0, [], 0, 0)] := ⟨trivial, trivial⟩
set_option maxRecDepth 100000 in
set_option maxHeartbeats 4000000 in
theorem n_X12_common_5 : en_lkC "EvenStepsModel" false [(.lload 6, 2, 6, 0, [], 0, 0), (.lconst 0, 1, 0, 0, [], 0, 0), (.lcmp, 1, 0, 0, [], 0, 0), (.ifCond .eq 21, 3, 6, 0, [], 0, 0), (.lload 4, 2, 4, 0, [], 0, 0), (.lload 6, 2, 6, 0, [], 0, 0), (.lrem, 1, 0, 0, [], 0, 0), (.lstore 8, 2, 8, 0, [], 0, 0), (.lload 6, 2, 6, 0, [], 0, 0), (.lstore 4, 2, 4, 0, [], 0, 0), (.lload 8, 2, 8, 0, [], 0, 0), (.lstore 6, 2, 6, 0, [], 0, 0), (.goto (-22), 3, 5, 0, [], 0, 0)] := ⟨trivial, ⟨trivial, ⟨trivial, ⟨trivial, ⟨trivial, ⟨trivial, ⟨trivial, ⟨trivial, ⟨trivial, ⟨trivial, ⟨trivial, ⟨trivial, ⟨trivial, trivial⟩⟩⟩⟩⟩⟩⟩⟩⟩⟩⟩⟩⟩
set_option maxRecDepth 100000 in
set_option maxHeartbeats 4000000 in
theorem n_X12_common_6 : en_lkC "EvenStepsModel" false [(.lload 4, 2, 4, 0, [], 0, 0), (.lreturn, 1, 0, 0, [], 0, 0)] := ⟨trivial, ⟨trivial, trivial⟩⟩
set_option maxRecDepth 100000 in
set_option maxHeartbeats 4000000 in
theorem n_X12_common : en_lkM (⟨"EvenStepsModel", "common", "(JJ)J"⟩, prog_14_method_13_code, 10, (some .long), p_X12_common) := (List.forall_mem_cons.mpr ⟨n_X12_common_0, (List.forall_mem_cons.mpr ⟨n_X12_common_1, (List.forall_mem_cons.mpr ⟨n_X12_common_2, (List.forall_mem_cons.mpr ⟨n_X12_common_3, (List.forall_mem_cons.mpr ⟨n_X12_common_4, (List.forall_mem_cons.mpr ⟨n_X12_common_5, (List.forall_mem_cons.mpr ⟨n_X12_common_6, (fun _ h => absurd h List.not_mem_nil)⟩)⟩)⟩)⟩)⟩)⟩)⟩)
set_option maxRecDepth 100000 in
set_option maxHeartbeats 4000000 in
theorem k_X12_floorOf : en_ckM (⟨"EvenStepsModel", "floorOf", "(JJJJ)J"⟩, prog_14_method_14_code, 14, (some .long), p_X12_floorOf) = true := by decide +kernel
set_option maxRecDepth 100000 in
set_option maxHeartbeats 4000000 in
theorem n_X12_floorOf_0 : en_lkC "EvenStepsModel" false [(.lconst 1, 1, 0, 0, [], 0, 1), (.lstore 8, 2, 8, 0, [], 0, 0)] := ⟨trivial, ⟨trivial, trivial⟩⟩
set_option maxRecDepth 100000 in
set_option maxHeartbeats 4000000 in
theorem n_X12_floorOf_1 : en_lkC "EvenStepsModel" false [(.lload_n 0, 1, 0, 0, [], 0, 0), (.lload 8, 2, 8, 0, [], 0, 0), (.lload 4, 2, 4, 0, [], 0, 0), (.lmul, 1, 0, 0, [], 0, 0), (.lsub, 1, 0, 0, [], 0, 0), (.lload_n 2, 1, 2, 0, [], 0, 0), (.lload 6, 2, 6, 0, [], 0, 0), (.invokestatic 88, 3, 3, 0, [(0, 134)], 0, 0), (.ifCond .lt 14, 3, 2, 0, [], 0, 0), (.ldc2_w 124, 3, 0, 0, [], 0, 2), (.lload 8, 2, 8, 0, [], 0, 0), (.lmul, 1, 0, 0, [], 0, 0), (.lstore 8, 2, 8, 0, [], 0, 0), (.goto (-24), 3, 1, 0, [], 0, 0)] := ⟨trivial, ⟨trivial, ⟨trivial, ⟨trivial, ⟨trivial, ⟨trivial, ⟨trivial, ⟨lk_339, ⟨trivial, ⟨wd_1102, ⟨trivial, ⟨trivial, ⟨trivial, ⟨trivial, trivial⟩⟩⟩⟩⟩⟩⟩⟩⟩⟩⟩⟩⟩⟩
set_option maxRecDepth 100000 in
set_option maxHeartbeats 4000000 in
theorem n_X12_floorOf_2 : en_lkC "EvenStepsModel" false [(.lconst 0, 1, 0, 0, [], 0, 0), (.lstore 10, 2, 10, 0, [], 0, 0)] := ⟨trivial, ⟨trivial, trivial⟩⟩
set_option maxRecDepth 100000 in
set_option maxHeartbeats 4000000 in
theorem n_X12_floorOf_3 : en_lkC "EvenStepsModel" false [(.lload 10, 2, 10, 0, [], 0, 0), (.lconst 1, 1, 0, 0, [], 0, 1), (.ladd, 1, 0, 0, [], 0, 0), (.lload 8, 2, 8, 0, [], 0, 0), (.lcmp, 1, 0, 0, [], 0, 0), (.ifCond .ge 44, 3, 6, 0, [], 0, 0), (.lload 10, 2, 10, 0, [], 0, 0), (.lload 8, 2, 8, 0, [], 0, 0), (.ladd, 1, 0, 0, [], 0, 0), (.ldc2_w 124, 3, 0, 0, [], 0, 2), (.ldiv, 1, 0, 0, [], 0, 0), (.lstore 12, 2, 12, 0, [], 0, 0), (.lload_n 0, 1, 0, 0, [], 0, 0), (.lload 12, 2, 12, 0, [], 0, 0), (.lload 4, 2, 4, 0, [], 0, 0), (.lmul, 1, 0, 0, [], 0, 0), (.lsub, 1, 0, 0, [], 0, 0), (.lload_n 2, 1, 2, 0, [], 0, 0), (.lload 6, 2, 6, 0, [], 0, 0), (.invokestatic 88, 3, 3, 0, [(0, 134)], 0, 0), (.ifCond .lt 10, 3, 4, 0, [], 0, 0), (.lload 12, 2, 12, 0, [], 0, 0), (.lstore 10, 2, 10, 0, [], 0, 0), (.goto 7, 3, 5, 0, [], 0, 0)] := ⟨trivial, ⟨trivial, ⟨trivial, ⟨trivial, ⟨trivial, ⟨trivial, ⟨trivial, ⟨trivial, ⟨trivial, ⟨wd_1102, ⟨trivial, ⟨trivial, ⟨trivial, ⟨trivial, ⟨trivial, ⟨trivial, ⟨trivial, ⟨trivial, ⟨trivial, ⟨lk_339, ⟨trivial, ⟨trivial, ⟨trivial, ⟨trivial, trivial⟩⟩⟩⟩⟩⟩⟩⟩⟩⟩⟩⟩⟩⟩⟩⟩⟩⟩⟩⟩⟩⟩⟩⟩
set_option maxRecDepth 100000 in
set_option maxHeartbeats 4000000 in
theorem n_X12_floorOf_4 : en_lkC "EvenStepsModel" false [(.lload 12, 2, 12, 0, [], 0, 0), (.lstore 8, 2, 8, 0, [], 0, 0)] := ⟨trivial, ⟨trivial, trivial⟩⟩
set_option maxRecDepth 100000 in
set_option maxHeartbeats 4000000 in
theorem n_X12_floorOf_5 : en_lkC "EvenStepsModel" false [(.goto (-48), 3, 3, 0, [], 0, 0)] := ⟨trivial, trivial⟩
set_option maxRecDepth 100000 in
set_option maxHeartbeats 4000000 in
theorem n_X12_floorOf_6 : en_lkC "EvenStepsModel" false [(.lload 10, 2, 10, 0, [], 0, 0), (.lreturn, 1, 0, 0, [], 0, 0)] := ⟨trivial, ⟨trivial, trivial⟩⟩
set_option maxRecDepth 100000 in
set_option maxHeartbeats 4000000 in
theorem n_X12_floorOf : en_lkM (⟨"EvenStepsModel", "floorOf", "(JJJJ)J"⟩, prog_14_method_14_code, 14, (some .long), p_X12_floorOf) := (List.forall_mem_cons.mpr ⟨n_X12_floorOf_0, (List.forall_mem_cons.mpr ⟨n_X12_floorOf_1, (List.forall_mem_cons.mpr ⟨n_X12_floorOf_2, (List.forall_mem_cons.mpr ⟨n_X12_floorOf_3, (List.forall_mem_cons.mpr ⟨n_X12_floorOf_4, (List.forall_mem_cons.mpr ⟨n_X12_floorOf_5, (List.forall_mem_cons.mpr ⟨n_X12_floorOf_6, (fun _ h => absurd h List.not_mem_nil)⟩)⟩)⟩)⟩)⟩)⟩)⟩)
set_option maxRecDepth 100000 in
set_option maxHeartbeats 4000000 in
theorem k_X12_quotientsOf : en_ckM (⟨"EvenStepsModel", "quotientsOf", "(I)V"⟩, prog_14_method_15_code, 23, none, p_X12_quotientsOf) = true := by decide +kernel
set_option maxRecDepth 100000 in
set_option maxHeartbeats 4000000 in
theorem n_X12_quotientsOf_0 : en_lkC "EvenStepsModel" false [(.aload_n 0, 1, 0, 0, [], 0, 0), (.getfield 7, 3, 3, 2, [(11, 0)], 0, 0), (.iload_n 1, 1, 1, 0, [], 0, 0), (.iaload, 1, 0, 0, [], 0, 0), (.i2l, 1, 0, 0, [], 0, 0), (.lstore_n 2, 1, 2, 0, [], 0, 0), (.aload_n 0, 1, 0, 0, [], 0, 0), (.getfield 13, 3, 4, 2, [(11, 0)], 0, 0), (.iload_n 1, 1, 1, 0, [], 0, 0), (.iaload, 1, 0, 0, [], 0, 0), (.i2l, 1, 0, 0, [], 0, 0), (.lstore 4, 2, 4, 0, [], 0, 0), (.aload_n 0, 1, 0, 0, [], 0, 0), (.getfield 16, 3, 5, 2, [(11, 0)], 0, 0), (.iload_n 1, 1, 1, 0, [], 0, 0), (.iaload, 1, 0, 0, [], 0, 0), (.i2l, 1, 0, 0, [], 0, 0), (.lstore 6, 2, 6, 0, [], 0, 0), (.aload_n 0, 1, 0, 0, [], 0, 0), (.getfield 19, 3, 6, 2, [(11, 0)], 0, 0), (.iload_n 1, 1, 1, 0, [], 0, 0), (.iaload, 1, 0, 0, [], 0, 0), (.i2l, 1, 0, 0, [], 0, 0), (.lstore 8, 2, 8, 0, [], 0, 0), (.aload_n 0, 1, 0, 0, [], 0, 0), (.iconst 0, 1, 0, 0, [], 0, 0), (.putfield 126, 3, 18, 0, [(11, 0)], 0, 0), (.iconst 1, 1, 0, 0, [], 1, 0), (.istore 10, 2, 10, 0, [], 0, 0)] := ⟨trivial, ⟨lk_335, ⟨trivial, ⟨trivial, ⟨trivial, ⟨trivial, ⟨trivial, ⟨lk_337, ⟨trivial, ⟨trivial, ⟨trivial, ⟨trivial, ⟨trivial, ⟨lk_336, ⟨trivial, ⟨trivial, ⟨trivial, ⟨trivial, ⟨trivial, ⟨lk_338, ⟨trivial, ⟨trivial, ⟨trivial, ⟨trivial, ⟨trivial, ⟨trivial, ⟨lk_353, ⟨trivial, ⟨trivial, trivial⟩⟩⟩⟩⟩⟩⟩⟩⟩⟩⟩⟩⟩⟩⟩⟩⟩⟩⟩⟩⟩⟩⟩⟩⟩⟩⟩⟩⟩
set_option maxRecDepth 100000 in
set_option maxHeartbeats 4000000 in
theorem n_X12_quotientsOf_1 : en_lkC "EvenStepsModel" false [(.iload 10, 2, 10, 0, [], 0, 0), (.ifCond .eq 196, 3, 11, 0, [], 0, 0), (.aload_n 0, 1, 0, 0, [], 0, 0), (.getfield 126, 3, 18, 0, [(11, 0)], 0, 0), (.bipush 20, 2, 0, 0, [], 20, 0), (.if_icmp .ge 187, 3, 11, 0, [], 0, 0), (.lload_n 2, 1, 2, 0, [], 0, 0), (.lload 4, 2, 4, 0, [], 0, 0), (.lload 6, 2, 6, 0, [], 0, 0), (.lload 8, 2, 8, 0, [], 0, 0), (.invokestatic 129, 3, 4, 1, [(0, 143)], 0, 0), (.lstore 11, 2, 11, 0, [], 0, 0), (.aload_n 0, 1, 0, 0, [], 0, 0), (.getfield 47, 3, 16, 2, [(11, 0)], 0, 0), (.aload_n 0, 1, 0, 0, [], 0, 0), (.dup, 1, 0, 0, [], 0, 0), (.getfield 126, 3, 18, 0, [(11, 0)], 0, 0), (.dup_x1, 1, 0, 0, [], 0, 0), (.iconst 1, 1, 0, 0, [], 1, 0), (.iadd, 1, 0, 0, [], 0, 0), (.putfield 126, 3, 18, 0, [(11, 0)], 0, 0), (.lload 11, 2, 11, 0, [], 0, 0), (.lastore, 1, 0, 0, [], 0, 0), (.lload_n 2, 1, 2, 0, [], 0, 0), (.lload 11, 2, 11, 0, [], 0, 0), (.lload 6, 2, 6, 0, [], 0, 0), (.lmul, 1, 0, 0, [], 0, 0), (.lsub, 1, 0, 0, [], 0, 0), (.lstore 13, 2, 13, 0, [], 0, 0), (.lload 13, 2, 13, 0, [], 0, 0), (.lconst 0, 1, 0, 0, [], 0, 0), (.lcmp, 1, 0, 0, [], 0, 0), (.ifCond .ne 16, 3, 2, 0, [], 0, 0), (.lload 4, 2, 4, 0, [], 0, 0), (.lconst 0, 1, 0, 0, [], 0, 0), (.lcmp, 1, 0, 0, [], 0, 0), (.ifCond .ne 9, 3, 2, 0, [], 0, 0), (.iconst 0, 1, 0, 0, [], 0, 0), (.istore 10, 2, 10, 0, [], 0, 0), (.goto 125, 3, 10, 0, [], 0, 0)] := ⟨trivial, ⟨trivial, ⟨trivial, ⟨lk_354, ⟨trivial, ⟨trivial, ⟨trivial, ⟨trivial, ⟨trivial, ⟨trivial, ⟨lk_355, ⟨trivial, ⟨trivial, ⟨lk_356, ⟨trivial, ⟨trivial, ⟨lk_354, ⟨trivial, ⟨trivial, ⟨trivial, ⟨lk_353, ⟨trivial, ⟨trivial, ⟨trivial, ⟨trivial, ⟨trivial, ⟨trivial, ⟨trivial, ⟨trivial, ⟨trivial, ⟨trivial, ⟨trivial, ⟨trivial, ⟨trivial, ⟨trivial, ⟨trivial, ⟨trivial, ⟨trivial, ⟨trivial, ⟨trivial, trivial⟩⟩⟩⟩⟩⟩⟩⟩⟩⟩⟩⟩⟩⟩⟩⟩⟩⟩⟩⟩⟩⟩⟩⟩⟩⟩⟩⟩⟩⟩⟩⟩⟩⟩⟩⟩⟩⟩⟩⟩
set_option maxRecDepth 100000 in
set_option maxHeartbeats 4000000 in
theorem n_X12_quotientsOf_2 : en_lkC "EvenStepsModel" false [(.lload 4, 2, 4, 0, [], 0, 0), (.lconst 0, 1, 0, 0, [], 0, 0), (.lcmp, 1, 0, 0, [], 0, 0), (.ifCond .ne 8, 3, 3, 0, [], 0, 0), (.lload 6, 2, 6, 0, [], 0, 0), (.goto 8, 3, 4, 0, [], 0, 0)] := ⟨trivial, ⟨trivial, ⟨trivial, ⟨trivial, ⟨trivial, ⟨trivial, trivial⟩⟩⟩⟩⟩⟩
set_option maxRecDepth 100000 in
set_option maxHeartbeats 4000000 in
theorem n_X12_quotientsOf_3 : en_lkC "EvenStepsModel" false [(.lload 6, 2, 6, 0, [], 0, 0), (.lload 13, 2, 13, 0, [], 0, 0), (.lmul, 1, 0, 0, [], 0, 0)] := ⟨trivial, ⟨trivial, ⟨trivial, trivial⟩⟩⟩
set_option maxRecDepth 100000 in
set_option maxHeartbeats 4000000 in
theorem n_X12_quotientsOf_4 : en_lkC "EvenStepsModel" false [(.lstore 15, 2, 15, 0, [], 0, 0), (.lload 4, 2, 4, 0, [], 0, 0), (.lconst 0, 1, 0, 0, [], 0, 0), (.lcmp, 1, 0, 0, [], 0, 0), (.ifCond .ne 7, 3, 5, 0, [], 0, 0), (.lconst 0, 1, 0, 0, [], 0, 0), (.goto 9, 3, 6, 0, [], 0, 0)] := ⟨trivial, ⟨trivial, ⟨trivial, ⟨trivial, ⟨trivial, ⟨trivial, ⟨trivial, trivial⟩⟩⟩⟩⟩⟩⟩
set_option maxRecDepth 100000 in
set_option maxHeartbeats 4000000 in
theorem n_X12_quotientsOf_5 : en_lkC "EvenStepsModel" false [(.lload 6, 2, 6, 0, [], 0, 0), (.lneg, 1, 0, 0, [], 0, 0), (.lload 4, 2, 4, 0, [], 0, 0), (.lmul, 1, 0, 0, [], 0, 0)] := ⟨trivial, ⟨trivial, ⟨trivial, ⟨trivial, trivial⟩⟩⟩⟩
set_option maxRecDepth 100000 in
set_option maxHeartbeats 4000000 in
theorem n_X12_quotientsOf_6 : en_lkC "EvenStepsModel" false [(.lstore 17, 2, 17, 0, [], 0, 0), (.lload 4, 2, 4, 0, [], 0, 0), (.lconst 0, 1, 0, 0, [], 0, 0), (.lcmp, 1, 0, 0, [], 0, 0), (.ifCond .ne 8, 3, 7, 0, [], 0, 0), (.lload 13, 2, 13, 0, [], 0, 0), (.goto 17, 3, 8, 0, [], 0, 0)] := ⟨trivial, ⟨trivial, ⟨trivial, ⟨trivial, ⟨trivial, ⟨trivial, ⟨trivial, trivial⟩⟩⟩⟩⟩⟩⟩
set_option maxRecDepth 100000 in
set_option maxHeartbeats 4000000 in
theorem n_X12_quotientsOf_7 : en_lkC "EvenStepsModel" false [(.lload 13, 2, 13, 0, [], 0, 0), (.lload 13, 2, 13, 0, [], 0, 0), (.lmul, 1, 0, 0, [], 0, 0), (.lload 4, 2, 4, 0, [], 0, 0), (.lload 4, 2, 4, 0, [], 0, 0), (.lmul, 1, 0, 0, [], 0, 0), (.lload 8, 2, 8, 0, [], 0, 0), (.lmul, 1, 0, 0, [], 0, 0), (.lsub, 1, 0, 0, [], 0, 0)] := ⟨trivial, ⟨trivial, ⟨trivial, ⟨trivial, ⟨trivial, ⟨trivial, ⟨trivial, ⟨trivial, ⟨trivial, trivial⟩⟩⟩⟩⟩⟩⟩⟩⟩
set_option maxRecDepth 100000 in
set_option maxHeartbeats 4000000 in
theorem n_X12_quotientsOf_8 : en_lkC "EvenStepsModel" false [(.lstore 19, 2, 19, 0, [], 0, 0), (.lload 19, 2, 19, 0, [], 0, 0), (.lconst 0, 1, 0, 0, [], 0, 0), (.lcmp, 1, 0, 0, [], 0, 0), (.ifCond .ge 18, 3, 9, 0, [], 0, 0), (.lload 15, 2, 15, 0, [], 0, 0), (.lneg, 1, 0, 0, [], 0, 0), (.lstore 15, 2, 15, 0, [], 0, 0), (.lload 17, 2, 17, 0, [], 0, 0), (.lneg, 1, 0, 0, [], 0, 0), (.lstore 17, 2, 17, 0, [], 0, 0), (.lload 19, 2, 19, 0, [], 0, 0), (.lneg, 1, 0, 0, [], 0, 0), (.lstore 19, 2, 19, 0, [], 0, 0)] := ⟨trivial, ⟨trivial, ⟨trivial, ⟨trivial, ⟨trivial, ⟨trivial, ⟨trivial, ⟨trivial, ⟨trivial, ⟨trivial, ⟨trivial, ⟨trivial, ⟨trivial, ⟨trivial, trivial⟩⟩⟩⟩⟩⟩⟩⟩⟩⟩⟩⟩⟩⟩
set_option maxRecDepth 100000 in
set_option maxHeartbeats 4000000 in
theorem n_X12_quotientsOf_9 : en_lkC "EvenStepsModel" false [(.lload 15, 2, 15, 0, [], 0, 0), (.lload 17, 2, 17, 0, [], 0, 0), (.invokestatic 133, 3, 2, 1, [(0, 142)], 0, 0), (.lload 19, 2, 19, 0, [], 0, 0), (.invokestatic 133, 3, 2, 1, [(0, 142)], 0, 0), (.lstore 21, 2, 21, 0, [], 0, 0), (.lload 15, 2, 15, 0, [], 0, 0), (.lload 21, 2, 21, 0, [], 0, 0), (.ldiv, 1, 0, 0, [], 0, 0), (.lstore_n 2, 1, 2, 0, [], 0, 0), (.lload 17, 2, 17, 0, [], 0, 0), (.lload 21, 2, 21, 0, [], 0, 0), (.ldiv, 1, 0, 0, [], 0, 0), (.lstore 4, 2, 4, 0, [], 0, 0), (.lload 19, 2, 19, 0, [], 0, 0), (.lload 21, 2, 21, 0, [], 0, 0), (.ldiv, 1, 0, 0, [], 0, 0), (.lstore 6, 2, 6, 0, [], 0, 0)] := ⟨trivial, ⟨trivial, ⟨lk_357, ⟨trivial, ⟨lk_357, ⟨trivial, ⟨trivial, ⟨trivial, ⟨trivial, ⟨trivial, ⟨trivial, ⟨trivial, ⟨trivial, ⟨trivial, ⟨trivial, ⟨trivial, ⟨trivial, ⟨trivial, trivial⟩⟩⟩⟩⟩⟩⟩⟩⟩⟩⟩⟩⟩⟩⟩⟩⟩⟩
set_option maxRecDepth 100000 in
set_option maxHeartbeats 4000000 in
theorem n_X12_quotientsOf_10 : en_lkC "EvenStepsModel" false [(.goto (-195), 3, 1, 0, [], 0, 0)] := ⟨trivial, trivial⟩
set_option maxRecDepth 100000 in
set_option maxHeartbeats 4000000 in
theorem n_X12_quotientsOf_11 : en_lkC "EvenStepsModel" false [(.return_, 1, 0, 0, [], 0, 0)] := ⟨trivial, trivial⟩
set_option maxRecDepth 100000 in
set_option maxHeartbeats 4000000 in
theorem n_X12_quotientsOf : en_lkM (⟨"EvenStepsModel", "quotientsOf", "(I)V"⟩, prog_14_method_15_code, 23, none, p_X12_quotientsOf) := (List.forall_mem_cons.mpr ⟨n_X12_quotientsOf_0, (List.forall_mem_cons.mpr ⟨n_X12_quotientsOf_1, (List.forall_mem_cons.mpr ⟨n_X12_quotientsOf_2, (List.forall_mem_cons.mpr ⟨n_X12_quotientsOf_3, (List.forall_mem_cons.mpr ⟨n_X12_quotientsOf_4, (List.forall_mem_cons.mpr ⟨n_X12_quotientsOf_5, (List.forall_mem_cons.mpr ⟨n_X12_quotientsOf_6, (List.forall_mem_cons.mpr ⟨n_X12_quotientsOf_7, (List.forall_mem_cons.mpr ⟨n_X12_quotientsOf_8, (List.forall_mem_cons.mpr ⟨n_X12_quotientsOf_9, (List.forall_mem_cons.mpr ⟨n_X12_quotientsOf_10, (List.forall_mem_cons.mpr ⟨n_X12_quotientsOf_11, (fun _ h => absurd h List.not_mem_nil)⟩)⟩)⟩)⟩)⟩)⟩)⟩)⟩)⟩)⟩)⟩)⟩)
set_option maxRecDepth 100000 in
set_option maxHeartbeats 4000000 in
theorem k_X12_quotient : en_ckM (⟨"EvenStepsModel", "quotient", "(II)I"⟩, prog_14_method_16_code, 3, (some .int), p_X12_quotient) = true := by decide +kernel
set_option maxRecDepth 100000 in
set_option maxHeartbeats 4000000 in
theorem n_X12_quotient_0 : en_lkC "EvenStepsModel" false [(.aload_n 0, 1, 0, 0, [], 0, 0), (.iload_n 1, 1, 1, 0, [], 0, 0), (.invokevirtual 114, 3, 1, 3, [(11, 137)], 0, 0), (.ifCond .eq 7, 3, 1, 0, [], 0, 0), (.iload_n 2, 1, 2, 0, [], 0, 0), (.ifCond .ge 5, 3, 2, 0, [], 0, 0)] := ⟨trivial, ⟨trivial, ⟨lk_347, ⟨trivial, ⟨trivial, ⟨trivial, trivial⟩⟩⟩⟩⟩⟩
set_option maxRecDepth 100000 in
set_option maxHeartbeats 4000000 in
theorem n_X12_quotient_1 : en_lkC "EvenStepsModel" false [(.iconst (-1), 1, 0, 0, [], (-1), 0), (.ireturn, 1, 0, 0, [], 0, 0)] := ⟨trivial, ⟨trivial, trivial⟩⟩
set_option maxRecDepth 100000 in
set_option maxHeartbeats 4000000 in
theorem n_X12_quotient_2 : en_lkC "EvenStepsModel" false [(.aload_n 0, 1, 0, 0, [], 0, 0), (.iload_n 1, 1, 1, 0, [], 0, 0), (.invokevirtual 137, 3, 1, 4, [(11, 144)], 0, 0), (.iload_n 2, 1, 2, 0, [], 0, 0), (.aload_n 0, 1, 0, 0, [], 0, 0), (.getfield 126, 3, 18, 0, [(11, 0)], 0, 0), (.if_icmp .ge 13, 3, 3, 0, [], 0, 0), (.aload_n 0, 1, 0, 0, [], 0, 0), (.getfield 47, 3, 16, 2, [(11, 0)], 0, 0), (.iload_n 2, 1, 2, 0, [], 0, 0), (.laload, 1, 0, 0, [], 0, 0), (.l2i, 1, 0, 0, [], 0, 0), (.goto 4, 3, 4, 0, [], 0, 0)] := ⟨trivial, ⟨trivial, ⟨lk_358, ⟨trivial, ⟨trivial, ⟨lk_354, ⟨trivial, ⟨trivial, ⟨lk_356, ⟨trivial, ⟨trivial, ⟨trivial, ⟨trivial, trivial⟩⟩⟩⟩⟩⟩⟩⟩⟩⟩⟩⟩⟩
set_option maxRecDepth 100000 in
set_option maxHeartbeats 4000000 in
theorem n_X12_quotient_3 : en_lkC "EvenStepsModel" false [(.iconst (-1), 1, 0, 0, [], (-1), 0)] := ⟨trivial, trivial⟩
set_option maxRecDepth 100000 in
set_option maxHeartbeats 4000000 in
theorem n_X12_quotient_4 : en_lkC "EvenStepsModel" false [(.ireturn, 1, 0, 0, [], 0, 0)] := ⟨trivial, trivial⟩
set_option maxRecDepth 100000 in
set_option maxHeartbeats 4000000 in
theorem n_X12_quotient : en_lkM (⟨"EvenStepsModel", "quotient", "(II)I"⟩, prog_14_method_16_code, 3, (some .int), p_X12_quotient) := (List.forall_mem_cons.mpr ⟨n_X12_quotient_0, (List.forall_mem_cons.mpr ⟨n_X12_quotient_1, (List.forall_mem_cons.mpr ⟨n_X12_quotient_2, (List.forall_mem_cons.mpr ⟨n_X12_quotient_3, (List.forall_mem_cons.mpr ⟨n_X12_quotient_4, (fun _ h => absurd h List.not_mem_nil)⟩)⟩)⟩)⟩)⟩)
set_option maxRecDepth 100000 in
set_option maxHeartbeats 4000000 in
theorem k_X12_linesOf : en_ckM (⟨"EvenStepsModel", "linesOf", "(I)V"⟩, prog_14_method_17_code, 9, none, p_X12_linesOf) = true := by decide +kernel
set_option maxRecDepth 100000 in
set_option maxHeartbeats 4000000 in
theorem n_X12_linesOf_0 : en_lkC "EvenStepsModel" false [(.aload_n 0, 1, 0, 0, [], 0, 0), (.iload_n 1, 1, 1, 0, [], 0, 0), (.invokevirtual 137, 3, 1, 4, [(11, 144)], 0, 0), (.aload_n 0, 1, 0, 0, [], 0, 0), (.iconst 0, 1, 0, 0, [], 0, 0), (.putfield 141, 3, 19, 0, [(11, 0)], 0, 0), (.aload_n 0, 1, 0, 0, [], 0, 0), (.getfield 51, 3, 17, 2, [(11, 0)], 0, 0), (.aload_n 0, 1, 0, 0, [], 0, 0), (.dup, 1, 0, 0, [], 0, 0), (.getfield 141, 3, 19, 0, [(11, 0)], 0, 0), (.dup_x1, 1, 0, 0, [], 0, 0), (.iconst 1, 1, 0, 0, [], 1, 0), (.iadd, 1, 0, 0, [], 0, 0), (.putfield 141, 3, 19, 0, [(11, 0)], 0, 0), (.lconst 1, 1, 0, 0, [], 0, 1), (.lastore, 1, 0, 0, [], 0, 0), (.lconst 0, 1, 0, 0, [], 0, 0), (.lstore_n 2, 1, 2, 0, [], 0, 0), (.lconst 1, 1, 0, 0, [], 0, 1), (.lstore 4, 2, 4, 0, [], 0, 0), (.iconst 1, 1, 0, 0, [], 1, 0), (.istore 6, 2, 6, 0, [], 0, 0)] := ⟨trivial, ⟨trivial, ⟨lk_358, ⟨trivial, ⟨trivial, ⟨lk_359, ⟨trivial, ⟨lk_360, ⟨trivial, ⟨trivial, ⟨lk_361, ⟨trivial, ⟨trivial, ⟨trivial, ⟨lk_359, ⟨trivial, ⟨trivial, ⟨trivial, ⟨trivial, ⟨trivial, ⟨trivial, ⟨trivial, ⟨trivial, trivial⟩⟩⟩⟩⟩⟩⟩⟩⟩⟩⟩⟩⟩⟩⟩⟩⟩⟩⟩⟩⟩⟩⟩
set_option maxRecDepth 100000 in
set_option maxHeartbeats 4000000 in
theorem n_X12_linesOf_1 : en_lkC "EvenStepsModel" false [(.iload 6, 2, 6, 0, [], 0, 0), (.aload_n 0, 1, 0, 0, [], 0, 0), (.getfield 126, 3, 18, 0, [(11, 0)], 0, 0), (.if_icmp .ge 76, 3, 4, 0, [], 0, 0), (.aload_n 0, 1, 0, 0, [], 0, 0), (.getfield 47, 3, 16, 2, [(11, 0)], 0, 0), (.iload 6, 2, 6, 0, [], 0, 0), (.laload, 1, 0, 0, [], 0, 0), (.lload 4, 2, 4, 0, [], 0, 0), (.lmul, 1, 0, 0, [], 0, 0), (.lload_n 2, 1, 2, 0, [], 0, 0), (.ladd, 1, 0, 0, [], 0, 0), (.lstore 7, 2, 7, 0, [], 0, 0), (.lload 4, 2, 4, 0, [], 0, 0), (.lstore_n 2, 1, 2, 0, [], 0, 0), (.lload 7, 2, 7, 0, [], 0, 0), (.lstore 4, 2, 4, 0, [], 0, 0), (.lload 7, 2, 7, 0, [], 0, 0), (.ldc2_w 144, 3, 0, 0, [], 0, 10000), (.lcmp, 1, 0, 0, [], 0, 0), (.ifCond .le 4, 3, 2, 0, [], 0, 0), (.return_, 1, 0, 0, [], 0, 0)] := ⟨trivial, ⟨trivial, ⟨lk_354, ⟨trivial, ⟨trivial, ⟨lk_356, ⟨trivial, ⟨trivial, ⟨trivial, ⟨trivial, ⟨trivial, ⟨trivial, ⟨trivial, ⟨trivial, ⟨trivial, ⟨trivial, ⟨trivial, ⟨trivial, ⟨wd_1114, ⟨trivial, ⟨trivial, ⟨trivial, trivial⟩⟩⟩⟩⟩⟩⟩⟩⟩⟩⟩⟩⟩⟩⟩⟩⟩⟩⟩⟩⟩⟩
set_option maxRecDepth 100000 in
set_option maxHeartbeats 4000000 in
theorem n_X12_linesOf_2 : en_lkC "EvenStepsModel" false [(.iload 6, 2, 6, 0, [], 0, 0), (.iconst 1, 1, 0, 0, [], 1, 0), (.if_icmp .ne 15, 3, 3, 0, [], 0, 0), (.lload 7, 2, 7, 0, [], 0, 0), (.lconst 1, 1, 0, 0, [], 0, 1), (.lcmp, 1, 0, 0, [], 0, 0), (.ifCond .ne 8, 3, 3, 0, [], 0, 0), (.aload_n 0, 1, 0, 0, [], 0, 0), (.iconst 0, 1, 0, 0, [], 0, 0), (.putfield 141, 3, 19, 0, [(11, 0)], 0, 0)] := ⟨trivial, ⟨trivial, ⟨trivial, ⟨trivial, ⟨trivial, ⟨trivial, ⟨trivial, ⟨trivial, ⟨trivial, ⟨lk_359, trivial⟩⟩⟩⟩⟩⟩⟩⟩⟩⟩
set_option maxRecDepth 100000 in
set_option maxHeartbeats 4000000 in
theorem n_X12_linesOf_3 : en_lkC "EvenStepsModel" false [(.aload_n 0, 1, 0, 0, [], 0, 0), (.getfield 51, 3, 17, 2, [(11, 0)], 0, 0), (.aload_n 0, 1, 0, 0, [], 0, 0), (.dup, 1, 0, 0, [], 0, 0), (.getfield 141, 3, 19, 0, [(11, 0)], 0, 0), (.dup_x1, 1, 0, 0, [], 0, 0), (.iconst 1, 1, 0, 0, [], 1, 0), (.iadd, 1, 0, 0, [], 0, 0), (.putfield 141, 3, 19, 0, [(11, 0)], 0, 0), (.lload 7, 2, 7, 0, [], 0, 0), (.lastore, 1, 0, 0, [], 0, 0), (.iinc 6 1, 3, 6, 0, [], 1, 0), (.goto (-79), 3, 1, 0, [], 0, 0)] := ⟨trivial, ⟨lk_360, ⟨trivial, ⟨trivial, ⟨lk_361, ⟨trivial, ⟨trivial, ⟨trivial, ⟨lk_359, ⟨trivial, ⟨trivial, ⟨trivial, ⟨trivial, trivial⟩⟩⟩⟩⟩⟩⟩⟩⟩⟩⟩⟩⟩
set_option maxRecDepth 100000 in
set_option maxHeartbeats 4000000 in
theorem n_X12_linesOf_4 : en_lkC "EvenStepsModel" false [(.return_, 1, 0, 0, [], 0, 0)] := ⟨trivial, trivial⟩
set_option maxRecDepth 100000 in
set_option maxHeartbeats 4000000 in
theorem n_X12_linesOf : en_lkM (⟨"EvenStepsModel", "linesOf", "(I)V"⟩, prog_14_method_17_code, 9, none, p_X12_linesOf) := (List.forall_mem_cons.mpr ⟨n_X12_linesOf_0, (List.forall_mem_cons.mpr ⟨n_X12_linesOf_1, (List.forall_mem_cons.mpr ⟨n_X12_linesOf_2, (List.forall_mem_cons.mpr ⟨n_X12_linesOf_3, (List.forall_mem_cons.mpr ⟨n_X12_linesOf_4, (fun _ h => absurd h List.not_mem_nil)⟩)⟩)⟩)⟩)⟩)
set_option maxRecDepth 100000 in
set_option maxHeartbeats 4000000 in
theorem k_X12_line : en_ckM (⟨"EvenStepsModel", "line", "(II)I"⟩, prog_14_method_18_code, 3, (some .int), p_X12_line) = true := by decide +kernel
set_option maxRecDepth 100000 in
set_option maxHeartbeats 4000000 in
theorem n_X12_line_0 : en_lkC "EvenStepsModel" false [(.aload_n 0, 1, 0, 0, [], 0, 0), (.iload_n 1, 1, 1, 0, [], 0, 0), (.invokevirtual 114, 3, 1, 3, [(11, 137)], 0, 0), (.ifCond .eq 7, 3, 1, 0, [], 0, 0), (.iload_n 2, 1, 2, 0, [], 0, 0), (.ifCond .ge 5, 3, 2, 0, [], 0, 0)] := ⟨trivial, ⟨trivial, ⟨lk_347, ⟨trivial, ⟨trivial, ⟨trivial, trivial⟩⟩⟩⟩⟩⟩
set_option maxRecDepth 100000 in
set_option maxHeartbeats 4000000 in
theorem n_X12_line_1 : en_lkC "EvenStepsModel" false [(.iconst (-1), 1, 0, 0, [], (-1), 0), (.ireturn, 1, 0, 0, [], 0, 0)] := ⟨trivial, ⟨trivial, trivial⟩⟩
set_option maxRecDepth 100000 in
set_option maxHeartbeats 4000000 in
theorem n_X12_line_2 : en_lkC "EvenStepsModel" false [(.aload_n 0, 1, 0, 0, [], 0, 0), (.iload_n 1, 1, 1, 0, [], 0, 0), (.invokevirtual 146, 3, 1, 4, [(11, 146)], 0, 0), (.iload_n 2, 1, 2, 0, [], 0, 0), (.aload_n 0, 1, 0, 0, [], 0, 0), (.getfield 141, 3, 19, 0, [(11, 0)], 0, 0), (.if_icmp .ge 13, 3, 3, 0, [], 0, 0), (.aload_n 0, 1, 0, 0, [], 0, 0), (.getfield 51, 3, 17, 2, [(11, 0)], 0, 0), (.iload_n 2, 1, 2, 0, [], 0, 0), (.laload, 1, 0, 0, [], 0, 0), (.l2i, 1, 0, 0, [], 0, 0), (.goto 4, 3, 4, 0, [], 0, 0)] := ⟨trivial, ⟨trivial, ⟨lk_363, ⟨trivial, ⟨trivial, ⟨lk_361, ⟨trivial, ⟨trivial, ⟨lk_360, ⟨trivial, ⟨trivial, ⟨trivial, ⟨trivial, trivial⟩⟩⟩⟩⟩⟩⟩⟩⟩⟩⟩⟩⟩
set_option maxRecDepth 100000 in
set_option maxHeartbeats 4000000 in
theorem n_X12_line_3 : en_lkC "EvenStepsModel" false [(.iconst (-1), 1, 0, 0, [], (-1), 0)] := ⟨trivial, trivial⟩
set_option maxRecDepth 100000 in
set_option maxHeartbeats 4000000 in
theorem n_X12_line_4 : en_lkC "EvenStepsModel" false [(.ireturn, 1, 0, 0, [], 0, 0)] := ⟨trivial, trivial⟩
set_option maxRecDepth 100000 in
set_option maxHeartbeats 4000000 in
theorem n_X12_line : en_lkM (⟨"EvenStepsModel", "line", "(II)I"⟩, prog_14_method_18_code, 3, (some .int), p_X12_line) := (List.forall_mem_cons.mpr ⟨n_X12_line_0, (List.forall_mem_cons.mpr ⟨n_X12_line_1, (List.forall_mem_cons.mpr ⟨n_X12_line_2, (List.forall_mem_cons.mpr ⟨n_X12_line_3, (List.forall_mem_cons.mpr ⟨n_X12_line_4, (fun _ h => absurd h List.not_mem_nil)⟩)⟩)⟩)⟩)⟩)
set_option maxRecDepth 100000 in
set_option maxHeartbeats 4000000 in
theorem k_X12_digit : en_ckM (⟨"EvenStepsModel", "digit", "(III)I"⟩, prog_14_method_19_code, 7, (some .int), p_X12_digit) = true := by decide +kernel
set_option maxRecDepth 100000 in
set_option maxHeartbeats 4000000 in
theorem n_X12_digit_0 : en_lkC "EvenStepsModel" false [(.aload_n 0, 1, 0, 0, [], 0, 0), (.iload_n 1, 1, 1, 0, [], 0, 0), (.invokevirtual 114, 3, 1, 3, [(11, 137)], 0, 0), (.ifCond .eq 18, 3, 1, 0, [], 0, 0), (.iload_n 2, 1, 2, 0, [], 0, 0), (.iconst 0, 1, 0, 0, [], 0, 0), (.sipush 10000, 3, 0, 0, [], 10000, 0), (.invokestatic 99, 3, 3, 3, [(0, 133)], 0, 0), (.ifCond .eq 7, 3, 1, 0, [], 0, 0), (.iload_n 3, 1, 3, 0, [], 0, 0), (.ifCond .ge 5, 3, 2, 0, [], 0, 0)] := ⟨trivial, ⟨trivial, ⟨lk_347, ⟨trivial, ⟨trivial, ⟨trivial, ⟨trivial, ⟨lk_342, ⟨trivial, ⟨trivial, ⟨trivial, trivial⟩⟩⟩⟩⟩⟩⟩⟩⟩⟩⟩
set_option maxRecDepth 100000 in
set_option maxHeartbeats 4000000 in
theorem n_X12_digit_1 : en_lkC "EvenStepsModel" false [(.iconst (-1), 1, 0, 0, [], (-1), 0), (.ireturn, 1, 0, 0, [], 0, 0)] := ⟨trivial, ⟨trivial, trivial⟩⟩
set_option maxRecDepth 100000 in
set_option maxHeartbeats 4000000 in
theorem n_X12_digit_2 : en_lkC "EvenStepsModel" false [(.aload_n 0, 1, 0, 0, [], 0, 0), (.iload_n 1, 1, 1, 0, [], 0, 0), (.invokevirtual 146, 3, 1, 4, [(11, 146)], 0, 0), (.iload_n 3, 1, 3, 0, [], 0, 0), (.aload_n 0, 1, 0, 0, [], 0, 0), (.getfield 141, 3, 19, 0, [(11, 0)], 0, 0), (.if_icmp .lt 5, 3, 3, 0, [], 0, 0), (.iconst (-1), 1, 0, 0, [], (-1), 0), (.ireturn, 1, 0, 0, [], 0, 0)] := ⟨trivial, ⟨trivial, ⟨lk_363, ⟨trivial, ⟨trivial, ⟨lk_361, ⟨trivial, ⟨trivial, ⟨trivial, trivial⟩⟩⟩⟩⟩⟩⟩⟩⟩
set_option maxRecDepth 100000 in
set_option maxHeartbeats 4000000 in
theorem n_X12_digit_3 : en_lkC "EvenStepsModel" false [(.iload_n 2, 1, 2, 0, [], 0, 0), (.i2l, 1, 0, 0, [], 0, 0), (.lstore 4, 2, 4, 0, [], 0, 0), (.aload_n 0, 1, 0, 0, [], 0, 0), (.getfield 141, 3, 19, 0, [(11, 0)], 0, 0), (.iconst 1, 1, 0, 0, [], 1, 0), (.isub, 1, 0, 0, [], 0, 0), (.istore 6, 2, 6, 0, [], 0, 0)] := ⟨trivial, ⟨trivial, ⟨trivial, ⟨trivial, ⟨lk_361, ⟨trivial, ⟨trivial, ⟨trivial, trivial⟩⟩⟩⟩⟩⟩⟩⟩
set_option maxRecDepth 100000 in
set_option maxHeartbeats 4000000 in
theorem n_X12_digit_4 : en_lkC "EvenStepsModel" false [(.iload 6, 2, 6, 0, [], 0, 0), (.iload_n 3, 1, 3, 0, [], 0, 0), (.if_icmp .le 21, 3, 5, 0, [], 0, 0), (.lload 4, 2, 4, 0, [], 0, 0), (.aload_n 0, 1, 0, 0, [], 0, 0), (.getfield 51, 3, 17, 2, [(11, 0)], 0, 0), (.iload 6, 2, 6, 0, [], 0, 0), (.laload, 1, 0, 0, [], 0, 0), (.lrem, 1, 0, 0, [], 0, 0), (.lstore 4, 2, 4, 0, [], 0, 0), (.iinc 6 (-1), 3, 6, 0, [], (-1), 0), (.goto (-21), 3, 4, 0, [], 0, 0)] := ⟨trivial, ⟨trivial, ⟨trivial, ⟨trivial, ⟨trivial, ⟨lk_360, ⟨trivial, ⟨trivial, ⟨trivial, ⟨trivial, ⟨trivial, ⟨trivial, trivial⟩⟩⟩⟩⟩⟩⟩⟩⟩⟩⟩⟩
set_option maxRecDepth 100000 in
set_option maxHeartbeats 4000000 in
theorem n_X12_digit_5 : en_lkC "EvenStepsModel" false [(.lload 4, 2, 4, 0, [], 0, 0), (.aload_n 0, 1, 0, 0, [], 0, 0), (.getfield 51, 3, 17, 2, [(11, 0)], 0, 0), (.iload_n 3, 1, 3, 0, [], 0, 0), (.laload, 1, 0, 0, [], 0, 0), (.ldiv, 1, 0, 0, [], 0, 0), (.l2i, 1, 0, 0, [], 0, 0), (.ireturn, 1, 0, 0, [], 0, 0)] := ⟨trivial, ⟨trivial, ⟨lk_360, ⟨trivial, ⟨trivial, ⟨trivial, ⟨trivial, ⟨trivial, trivial⟩⟩⟩⟩⟩⟩⟩⟩
set_option maxRecDepth 100000 in
set_option maxHeartbeats 4000000 in
theorem n_X12_digit : en_lkM (⟨"EvenStepsModel", "digit", "(III)I"⟩, prog_14_method_19_code, 7, (some .int), p_X12_digit) := (List.forall_mem_cons.mpr ⟨n_X12_digit_0, (List.forall_mem_cons.mpr ⟨n_X12_digit_1, (List.forall_mem_cons.mpr ⟨n_X12_digit_2, (List.forall_mem_cons.mpr ⟨n_X12_digit_3, (List.forall_mem_cons.mpr ⟨n_X12_digit_4, (List.forall_mem_cons.mpr ⟨n_X12_digit_5, (fun _ h => absurd h List.not_mem_nil)⟩)⟩)⟩)⟩)⟩)⟩)
set_option maxRecDepth 100000 in
set_option maxHeartbeats 4000000 in
theorem k_X12_nearersOf : en_ckM (⟨"EvenStepsModel", "nearersOf", "(I)V"⟩, prog_14_method_20_code, 16, none, p_X12_nearersOf) = true := by decide +kernel
set_option maxRecDepth 100000 in
set_option maxHeartbeats 4000000 in
theorem n_X12_nearersOf_0 : en_lkC "EvenStepsModel" false [(.aload_n 0, 1, 0, 0, [], 0, 0), (.iconst 0, 1, 0, 0, [], 0, 0), (.putfield 149, 3, 21, 0, [(11, 0)], 0, 0), (.lconst 0, 1, 0, 0, [], 0, 0), (.lstore_n 2, 1, 2, 0, [], 0, 0), (.lconst 0, 1, 0, 0, [], 0, 0), (.lstore 4, 2, 4, 0, [], 0, 0), (.iconst 0, 1, 0, 0, [], 0, 0), (.istore 6, 2, 6, 0, [], 0, 0), (.iconst 1, 1, 0, 0, [], 1, 0), (.istore 7, 2, 7, 0, [], 0, 0)] := ⟨trivial, ⟨trivial, ⟨lk_364, ⟨trivial, ⟨trivial, ⟨trivial, ⟨trivial, ⟨trivial, ⟨trivial, ⟨trivial, ⟨trivial, trivial⟩⟩⟩⟩⟩⟩⟩⟩⟩⟩⟩
set_option maxRecDepth 100000 in
set_option maxHeartbeats 4000000 in
theorem n_X12_nearersOf_1 : en_lkC "EvenStepsModel" false [(.iload 7, 2, 7, 0, [], 0, 0), (.sipush 2000, 3, 0, 0, [], 2000, 0), (.if_icmp .gt 193, 3, 9, 0, [], 0, 0), (.aload_n 0, 1, 0, 0, [], 0, 0), (.iload_n 1, 1, 1, 0, [], 0, 0), (.iload 7, 2, 7, 0, [], 0, 0), (.invokevirtual 118, 3, 2, 0, [(11, 136)], 0, 0), (.i2l, 1, 0, 0, [], 0, 0), (.lstore 8, 2, 8, 0, [], 0, 0), (.aload_n 0, 1, 0, 0, [], 0, 0), (.iload_n 1, 1, 1, 0, [], 0, 0), (.iload 7, 2, 7, 0, [], 0, 0), (.i2l, 1, 0, 0, [], 0, 0), (.ldc2_w 124, 3, 0, 0, [], 0, 2), (.lload 8, 2, 8, 0, [], 0, 0), (.lmul, 1, 0, 0, [], 0, 0), (.lconst 1, 1, 0, 0, [], 0, 1), (.ladd, 1, 0, 0, [], 0, 0), (.ldc2_w 124, 3, 0, 0, [], 0, 2), (.invokevirtual 92, 3, 4, 0, [(11, 135)], 0, 0), (.ifCond .le 9, 3, 2, 0, [], 0, 0), (.lload 8, 2, 8, 0, [], 0, 0), (.lconst 1, 1, 0, 0, [], 0, 1), (.ladd, 1, 0, 0, [], 0, 0), (.lstore 8, 2, 8, 0, [], 0, 0)] := ⟨trivial, ⟨trivial, ⟨trivial, ⟨trivial, ⟨trivial, ⟨trivial, ⟨lk_349, ⟨trivial, ⟨trivial, ⟨trivial, ⟨trivial, ⟨trivial, ⟨trivial, ⟨wd_1102, ⟨trivial, ⟨trivial, ⟨trivial, ⟨trivial, ⟨wd_1102, ⟨lk_340, ⟨trivial, ⟨trivial, ⟨trivial, ⟨trivial, ⟨trivial, trivial⟩⟩⟩⟩⟩⟩⟩⟩⟩⟩⟩⟩⟩⟩⟩⟩⟩⟩⟩⟩⟩⟩⟩⟩⟩
set_option maxRecDepth 100000 in
set_option maxHeartbeats 4000000 in
theorem n_X12_nearersOf_2 : en_lkC "EvenStepsModel" false [(.aload_n 0, 1, 0, 0, [], 0, 0), (.iload_n 1, 1, 1, 0, [], 0, 0), (.iload 7, 2, 7, 0, [], 0, 0), (.i2l, 1, 0, 0, [], 0, 0), (.lload 8, 2, 8, 0, [], 0, 0), (.lconst 1, 1, 0, 0, [], 0, 1), (.invokevirtual 92, 3, 4, 0, [(11, 135)], 0, 0), (.istore 10, 2, 10, 0, [], 0, 0), (.iload 7, 2, 7, 0, [], 0, 0), (.iconst 1, 1, 0, 0, [], 1, 0), (.if_icmp .ne 7, 3, 3, 0, [], 0, 0), (.iconst 1, 1, 0, 0, [], 1, 0), (.goto 4, 3, 4, 0, [], 0, 0)] := ⟨trivial, ⟨trivial, ⟨trivial, ⟨trivial, ⟨trivial, ⟨trivial, ⟨lk_340, ⟨trivial, ⟨trivial, ⟨trivial, ⟨trivial, ⟨trivial, ⟨trivial, trivial⟩⟩⟩⟩⟩⟩⟩⟩⟩⟩⟩⟩⟩
set_option maxRecDepth 100000 in
set_option maxHeartbeats 4000000 in
theorem n_X12_nearersOf_3 : en_lkC "EvenStepsModel" false [(.iconst 0, 1, 0, 0, [], 0, 0)] := ⟨trivial, trivial⟩
set_option maxRecDepth 100000 in
set_option maxHeartbeats 4000000 in
theorem n_X12_nearersOf_4 : en_lkC "EvenStepsModel" false [(.istore 11, 2, 11, 0, [], 0, 0), (.iload 11, 2, 11, 0, [], 0, 0), (.ifCond .ne 83, 3, 7, 0, [], 0, 0), (.iload 10, 2, 10, 0, [], 0, 0), (.iload 7, 2, 7, 0, [], 0, 0), (.imul, 1, 0, 0, [], 0, 0), (.i2l, 1, 0, 0, [], 0, 0), (.iload 6, 2, 6, 0, [], 0, 0), (.i2l, 1, 0, 0, [], 0, 0), (.lload_n 2, 1, 2, 0, [], 0, 0), (.lmul, 1, 0, 0, [], 0, 0), (.lsub, 1, 0, 0, [], 0, 0), (.lstore 12, 2, 12, 0, [], 0, 0), (.iload 10, 2, 10, 0, [], 0, 0), (.i2l, 1, 0, 0, [], 0, 0), (.lload 8, 2, 8, 0, [], 0, 0), (.lmul, 1, 0, 0, [], 0, 0), (.iload 6, 2, 6, 0, [], 0, 0), (.i2l, 1, 0, 0, [], 0, 0), (.lload 4, 2, 4, 0, [], 0, 0), (.lmul, 1, 0, 0, [], 0, 0), (.lsub, 1, 0, 0, [], 0, 0), (.lstore 14, 2, 14, 0, [], 0, 0), (.aload_n 0, 1, 0, 0, [], 0, 0), (.getfield 7, 3, 3, 2, [(11, 0)], 0, 0), (.iload_n 1, 1, 1, 0, [], 0, 0), (.iaload, 1, 0, 0, [], 0, 0), (.i2l, 1, 0, 0, [], 0, 0), (.lload 12, 2, 12, 0, [], 0, 0), (.lmul, 1, 0, 0, [], 0, 0), (.lload 14, 2, 14, 0, [], 0, 0), (.aload_n 0, 1, 0, 0, [], 0, 0), (.getfield 16, 3, 5, 2, [(11, 0)], 0, 0), (.iload_n 1, 1, 1, 0, [], 0, 0), (.iaload, 1, 0, 0, [], 0, 0), (.i2l, 1, 0, 0, [], 0, 0), (.lmul, 1, 0, 0, [], 0, 0), (.lsub, 1, 0, 0, [], 0, 0), (.aload_n 0, 1, 0, 0, [], 0, 0), (.getfield 13, 3, 4, 2, [(11, 0)], 0, 0), (.iload_n 1, 1, 1, 0, [], 0, 0), (.iaload, 1, 0, 0, [], 0, 0), (.i2l, 1, 0, 0, [], 0, 0), (.lload 12, 2, 12, 0, [], 0, 0), (.lmul, 1, 0, 0, [], 0, 0), (.aload_n 0, 1, 0, 0, [], 0, 0), (.getfield 19, 3, 6, 2, [(11, 0)], 0, 0), (.iload_n 1, 1, 1, 0, [], 0, 0), (.iaload, 1, 0, 0, [], 0, 0), (.i2l, 1, 0, 0, [], 0, 0), (.invokestatic 88, 3, 3, 0, [(0, 134)], 0, 0), (.ifCond .ge 7, 3, 5, 0, [], 0, 0), (.iconst 1, 1, 0, 0, [], 1, 0), (.goto 4, 3, 6, 0, [], 0, 0)] := ⟨trivial, ⟨trivial, ⟨trivial, ⟨trivial, ⟨trivial, ⟨trivial, ⟨trivial, ⟨trivial, ⟨trivial, ⟨trivial, ⟨trivial, ⟨trivial, ⟨trivial, ⟨trivial, ⟨trivial, ⟨trivial, ⟨trivial, ⟨trivial, ⟨trivial, ⟨trivial, ⟨trivial, ⟨trivial, ⟨trivial, ⟨trivial, ⟨lk_335, ⟨trivial, ⟨trivial, ⟨trivial, ⟨trivial, ⟨trivial, ⟨trivial, ⟨trivial, ⟨lk_336, ⟨trivial, ⟨trivial, ⟨trivial, ⟨trivial, ⟨trivial, ⟨trivial, ⟨lk_337, ⟨trivial, ⟨trivial, ⟨trivial, ⟨trivial, ⟨trivial, ⟨trivial, ⟨lk_338, ⟨trivial, ⟨trivial, ⟨trivial, ⟨lk_339, ⟨trivial, ⟨trivial, ⟨trivial, trivial⟩⟩⟩⟩⟩⟩⟩⟩⟩⟩⟩⟩⟩⟩⟩⟩⟩⟩⟩⟩⟩⟩⟩⟩⟩⟩⟩⟩⟩⟩⟩⟩⟩⟩⟩⟩⟩⟩⟩⟩⟩⟩⟩⟩⟩⟩⟩⟩⟩⟩⟩⟩⟩⟩
set_option maxRecDepth 100000 in
set_option maxHeartbeats 4000000 in
theorem n_X12_nearersOf_5 : en_lkC "EvenStepsModel" false [(.iconst 0, 1, 0, 0, [], 0, 0)] := ⟨trivial, trivial⟩
set_option maxRecDepth 100000 in
set_option maxHeartbeats 4000000 in
theorem n_X12_nearersOf_6 : en_lkC "EvenStepsModel" false [(.istore 11, 2, 11, 0, [], 0, 0)] := ⟨trivial, trivial⟩
set_option maxRecDepth 100000 in
set_option maxHeartbeats 4000000 in
theorem n_X12_nearersOf_7 : en_lkC "EvenStepsModel" false [(.iload 11, 2, 11, 0, [], 0, 0), (.ifCond .eq 33, 3, 8, 0, [], 0, 0), (.aload_n 0, 1, 0, 0, [], 0, 0), (.getfield 54, 3, 20, 2, [(11, 0)], 0, 0), (.aload_n 0, 1, 0, 0, [], 0, 0), (.dup, 1, 0, 0, [], 0, 0), (.getfield 149, 3, 21, 0, [(11, 0)], 0, 0), (.dup_x1, 1, 0, 0, [], 0, 0), (.iconst 1, 1, 0, 0, [], 1, 0), (.iadd, 1, 0, 0, [], 0, 0), (.putfield 149, 3, 21, 0, [(11, 0)], 0, 0), (.iload 7, 2, 7, 0, [], 0, 0), (.iastore, 1, 0, 0, [], 0, 0), (.iload 7, 2, 7, 0, [], 0, 0), (.i2l, 1, 0, 0, [], 0, 0), (.lstore_n 2, 1, 2, 0, [], 0, 0), (.lload 8, 2, 8, 0, [], 0, 0), (.lstore 4, 2, 4, 0, [], 0, 0), (.iload 10, 2, 10, 0, [], 0, 0), (.istore 6, 2, 6, 0, [], 0, 0)] := ⟨trivial, ⟨trivial, ⟨trivial, ⟨lk_365, ⟨trivial, ⟨trivial, ⟨lk_366, ⟨trivial, ⟨trivial, ⟨trivial, ⟨lk_364, ⟨trivial, ⟨trivial, ⟨trivial, ⟨trivial, ⟨trivial, ⟨trivial, ⟨trivial, ⟨trivial, ⟨trivial, trivial⟩⟩⟩⟩⟩⟩⟩⟩⟩⟩⟩⟩⟩⟩⟩⟩⟩⟩⟩⟩
set_option maxRecDepth 100000 in
set_option maxHeartbeats 4000000 in
theorem n_X12_nearersOf_8 : en_lkC "EvenStepsModel" false [(.iinc 7 1, 3, 7, 0, [], 1, 0), (.goto (-195), 3, 1, 0, [], 0, 0)] := ⟨trivial, ⟨trivial, trivial⟩⟩
set_option maxRecDepth 100000 in
set_option maxHeartbeats 4000000 in
theorem n_X12_nearersOf_9 : en_lkC "EvenStepsModel" false [(.return_, 1, 0, 0, [], 0, 0)] := ⟨trivial, trivial⟩
set_option maxRecDepth 100000 in
set_option maxHeartbeats 4000000 in
theorem n_X12_nearersOf : en_lkM (⟨"EvenStepsModel", "nearersOf", "(I)V"⟩, prog_14_method_20_code, 16, none, p_X12_nearersOf) := (List.forall_mem_cons.mpr ⟨n_X12_nearersOf_0, (List.forall_mem_cons.mpr ⟨n_X12_nearersOf_1, (List.forall_mem_cons.mpr ⟨n_X12_nearersOf_2, (List.forall_mem_cons.mpr ⟨n_X12_nearersOf_3, (List.forall_mem_cons.mpr ⟨n_X12_nearersOf_4, (List.forall_mem_cons.mpr ⟨n_X12_nearersOf_5, (List.forall_mem_cons.mpr ⟨n_X12_nearersOf_6, (List.forall_mem_cons.mpr ⟨n_X12_nearersOf_7, (List.forall_mem_cons.mpr ⟨n_X12_nearersOf_8, (List.forall_mem_cons.mpr ⟨n_X12_nearersOf_9, (fun _ h => absurd h List.not_mem_nil)⟩)⟩)⟩)⟩)⟩)⟩)⟩)⟩)⟩)⟩)
set_option maxRecDepth 100000 in
set_option maxHeartbeats 4000000 in
theorem k_X12_nearer : en_ckM (⟨"EvenStepsModel", "nearer", "(II)I"⟩, prog_14_method_21_code, 3, (some .int), p_X12_nearer) = true := by decide +kernel
set_option maxRecDepth 100000 in
set_option maxHeartbeats 4000000 in
theorem n_X12_nearer_0 : en_lkC "EvenStepsModel" false [(.aload_n 0, 1, 0, 0, [], 0, 0), (.iload_n 1, 1, 1, 0, [], 0, 0), (.invokevirtual 114, 3, 1, 3, [(11, 137)], 0, 0), (.ifCond .eq 7, 3, 1, 0, [], 0, 0), (.iload_n 2, 1, 2, 0, [], 0, 0), (.ifCond .ge 5, 3, 2, 0, [], 0, 0)] := ⟨trivial, ⟨trivial, ⟨lk_347, ⟨trivial, ⟨trivial, ⟨trivial, trivial⟩⟩⟩⟩⟩⟩
set_option maxRecDepth 100000 in
set_option maxHeartbeats 4000000 in
theorem n_X12_nearer_1 : en_lkC "EvenStepsModel" false [(.iconst (-1), 1, 0, 0, [], (-1), 0), (.ireturn, 1, 0, 0, [], 0, 0)] := ⟨trivial, ⟨trivial, trivial⟩⟩
set_option maxRecDepth 100000 in
set_option maxHeartbeats 4000000 in
theorem n_X12_nearer_2 : en_lkC "EvenStepsModel" false [(.aload_n 0, 1, 0, 0, [], 0, 0), (.iload_n 1, 1, 1, 0, [], 0, 0), (.invokevirtual 152, 3, 1, 4, [(11, 149)], 0, 0), (.iload_n 2, 1, 2, 0, [], 0, 0), (.aload_n 0, 1, 0, 0, [], 0, 0), (.getfield 149, 3, 21, 0, [(11, 0)], 0, 0), (.if_icmp .ge 12, 3, 3, 0, [], 0, 0), (.aload_n 0, 1, 0, 0, [], 0, 0), (.getfield 54, 3, 20, 2, [(11, 0)], 0, 0), (.iload_n 2, 1, 2, 0, [], 0, 0), (.iaload, 1, 0, 0, [], 0, 0), (.goto 4, 3, 4, 0, [], 0, 0)] := ⟨trivial, ⟨trivial, ⟨lk_367, ⟨trivial, ⟨trivial, ⟨lk_366, ⟨trivial, ⟨trivial, ⟨lk_365, ⟨trivial, ⟨trivial, ⟨trivial, trivial⟩⟩⟩⟩⟩⟩⟩⟩⟩⟩⟩⟩
set_option maxRecDepth 100000 in
set_option maxHeartbeats 4000000 in
theorem n_X12_nearer_3 : en_lkC "EvenStepsModel" false [(.iconst (-1), 1, 0, 0, [], (-1), 0)] := ⟨trivial, trivial⟩
set_option maxRecDepth 100000 in
set_option maxHeartbeats 4000000 in
theorem n_X12_nearer_4 : en_lkC "EvenStepsModel" false [(.ireturn, 1, 0, 0, [], 0, 0)] := ⟨trivial, trivial⟩
set_option maxRecDepth 100000 in
set_option maxHeartbeats 4000000 in
theorem n_X12_nearer : en_lkM (⟨"EvenStepsModel", "nearer", "(II)I"⟩, prog_14_method_21_code, 3, (some .int), p_X12_nearer) := (List.forall_mem_cons.mpr ⟨n_X12_nearer_0, (List.forall_mem_cons.mpr ⟨n_X12_nearer_1, (List.forall_mem_cons.mpr ⟨n_X12_nearer_2, (List.forall_mem_cons.mpr ⟨n_X12_nearer_3, (List.forall_mem_cons.mpr ⟨n_X12_nearer_4, (fun _ h => absurd h List.not_mem_nil)⟩)⟩)⟩)⟩)⟩)
set_option maxRecDepth 100000 in
set_option maxHeartbeats 4000000 in
theorem k_X12_within : en_ckM (⟨"EvenStepsModel", "within", "(IIII)I"⟩, prog_14_method_22_code, 8, (some .int), p_X12_within) = true := by decide +kernel
set_option maxRecDepth 100000 in
set_option maxHeartbeats 4000000 in
theorem n_X12_within_0 : en_lkC "EvenStepsModel" false [(.aload_n 0, 1, 0, 0, [], 0, 0), (.iload_n 1, 1, 1, 0, [], 0, 0), (.invokevirtual 114, 3, 1, 3, [(11, 137)], 0, 0), (.ifCond .eq 35, 3, 1, 0, [], 0, 0), (.iload 4, 2, 4, 0, [], 0, 0), (.iconst 1, 1, 0, 0, [], 1, 0), (.sipush 1000, 3, 0, 0, [], 1000, 0), (.invokestatic 99, 3, 3, 3, [(0, 133)], 0, 0), (.ifCond .eq 23, 3, 1, 0, [], 0, 0), (.iload_n 2, 1, 2, 0, [], 0, 0), (.iconst 0, 1, 0, 0, [], 0, 0), (.iload 4, 2, 4, 0, [], 0, 0), (.invokestatic 99, 3, 3, 3, [(0, 133)], 0, 0), (.ifCond .eq 13, 3, 1, 0, [], 0, 0), (.iload_n 3, 1, 3, 0, [], 0, 0), (.iconst 0, 1, 0, 0, [], 0, 0), (.iload 4, 2, 4, 0, [], 0, 0), (.invokestatic 99, 3, 3, 3, [(0, 133)], 0, 0), (.ifCond .ne 5, 3, 2, 0, [], 0, 0)] := ⟨trivial, ⟨trivial, ⟨lk_347, ⟨trivial, ⟨trivial, ⟨trivial, ⟨trivial, ⟨lk_342, ⟨trivial, ⟨trivial, ⟨trivial, ⟨trivial, ⟨lk_342, ⟨trivial, ⟨trivial, ⟨trivial, ⟨trivial, ⟨lk_342, ⟨trivial, trivial⟩⟩⟩⟩⟩⟩⟩⟩⟩⟩⟩⟩⟩⟩⟩⟩⟩⟩⟩
set_option maxRecDepth 100000 in
set_option maxHeartbeats 4000000 in
theorem n_X12_within_1 : en_lkC "EvenStepsModel" false [(.iconst (-1), 1, 0, 0, [], (-1), 0), (.ireturn, 1, 0, 0, [], 0, 0)] := ⟨trivial, ⟨trivial, trivial⟩⟩
set_option maxRecDepth 100000 in
set_option maxHeartbeats 4000000 in
theorem n_X12_within_2 : en_lkC "EvenStepsModel" false [(.iconst 1, 1, 0, 0, [], 1, 0), (.istore 5, 2, 5, 0, [], 0, 0)] := ⟨trivial, ⟨trivial, trivial⟩⟩
set_option maxRecDepth 100000 in
set_option maxHeartbeats 4000000 in
theorem n_X12_within_3 : en_lkC "EvenStepsModel" false [(.iload 5, 2, 5, 0, [], 0, 0), (.sipush 2000, 3, 0, 0, [], 2000, 0), (.if_icmp .gt 68, 3, 5, 0, [], 0, 0), (.aload_n 0, 1, 0, 0, [], 0, 0), (.iload_n 1, 1, 1, 0, [], 0, 0), (.iload 5, 2, 5, 0, [], 0, 0), (.invokevirtual 118, 3, 2, 0, [(11, 136)], 0, 0), (.i2l, 1, 0, 0, [], 0, 0), (.lstore 6, 2, 6, 0, [], 0, 0), (.aload_n 0, 1, 0, 0, [], 0, 0), (.iload_n 1, 1, 1, 0, [], 0, 0), (.iload 5, 2, 5, 0, [], 0, 0), (.i2l, 1, 0, 0, [], 0, 0), (.iload 4, 2, 4, 0, [], 0, 0), (.i2l, 1, 0, 0, [], 0, 0), (.lload 6, 2, 6, 0, [], 0, 0), (.lmul, 1, 0, 0, [], 0, 0), (.iload_n 2, 1, 2, 0, [], 0, 0), (.i2l, 1, 0, 0, [], 0, 0), (.ladd, 1, 0, 0, [], 0, 0), (.iload 4, 2, 4, 0, [], 0, 0), (.i2l, 1, 0, 0, [], 0, 0), (.invokevirtual 92, 3, 4, 0, [(11, 135)], 0, 0), (.ifCond .lt 29, 3, 4, 0, [], 0, 0), (.aload_n 0, 1, 0, 0, [], 0, 0), (.iload_n 1, 1, 1, 0, [], 0, 0), (.iload 5, 2, 5, 0, [], 0, 0), (.i2l, 1, 0, 0, [], 0, 0), (.iload 4, 2, 4, 0, [], 0, 0), (.i2l, 1, 0, 0, [], 0, 0), (.lload 6, 2, 6, 0, [], 0, 0), (.lmul, 1, 0, 0, [], 0, 0), (.iload_n 3, 1, 3, 0, [], 0, 0), (.i2l, 1, 0, 0, [], 0, 0), (.ladd, 1, 0, 0, [], 0, 0), (.iload 4, 2, 4, 0, [], 0, 0), (.i2l, 1, 0, 0, [], 0, 0), (.invokevirtual 92, 3, 4, 0, [(11, 135)], 0, 0), (.ifCond .ge 6, 3, 4, 0, [], 0, 0), (.iload 5, 2, 5, 0, [], 0, 0), (.ireturn, 1, 0, 0, [], 0, 0)] := ⟨trivial, ⟨trivial, ⟨trivial, ⟨trivial, ⟨trivial, ⟨trivial, ⟨lk_349, ⟨trivial, ⟨trivial, ⟨trivial, ⟨trivial, ⟨trivial, ⟨trivial, ⟨trivial, ⟨trivial, ⟨trivial, ⟨trivial, ⟨trivial, ⟨trivial, ⟨trivial, ⟨trivial, ⟨trivial, ⟨lk_340, ⟨trivial, ⟨trivial, ⟨trivial, ⟨trivial, ⟨trivial, ⟨trivial, ⟨trivial, ⟨trivial, ⟨trivial, ⟨trivial, ⟨trivial, ⟨trivial, ⟨trivial, ⟨trivial, ⟨lk_340, ⟨trivial, ⟨trivial, ⟨trivial, trivial⟩⟩⟩⟩⟩⟩⟩⟩⟩⟩⟩⟩⟩⟩⟩⟩⟩⟩⟩⟩⟩⟩⟩⟩⟩⟩⟩⟩⟩⟩⟩⟩⟩⟩⟩⟩⟩⟩⟩⟩⟩
set_option maxRecDepth 100000 in
set_option maxHeartbeats 4000000 in
theorem n_X12_within_4 : en_lkC "EvenStepsModel" false [(.iinc 5 1, 3, 5, 0, [], 1, 0), (.goto (-70), 3, 3, 0, [], 0, 0)] := ⟨trivial, ⟨trivial, trivial⟩⟩
set_option maxRecDepth 100000 in
set_option maxHeartbeats 4000000 in
theorem n_X12_within_5 : en_lkC "EvenStepsModel" false [(.iconst (-1), 1, 0, 0, [], (-1), 0), (.ireturn, 1, 0, 0, [], 0, 0)] := ⟨trivial, ⟨trivial, trivial⟩⟩
set_option maxRecDepth 100000 in
set_option maxHeartbeats 4000000 in
theorem n_X12_within : en_lkM (⟨"EvenStepsModel", "within", "(IIII)I"⟩, prog_14_method_22_code, 8, (some .int), p_X12_within) := (List.forall_mem_cons.mpr ⟨n_X12_within_0, (List.forall_mem_cons.mpr ⟨n_X12_within_1, (List.forall_mem_cons.mpr ⟨n_X12_within_2, (List.forall_mem_cons.mpr ⟨n_X12_within_3, (List.forall_mem_cons.mpr ⟨n_X12_within_4, (List.forall_mem_cons.mpr ⟨n_X12_within_5, (fun _ h => absurd h List.not_mem_nil)⟩)⟩)⟩)⟩)⟩)⟩)
set_option maxRecDepth 100000 in
set_option maxHeartbeats 4000000 in
theorem k_X12_isRow : en_ckM (⟨"EvenStepsModel", "isRow", "(I)Z"⟩, prog_14_method_23_code, 2, (some .boolean), p_X12_isRow) = true := by decide +kernel
set_option maxRecDepth 100000 in
set_option maxHeartbeats 4000000 in
theorem n_X12_isRow_0 : en_lkC "EvenStepsModel" false [(.iload_n 1, 1, 1, 0, [], 0, 0), (.iconst 0, 1, 0, 0, [], 0, 0), (.aload_n 0, 1, 0, 0, [], 0, 0), (.getfield 155, 3, 1, 0, [(11, 0)], 0, 0), (.iconst 1, 1, 0, 0, [], 1, 0), (.isub, 1, 0, 0, [], 0, 0), (.invokestatic 99, 3, 3, 3, [(0, 133)], 0, 0), (.ireturn, 1, 0, 3, [], 0, 0)] := ⟨trivial, ⟨trivial, ⟨trivial, ⟨lk_368, ⟨trivial, ⟨trivial, ⟨lk_342, ⟨trivial, trivial⟩⟩⟩⟩⟩⟩⟩⟩
set_option maxRecDepth 100000 in
set_option maxHeartbeats 4000000 in
theorem n_X12_isRow : en_lkM (⟨"EvenStepsModel", "isRow", "(I)Z"⟩, prog_14_method_23_code, 2, (some .boolean), p_X12_isRow) := (List.forall_mem_cons.mpr ⟨n_X12_isRow_0, (fun _ h => absurd h List.not_mem_nil)⟩)
set_option maxRecDepth 100000 in
set_option maxHeartbeats 4000000 in
theorem k_X12_row : en_ckM (⟨"EvenStepsModel", "row", "(III)I"⟩, prog_14_method_24_code, 5, (some .int), p_X12_row) = true := by decide +kernel
set_option maxRecDepth 100000 in
set_option maxHeartbeats 4000000 in
theorem n_X12_row_0 : en_lkC "EvenStepsModel" false [(.iload_n 1, 1, 1, 0, [], 0, 0), (.iconst 0, 1, 0, 0, [], 0, 0), (.iconst 3, 1, 0, 0, [], 3, 0), (.invokestatic 99, 3, 3, 3, [(0, 133)], 0, 0), (.ifCond .eq 22, 3, 1, 0, [], 0, 0), (.iload_n 2, 1, 2, 0, [], 0, 0), (.iconst 0, 1, 0, 0, [], 0, 0), (.iconst 2, 1, 0, 0, [], 2, 0), (.invokestatic 99, 3, 3, 3, [(0, 133)], 0, 0), (.ifCond .eq 13, 3, 1, 0, [], 0, 0), (.iload_n 3, 1, 3, 0, [], 0, 0), (.iconst 1, 1, 0, 0, [], 1, 0), (.bipush 40, 2, 0, 0, [], 40, 0), (.invokestatic 99, 3, 3, 3, [(0, 133)], 0, 0), (.ifCond .ne 9, 3, 2, 0, [], 0, 0)] := ⟨trivial, ⟨trivial, ⟨trivial, ⟨lk_342, ⟨trivial, ⟨trivial, ⟨trivial, ⟨trivial, ⟨lk_342, ⟨trivial, ⟨trivial, ⟨trivial, ⟨trivial, ⟨lk_342, ⟨trivial, trivial⟩⟩⟩⟩⟩⟩⟩⟩⟩⟩⟩⟩⟩⟩⟩
set_option maxRecDepth 100000 in
set_option maxHeartbeats 4000000 in
theorem n_X12_row_1 : en_lkC "EvenStepsModel" false [(.aload_n 0, 1, 0, 0, [], 0, 0), (.iconst 1, 1, 0, 0, [], 1, 0), (.invokevirtual 103, 3, 1, 0, [(11, 131)], 0, 0), (.ireturn, 1, 0, 0, [], 0, 0)] := ⟨trivial, ⟨trivial, ⟨lk_343, ⟨trivial, trivial⟩⟩⟩⟩
set_option maxRecDepth 100000 in
set_option maxHeartbeats 4000000 in
theorem n_X12_row_2 : en_lkC "EvenStepsModel" false [(.aload_n 0, 1, 0, 0, [], 0, 0), (.getfield 155, 3, 1, 0, [(11, 0)], 0, 0), (.bipush 10, 2, 0, 0, [], 10, 0), (.if_icmp .ne 9, 3, 3, 0, [], 0, 0), (.aload_n 0, 1, 0, 0, [], 0, 0), (.iconst 2, 1, 0, 0, [], 2, 0), (.invokevirtual 103, 3, 1, 0, [(11, 131)], 0, 0), (.ireturn, 1, 0, 0, [], 0, 0)] := ⟨trivial, ⟨lk_368, ⟨trivial, ⟨trivial, ⟨trivial, ⟨trivial, ⟨lk_343, ⟨trivial, trivial⟩⟩⟩⟩⟩⟩⟩⟩
set_option maxRecDepth 100000 in
set_option maxHeartbeats 4000000 in
theorem n_X12_row_3 : en_lkC "EvenStepsModel" false [(.aload_n 0, 1, 0, 0, [], 0, 0), (.getfield 35, 3, 11, 2, [(11, 0)], 0, 0), (.iload_n 1, 1, 1, 0, [], 0, 0), (.iaload, 1, 0, 0, [], 0, 0), (.iconst (-1), 1, 0, 0, [], (-1), 0), (.if_icmp .ne 10, 3, 4, 0, [], 0, 0), (.aload_n 0, 1, 0, 0, [], 0, 0), (.bipush 10, 2, 0, 0, [], 10, 0), (.invokevirtual 103, 3, 1, 0, [(11, 131)], 0, 0), (.ireturn, 1, 0, 0, [], 0, 0)] := ⟨trivial, ⟨lk_369, ⟨trivial, ⟨trivial, ⟨trivial, ⟨trivial, ⟨trivial, ⟨trivial, ⟨lk_343, ⟨trivial, trivial⟩⟩⟩⟩⟩⟩⟩⟩⟩⟩
set_option maxRecDepth 100000 in
set_option maxHeartbeats 4000000 in
theorem n_X12_row_4 : en_lkC "EvenStepsModel" false [(.aload_n 0, 1, 0, 0, [], 0, 0), (.getfield 35, 3, 11, 2, [(11, 0)], 0, 0), (.iload_n 1, 1, 1, 0, [], 0, 0), (.iaload, 1, 0, 0, [], 0, 0), (.iload_n 2, 1, 2, 0, [], 0, 0), (.if_icmp .eq 10, 3, 5, 0, [], 0, 0), (.aload_n 0, 1, 0, 0, [], 0, 0), (.bipush 11, 2, 0, 0, [], 11, 0), (.invokevirtual 103, 3, 1, 0, [(11, 131)], 0, 0), (.ireturn, 1, 0, 0, [], 0, 0)] := ⟨trivial, ⟨lk_369, ⟨trivial, ⟨trivial, ⟨trivial, ⟨trivial, ⟨trivial, ⟨trivial, ⟨lk_343, ⟨trivial, trivial⟩⟩⟩⟩⟩⟩⟩⟩⟩⟩
set_option maxRecDepth 100000 in
set_option maxHeartbeats 4000000 in
theorem n_X12_row_5 : en_lkC "EvenStepsModel" false [(.iload_n 3, 1, 3, 0, [], 0, 0), (.aload_n 0, 1, 0, 0, [], 0, 0), (.getfield 38, 3, 12, 2, [(11, 0)], 0, 0), (.iload_n 1, 1, 1, 0, [], 0, 0), (.iaload, 1, 0, 0, [], 0, 0), (.if_icmp .le 10, 3, 6, 0, [], 0, 0), (.aload_n 0, 1, 0, 0, [], 0, 0), (.bipush 12, 2, 0, 0, [], 12, 0), (.invokevirtual 103, 3, 1, 0, [(11, 131)], 0, 0), (.ireturn, 1, 0, 0, [], 0, 0)] := ⟨trivial, ⟨trivial, ⟨lk_370, ⟨trivial, ⟨trivial, ⟨trivial, ⟨trivial, ⟨trivial, ⟨lk_343, ⟨trivial, trivial⟩⟩⟩⟩⟩⟩⟩⟩⟩⟩
set_option maxRecDepth 100000 in
set_option maxHeartbeats 4000000 in
theorem n_X12_row_6 : en_lkC "EvenStepsModel" false [(.iconst 0, 1, 0, 0, [], 0, 0), (.istore 4, 2, 4, 0, [], 0, 0)] := ⟨trivial, ⟨trivial, trivial⟩⟩
set_option maxRecDepth 100000 in
set_option maxHeartbeats 4000000 in
theorem n_X12_row_7 : en_lkC "EvenStepsModel" false [(.iload 4, 2, 4, 0, [], 0, 0), (.iload_n 3, 1, 3, 0, [], 0, 0), (.if_icmp .ge 36, 3, 9, 0, [], 0, 0), (.aload_n 0, 1, 0, 0, [], 0, 0), (.getfield 41, 3, 13, 2, [(11, 0)], 0, 0), (.bipush 40, 2, 0, 0, [], 40, 0), (.iload_n 1, 1, 1, 0, [], 0, 0), (.imul, 1, 0, 0, [], 0, 0), (.iload 4, 2, 4, 0, [], 0, 0), (.iadd, 1, 0, 0, [], 0, 0), (.iaload, 1, 0, 0, [], 0, 0), (.iconst 0, 1, 0, 0, [], 0, 0), (.bipush 100, 2, 0, 0, [], 100, 0), (.invokestatic 99, 3, 3, 3, [(0, 133)], 0, 0), (.ifCond .ne 9, 3, 8, 0, [], 0, 0), (.aload_n 0, 1, 0, 0, [], 0, 0), (.iconst 3, 1, 0, 0, [], 3, 0), (.invokevirtual 103, 3, 1, 0, [(11, 131)], 0, 0), (.ireturn, 1, 0, 0, [], 0, 0)] := ⟨trivial, ⟨trivial, ⟨trivial, ⟨trivial, ⟨lk_371, ⟨trivial, ⟨trivial, ⟨trivial, ⟨trivial, ⟨trivial, ⟨trivial, ⟨trivial, ⟨trivial, ⟨lk_342, ⟨trivial, ⟨trivial, ⟨trivial, ⟨lk_343, ⟨trivial, trivial⟩⟩⟩⟩⟩⟩⟩⟩⟩⟩⟩⟩⟩⟩⟩⟩⟩⟩⟩
set_option maxRecDepth 100000 in
set_option maxHeartbeats 4000000 in
theorem n_X12_row_8 : en_lkC "EvenStepsModel" false [(.iinc 4 1, 3, 4, 0, [], 1, 0), (.goto (-36), 3, 7, 0, [], 0, 0)] := ⟨trivial, ⟨trivial, trivial⟩⟩
set_option maxRecDepth 100000 in
set_option maxHeartbeats 4000000 in
theorem n_X12_row_9 : en_lkC "EvenStepsModel" false [(.iconst 0, 1, 0, 0, [], 0, 0), (.istore 4, 2, 4, 0, [], 0, 0)] := ⟨trivial, ⟨trivial, trivial⟩⟩
set_option maxRecDepth 100000 in
set_option maxHeartbeats 4000000 in
theorem n_X12_row_10 : en_lkC "EvenStepsModel" false [(.iload 4, 2, 4, 0, [], 0, 0), (.iload_n 3, 1, 3, 0, [], 0, 0), (.if_icmp .ge 37, 3, 11, 0, [], 0, 0), (.aload_n 0, 1, 0, 0, [], 0, 0), (.getfield 32, 3, 10, 2, [(11, 0)], 0, 0), (.sipush 10001, 3, 0, 0, [], 10001, 0), (.aload_n 0, 1, 0, 0, [], 0, 0), (.getfield 155, 3, 1, 0, [(11, 0)], 0, 0), (.imul, 1, 0, 0, [], 0, 0), (.iload 4, 2, 4, 0, [], 0, 0), (.iadd, 1, 0, 0, [], 0, 0), (.aload_n 0, 1, 0, 0, [], 0, 0), (.getfield 41, 3, 13, 2, [(11, 0)], 0, 0), (.bipush 40, 2, 0, 0, [], 40, 0), (.iload_n 1, 1, 1, 0, [], 0, 0), (.imul, 1, 0, 0, [], 0, 0), (.iload 4, 2, 4, 0, [], 0, 0), (.iadd, 1, 0, 0, [], 0, 0), (.iaload, 1, 0, 0, [], 0, 0), (.iastore, 1, 0, 0, [], 0, 0), (.iinc 4 1, 3, 4, 0, [], 1, 0), (.goto (-37), 3, 10, 0, [], 0, 0)] := ⟨trivial, ⟨trivial, ⟨trivial, ⟨trivial, ⟨lk_372, ⟨trivial, ⟨trivial, ⟨lk_368, ⟨trivial, ⟨trivial, ⟨trivial, ⟨trivial, ⟨lk_371, ⟨trivial, ⟨trivial, ⟨trivial, ⟨trivial, ⟨trivial, ⟨trivial, ⟨trivial, ⟨trivial, ⟨trivial, trivial⟩⟩⟩⟩⟩⟩⟩⟩⟩⟩⟩⟩⟩⟩⟩⟩⟩⟩⟩⟩⟩⟩
set_option maxRecDepth 100000 in
set_option maxHeartbeats 4000000 in
theorem n_X12_row_11 : en_lkC "EvenStepsModel" false [(.aload_n 0, 1, 0, 0, [], 0, 0), (.getfield 25, 3, 8, 2, [(11, 0)], 0, 0), (.aload_n 0, 1, 0, 0, [], 0, 0), (.getfield 155, 3, 1, 0, [(11, 0)], 0, 0), (.iload_n 3, 1, 3, 0, [], 0, 0), (.iastore, 1, 0, 0, [], 0, 0), (.aload_n 0, 1, 0, 0, [], 0, 0), (.getfield 22, 3, 7, 2, [(11, 0)], 0, 0), (.aload_n 0, 1, 0, 0, [], 0, 0), (.getfield 155, 3, 1, 0, [(11, 0)], 0, 0), (.iconst 0, 1, 0, 0, [], 0, 0), (.iastore, 1, 0, 0, [], 0, 0), (.aload_n 0, 1, 0, 0, [], 0, 0), (.getfield 28, 3, 9, 2, [(11, 0)], 0, 0), (.aload_n 0, 1, 0, 0, [], 0, 0), (.getfield 155, 3, 1, 0, [(11, 0)], 0, 0), (.iconst (-1), 1, 0, 0, [], (-1), 0), (.iastore, 1, 0, 0, [], 0, 0), (.aload_n 0, 1, 0, 0, [], 0, 0), (.aload_n 0, 1, 0, 0, [], 0, 0), (.dup, 1, 0, 0, [], 0, 0), (.getfield 155, 3, 1, 0, [(11, 0)], 0, 0), (.dup_x1, 1, 0, 0, [], 0, 0), (.iconst 1, 1, 0, 0, [], 1, 0), (.iadd, 1, 0, 0, [], 0, 0), (.putfield 155, 3, 1, 0, [(11, 0)], 0, 0), (.invokevirtual 111, 3, 1, 0, [(11, 132)], 0, 0), (.ireturn, 1, 0, 0, [], 0, 0)] := ⟨trivial, ⟨lk_373, ⟨trivial, ⟨lk_368, ⟨trivial, ⟨trivial, ⟨trivial, ⟨lk_374, ⟨trivial, ⟨lk_368, ⟨trivial, ⟨trivial, ⟨trivial, ⟨lk_375, ⟨trivial, ⟨lk_368, ⟨trivial, ⟨trivial, ⟨trivial, ⟨trivial, ⟨trivial, ⟨lk_368, ⟨trivial, ⟨trivial, ⟨trivial, ⟨lk_376, ⟨lk_346, ⟨trivial, trivial⟩⟩⟩⟩⟩⟩⟩⟩⟩⟩⟩⟩⟩⟩⟩⟩⟩⟩⟩⟩⟩⟩⟩⟩⟩⟩⟩⟩
set_option maxRecDepth 100000 in
set_option maxHeartbeats 4000000 in
theorem n_X12_row : en_lkM (⟨"EvenStepsModel", "row", "(III)I"⟩, prog_14_method_24_code, 5, (some .int), p_X12_row) := (List.forall_mem_cons.mpr ⟨n_X12_row_0, (List.forall_mem_cons.mpr ⟨n_X12_row_1, (List.forall_mem_cons.mpr ⟨n_X12_row_2, (List.forall_mem_cons.mpr ⟨n_X12_row_3, (List.forall_mem_cons.mpr ⟨n_X12_row_4, (List.forall_mem_cons.mpr ⟨n_X12_row_5, (List.forall_mem_cons.mpr ⟨n_X12_row_6, (List.forall_mem_cons.mpr ⟨n_X12_row_7, (List.forall_mem_cons.mpr ⟨n_X12_row_8, (List.forall_mem_cons.mpr ⟨n_X12_row_9, (List.forall_mem_cons.mpr ⟨n_X12_row_10, (List.forall_mem_cons.mpr ⟨n_X12_row_11, (fun _ h => absurd h List.not_mem_nil)⟩)⟩)⟩)⟩)⟩)⟩)⟩)⟩)⟩)⟩)⟩)⟩)
set_option maxRecDepth 100000 in
set_option maxHeartbeats 4000000 in
theorem k_X12_writes : en_ckM (⟨"EvenStepsModel", "writes", "(JJJJJJ)V"⟩, prog_14_method_25_code, 21, none, p_X12_writes) = true := by decide +kernel
set_option maxRecDepth 100000 in
set_option maxHeartbeats 4000000 in
theorem n_X12_writes_0 : en_lkC "EvenStepsModel" false [(.lconst 0, 1, 0, 0, [], 0, 0), (.lstore 13, 2, 13, 0, [], 0, 0), (.iconst 1, 1, 0, 0, [], 1, 0), (.istore 15, 2, 15, 0, [], 0, 0)] := ⟨trivial, ⟨trivial, ⟨trivial, ⟨trivial, trivial⟩⟩⟩⟩
set_option maxRecDepth 100000 in
set_option maxHeartbeats 4000000 in
theorem n_X12_writes_1 : en_lkC "EvenStepsModel" false [(.iload 15, 2, 15, 0, [], 0, 0), (.sipush 10001, 3, 0, 0, [], 10001, 0), (.if_icmp .gt 93, 3, 4, 0, [], 0, 0), (.lload 11, 2, 11, 0, [], 0, 0), (.iload 15, 2, 15, 0, [], 0, 0), (.i2l, 1, 0, 0, [], 0, 0), (.lmul, 1, 0, 0, [], 0, 0), (.lload_n 1, 1, 1, 0, [], 0, 0), (.lmul, 1, 0, 0, [], 0, 0), (.lload 9, 2, 9, 0, [], 0, 0), (.lload 5, 2, 5, 0, [], 0, 0), (.lmul, 1, 0, 0, [], 0, 0), (.ladd, 1, 0, 0, [], 0, 0), (.lstore 16, 2, 16, 0, [], 0, 0), (.lload 11, 2, 11, 0, [], 0, 0), (.iload 15, 2, 15, 0, [], 0, 0), (.i2l, 1, 0, 0, [], 0, 0), (.lmul, 1, 0, 0, [], 0, 0), (.lload_n 3, 1, 3, 0, [], 0, 0), (.lmul, 1, 0, 0, [], 0, 0), (.lstore 18, 2, 18, 0, [], 0, 0), (.iconst 0, 1, 0, 0, [], 0, 0), (.istore 20, 2, 20, 0, [], 0, 0)] := ⟨trivial, ⟨trivial, ⟨trivial, ⟨trivial, ⟨trivial, ⟨trivial, ⟨trivial, ⟨trivial, ⟨trivial, ⟨trivial, ⟨trivial, ⟨trivial, ⟨trivial, ⟨trivial, ⟨trivial, ⟨trivial, ⟨trivial, ⟨trivial, ⟨trivial, ⟨trivial, ⟨trivial, ⟨trivial, ⟨trivial, trivial⟩⟩⟩⟩⟩⟩⟩⟩⟩⟩⟩⟩⟩⟩⟩⟩⟩⟩⟩⟩⟩⟩⟩
set_option maxRecDepth 100000 in
set_option maxHeartbeats 4000000 in
theorem n_X12_writes_2 : en_lkC "EvenStepsModel" false [(.lload 16, 2, 16, 0, [], 0, 0), (.lload 13, 2, 13, 0, [], 0, 0), (.lconst 1, 1, 0, 0, [], 0, 1), (.ladd, 1, 0, 0, [], 0, 0), (.lload 5, 2, 5, 0, [], 0, 0), (.lmul, 1, 0, 0, [], 0, 0), (.lload 11, 2, 11, 0, [], 0, 0), (.lmul, 1, 0, 0, [], 0, 0), (.lsub, 1, 0, 0, [], 0, 0), (.lload 18, 2, 18, 0, [], 0, 0), (.lload 7, 2, 7, 0, [], 0, 0), (.invokestatic 88, 3, 3, 0, [(0, 134)], 0, 0), (.ifCond .lt 15, 3, 3, 0, [], 0, 0), (.lload 13, 2, 13, 0, [], 0, 0), (.lconst 1, 1, 0, 0, [], 0, 1), (.ladd, 1, 0, 0, [], 0, 0), (.lstore 13, 2, 13, 0, [], 0, 0), (.iinc 20 1, 3, 20, 0, [], 1, 0), (.goto (-32), 3, 2, 0, [], 0, 0)] := ⟨trivial, ⟨trivial, ⟨trivial, ⟨trivial, ⟨trivial, ⟨trivial, ⟨trivial, ⟨trivial, ⟨trivial, ⟨trivial, ⟨trivial, ⟨lk_339, ⟨trivial, ⟨trivial, ⟨trivial, ⟨trivial, ⟨trivial, ⟨trivial, ⟨trivial, trivial⟩⟩⟩⟩⟩⟩⟩⟩⟩⟩⟩⟩⟩⟩⟩⟩⟩⟩⟩
set_option maxRecDepth 100000 in
set_option maxHeartbeats 4000000 in
theorem n_X12_writes_3 : en_lkC "EvenStepsModel" false [(.aload_n 0, 1, 0, 0, [], 0, 0), (.getfield 32, 3, 10, 2, [(11, 0)], 0, 0), (.sipush 10001, 3, 0, 0, [], 10001, 0), (.aload_n 0, 1, 0, 0, [], 0, 0), (.getfield 155, 3, 1, 0, [(11, 0)], 0, 0), (.imul, 1, 0, 0, [], 0, 0), (.iload 15, 2, 15, 0, [], 0, 0), (.iadd, 1, 0, 0, [], 0, 0), (.iconst 1, 1, 0, 0, [], 1, 0), (.isub, 1, 0, 0, [], 0, 0), (.iload 20, 2, 20, 0, [], 0, 0), (.iastore, 1, 0, 0, [], 0, 0), (.iinc 15 1, 3, 15, 0, [], 1, 0), (.goto (-95), 3, 1, 0, [], 0, 0)] := ⟨trivial, ⟨lk_372, ⟨trivial, ⟨trivial, ⟨lk_368, ⟨trivial, ⟨trivial, ⟨trivial, ⟨trivial, ⟨trivial, ⟨trivial, ⟨trivial, ⟨trivial, ⟨trivial, trivial⟩⟩⟩⟩⟩⟩⟩⟩⟩⟩⟩⟩⟩⟩
set_option maxRecDepth 100000 in
set_option maxHeartbeats 4000000 in
theorem n_X12_writes_4 : en_lkC "EvenStepsModel" false [(.aload_n 0, 1, 0, 0, [], 0, 0), (.getfield 25, 3, 8, 2, [(11, 0)], 0, 0), (.aload_n 0, 1, 0, 0, [], 0, 0), (.getfield 155, 3, 1, 0, [(11, 0)], 0, 0), (.sipush 10001, 3, 0, 0, [], 10001, 0), (.iastore, 1, 0, 0, [], 0, 0), (.return_, 1, 0, 0, [], 0, 0)] := ⟨trivial, ⟨lk_373, ⟨trivial, ⟨lk_368, ⟨trivial, ⟨trivial, ⟨trivial, trivial⟩⟩⟩⟩⟩⟩⟩
set_option maxRecDepth 100000 in
set_option maxHeartbeats 4000000 in
theorem n_X12_writes : en_lkM (⟨"EvenStepsModel", "writes", "(JJJJJJ)V"⟩, prog_14_method_25_code, 21, none, p_X12_writes) := (List.forall_mem_cons.mpr ⟨n_X12_writes_0, (List.forall_mem_cons.mpr ⟨n_X12_writes_1, (List.forall_mem_cons.mpr ⟨n_X12_writes_2, (List.forall_mem_cons.mpr ⟨n_X12_writes_3, (List.forall_mem_cons.mpr ⟨n_X12_writes_4, (fun _ h => absurd h List.not_mem_nil)⟩)⟩)⟩)⟩)⟩)
set_option maxRecDepth 100000 in
set_option maxHeartbeats 4000000 in
theorem k_X12_even : en_ckM (⟨"EvenStepsModel", "even", "(III)I"⟩, prog_14_method_26_code, 4, (some .int), p_X12_even) = true := by decide +kernel
set_option maxRecDepth 100000 in
set_option maxHeartbeats 4000000 in
theorem n_X12_even_0 : en_lkC "EvenStepsModel" false [(.aload_n 0, 1, 0, 0, [], 0, 0), (.iload_n 1, 1, 1, 0, [], 0, 0), (.invokevirtual 114, 3, 1, 3, [(11, 137)], 0, 0), (.ifCond .eq 24, 3, 1, 0, [], 0, 0), (.iload_n 3, 1, 3, 0, [], 0, 0), (.iconst 1, 1, 0, 0, [], 1, 0), (.bipush 100, 2, 0, 0, [], 100, 0), (.invokestatic 99, 3, 3, 3, [(0, 133)], 0, 0), (.ifCond .eq 14, 3, 1, 0, [], 0, 0), (.iload_n 2, 1, 2, 0, [], 0, 0), (.iconst 0, 1, 0, 0, [], 0, 0), (.iload_n 3, 1, 3, 0, [], 0, 0), (.iconst 1, 1, 0, 0, [], 1, 0), (.isub, 1, 0, 0, [], 0, 0), (.invokestatic 99, 3, 3, 3, [(0, 133)], 0, 0), (.ifCond .ne 9, 3, 2, 0, [], 0, 0)] := ⟨trivial, ⟨trivial, ⟨lk_347, ⟨trivial, ⟨trivial, ⟨trivial, ⟨trivial, ⟨lk_342, ⟨trivial, ⟨trivial, ⟨trivial, ⟨trivial, ⟨trivial, ⟨trivial, ⟨lk_342, ⟨trivial, trivial⟩⟩⟩⟩⟩⟩⟩⟩⟩⟩⟩⟩⟩⟩⟩⟩
set_option maxRecDepth 100000 in
set_option maxHeartbeats 4000000 in
theorem n_X12_even_1 : en_lkC "EvenStepsModel" false [(.aload_n 0, 1, 0, 0, [], 0, 0), (.iconst 1, 1, 0, 0, [], 1, 0), (.invokevirtual 103, 3, 1, 0, [(11, 131)], 0, 0), (.ireturn, 1, 0, 0, [], 0, 0)] := ⟨trivial, ⟨trivial, ⟨lk_343, ⟨trivial, trivial⟩⟩⟩⟩
set_option maxRecDepth 100000 in
set_option maxHeartbeats 4000000 in
theorem n_X12_even_2 : en_lkC "EvenStepsModel" false [(.aload_n 0, 1, 0, 0, [], 0, 0), (.getfield 155, 3, 1, 0, [(11, 0)], 0, 0), (.bipush 10, 2, 0, 0, [], 10, 0), (.if_icmp .ne 9, 3, 3, 0, [], 0, 0), (.aload_n 0, 1, 0, 0, [], 0, 0), (.iconst 2, 1, 0, 0, [], 2, 0), (.invokevirtual 103, 3, 1, 0, [(11, 131)], 0, 0), (.ireturn, 1, 0, 0, [], 0, 0)] := ⟨trivial, ⟨lk_368, ⟨trivial, ⟨trivial, ⟨trivial, ⟨trivial, ⟨lk_343, ⟨trivial, trivial⟩⟩⟩⟩⟩⟩⟩⟩
set_option maxRecDepth 100000 in
set_option maxHeartbeats 4000000 in
theorem n_X12_even_3 : en_lkC "EvenStepsModel" false [(.aload_n 0, 1, 0, 0, [], 0, 0), (.aload_n 0, 1, 0, 0, [], 0, 0), (.getfield 7, 3, 3, 2, [(11, 0)], 0, 0), (.iload_n 1, 1, 1, 0, [], 0, 0), (.iaload, 1, 0, 0, [], 0, 0), (.i2l, 1, 0, 0, [], 0, 0), (.aload_n 0, 1, 0, 0, [], 0, 0), (.getfield 13, 3, 4, 2, [(11, 0)], 0, 0), (.iload_n 1, 1, 1, 0, [], 0, 0), (.iaload, 1, 0, 0, [], 0, 0), (.i2l, 1, 0, 0, [], 0, 0), (.aload_n 0, 1, 0, 0, [], 0, 0), (.getfield 16, 3, 5, 2, [(11, 0)], 0, 0), (.iload_n 1, 1, 1, 0, [], 0, 0), (.iaload, 1, 0, 0, [], 0, 0), (.i2l, 1, 0, 0, [], 0, 0), (.aload_n 0, 1, 0, 0, [], 0, 0), (.getfield 19, 3, 6, 2, [(11, 0)], 0, 0), (.iload_n 1, 1, 1, 0, [], 0, 0), (.iaload, 1, 0, 0, [], 0, 0), (.i2l, 1, 0, 0, [], 0, 0), (.iload_n 2, 1, 2, 0, [], 0, 0), (.i2l, 1, 0, 0, [], 0, 0), (.iload_n 3, 1, 3, 0, [], 0, 0), (.i2l, 1, 0, 0, [], 0, 0), (.invokevirtual 158, 3, 6, 4, [(11, 154)], 0, 0), (.aload_n 0, 1, 0, 0, [], 0, 0), (.getfield 22, 3, 7, 2, [(11, 0)], 0, 0), (.aload_n 0, 1, 0, 0, [], 0, 0), (.getfield 155, 3, 1, 0, [(11, 0)], 0, 0), (.iconst 1, 1, 0, 0, [], 1, 0), (.iastore, 1, 0, 0, [], 0, 0), (.aload_n 0, 1, 0, 0, [], 0, 0), (.getfield 28, 3, 9, 2, [(11, 0)], 0, 0), (.aload_n 0, 1, 0, 0, [], 0, 0), (.getfield 155, 3, 1, 0, [(11, 0)], 0, 0), (.iload_n 1, 1, 1, 0, [], 0, 0), (.iastore, 1, 0, 0, [], 0, 0), (.aload_n 0, 1, 0, 0, [], 0, 0), (.aload_n 0, 1, 0, 0, [], 0, 0), (.dup, 1, 0, 0, [], 0, 0), (.getfield 155, 3, 1, 0, [(11, 0)], 0, 0), (.dup_x1, 1, 0, 0, [], 0, 0), (.iconst 1, 1, 0, 0, [], 1, 0), (.iadd, 1, 0, 0, [], 0, 0), (.putfield 155, 3, 1, 0, [(11, 0)], 0, 0), (.invokevirtual 111, 3, 1, 0, [(11, 132)], 0, 0), (.ireturn, 1, 0, 0, [], 0, 0)] := ⟨trivial, ⟨trivial, ⟨lk_335, ⟨trivial, ⟨trivial, ⟨trivial, ⟨trivial, ⟨lk_337, ⟨trivial, ⟨trivial, ⟨trivial, ⟨trivial, ⟨lk_336, ⟨trivial, ⟨trivial, ⟨trivial, ⟨trivial, ⟨lk_338, ⟨trivial, ⟨trivial, ⟨trivial, ⟨trivial, ⟨trivial, ⟨trivial, ⟨trivial, ⟨lk_377, ⟨trivial, ⟨lk_374, ⟨trivial, ⟨lk_368, ⟨trivial, ⟨trivial, ⟨trivial, ⟨lk_375, ⟨trivial, ⟨lk_368, ⟨trivial, ⟨trivial, ⟨trivial, ⟨trivial, ⟨trivial, ⟨lk_368, ⟨trivial, ⟨trivial, ⟨trivial, ⟨lk_376, ⟨lk_346, ⟨trivial, trivial⟩⟩⟩⟩⟩⟩⟩⟩⟩⟩⟩⟩⟩⟩⟩⟩⟩⟩⟩⟩⟩⟩⟩⟩⟩⟩⟩⟩⟩⟩⟩⟩⟩⟩⟩⟩⟩⟩⟩⟩⟩⟩⟩⟩⟩⟩⟩⟩
set_option maxRecDepth 100000 in
set_option maxHeartbeats 4000000 in
theorem n_X12_even : en_lkM (⟨"EvenStepsModel", "even", "(III)I"⟩, prog_14_method_26_code, 4, (some .int), p_X12_even) := (List.forall_mem_cons.mpr ⟨n_X12_even_0, (List.forall_mem_cons.mpr ⟨n_X12_even_1, (List.forall_mem_cons.mpr ⟨n_X12_even_2, (List.forall_mem_cons.mpr ⟨n_X12_even_3, (fun _ h => absurd h List.not_mem_nil)⟩)⟩)⟩)⟩)
set_option maxRecDepth 100000 in
set_option maxHeartbeats 4000000 in
theorem k_X12_ring : en_ckM (⟨"EvenStepsModel", "ring", "(II)I"⟩, prog_14_method_27_code, 3, (some .int), p_X12_ring) = true := by decide +kernel
set_option maxRecDepth 100000 in
set_option maxHeartbeats 4000000 in
theorem n_X12_ring_0 : en_lkC "EvenStepsModel" false [(.iload_n 2, 1, 2, 0, [], 0, 0), (.iconst 1, 1, 0, 0, [], 1, 0), (.bipush 60, 2, 0, 0, [], 60, 0), (.invokestatic 99, 3, 3, 3, [(0, 133)], 0, 0), (.ifCond .eq 12, 3, 1, 0, [], 0, 0), (.iload_n 1, 1, 1, 0, [], 0, 0), (.iconst 1, 1, 0, 0, [], 1, 0), (.iload_n 2, 1, 2, 0, [], 0, 0), (.invokestatic 99, 3, 3, 3, [(0, 133)], 0, 0), (.ifCond .ne 9, 3, 2, 0, [], 0, 0)] := ⟨trivial, ⟨trivial, ⟨trivial, ⟨lk_342, ⟨trivial, ⟨trivial, ⟨trivial, ⟨trivial, ⟨lk_342, ⟨trivial, trivial⟩⟩⟩⟩⟩⟩⟩⟩⟩⟩
set_option maxRecDepth 100000 in
set_option maxHeartbeats 4000000 in
theorem n_X12_ring_1 : en_lkC "EvenStepsModel" false [(.aload_n 0, 1, 0, 0, [], 0, 0), (.iconst 1, 1, 0, 0, [], 1, 0), (.invokevirtual 103, 3, 1, 0, [(11, 131)], 0, 0), (.ireturn, 1, 0, 0, [], 0, 0)] := ⟨trivial, ⟨trivial, ⟨lk_343, ⟨trivial, trivial⟩⟩⟩⟩
set_option maxRecDepth 100000 in
set_option maxHeartbeats 4000000 in
theorem n_X12_ring_2 : en_lkC "EvenStepsModel" false [(.aload_n 0, 1, 0, 0, [], 0, 0), (.getfield 155, 3, 1, 0, [(11, 0)], 0, 0), (.bipush 10, 2, 0, 0, [], 10, 0), (.if_icmp .ne 9, 3, 3, 0, [], 0, 0), (.aload_n 0, 1, 0, 0, [], 0, 0), (.iconst 2, 1, 0, 0, [], 2, 0), (.invokevirtual 103, 3, 1, 0, [(11, 131)], 0, 0), (.ireturn, 1, 0, 0, [], 0, 0)] := ⟨trivial, ⟨lk_368, ⟨trivial, ⟨trivial, ⟨trivial, ⟨trivial, ⟨lk_343, ⟨trivial, trivial⟩⟩⟩⟩⟩⟩⟩⟩
set_option maxRecDepth 100000 in
set_option maxHeartbeats 4000000 in
theorem n_X12_ring_3 : en_lkC "EvenStepsModel" false [(.aload_n 0, 1, 0, 0, [], 0, 0), (.iload_n 1, 1, 1, 0, [], 0, 0), (.i2l, 1, 0, 0, [], 0, 0), (.lconst 0, 1, 0, 0, [], 0, 0), (.iload_n 2, 1, 2, 0, [], 0, 0), (.i2l, 1, 0, 0, [], 0, 0), (.ldc2_w 124, 3, 0, 0, [], 0, 2), (.lconst 0, 1, 0, 0, [], 0, 0), (.lconst 1, 1, 0, 0, [], 0, 1), (.invokevirtual 158, 3, 6, 4, [(11, 154)], 0, 0), (.aload_n 0, 1, 0, 0, [], 0, 0), (.getfield 22, 3, 7, 2, [(11, 0)], 0, 0), (.aload_n 0, 1, 0, 0, [], 0, 0), (.getfield 155, 3, 1, 0, [(11, 0)], 0, 0), (.iconst 2, 1, 0, 0, [], 2, 0), (.iastore, 1, 0, 0, [], 0, 0), (.aload_n 0, 1, 0, 0, [], 0, 0), (.getfield 28, 3, 9, 2, [(11, 0)], 0, 0), (.aload_n 0, 1, 0, 0, [], 0, 0), (.getfield 155, 3, 1, 0, [(11, 0)], 0, 0), (.iconst (-1), 1, 0, 0, [], (-1), 0), (.iastore, 1, 0, 0, [], 0, 0), (.aload_n 0, 1, 0, 0, [], 0, 0), (.aload_n 0, 1, 0, 0, [], 0, 0), (.dup, 1, 0, 0, [], 0, 0), (.getfield 155, 3, 1, 0, [(11, 0)], 0, 0), (.dup_x1, 1, 0, 0, [], 0, 0), (.iconst 1, 1, 0, 0, [], 1, 0), (.iadd, 1, 0, 0, [], 0, 0), (.putfield 155, 3, 1, 0, [(11, 0)], 0, 0), (.invokevirtual 111, 3, 1, 0, [(11, 132)], 0, 0), (.ireturn, 1, 0, 0, [], 0, 0)] := ⟨trivial, ⟨trivial, ⟨trivial, ⟨trivial, ⟨trivial, ⟨trivial, ⟨wd_1102, ⟨trivial, ⟨trivial, ⟨lk_377, ⟨trivial, ⟨lk_374, ⟨trivial, ⟨lk_368, ⟨trivial, ⟨trivial, ⟨trivial, ⟨lk_375, ⟨trivial, ⟨lk_368, ⟨trivial, ⟨trivial, ⟨trivial, ⟨trivial, ⟨trivial, ⟨lk_368, ⟨trivial, ⟨trivial, ⟨trivial, ⟨lk_376, ⟨lk_346, ⟨trivial, trivial⟩⟩⟩⟩⟩⟩⟩⟩⟩⟩⟩⟩⟩⟩⟩⟩⟩⟩⟩⟩⟩⟩⟩⟩⟩⟩⟩⟩⟩⟩⟩⟩
set_option maxRecDepth 100000 in
set_option maxHeartbeats 4000000 in
theorem n_X12_ring : en_lkM (⟨"EvenStepsModel", "ring", "(II)I"⟩, prog_14_method_27_code, 3, (some .int), p_X12_ring) := (List.forall_mem_cons.mpr ⟨n_X12_ring_0, (List.forall_mem_cons.mpr ⟨n_X12_ring_1, (List.forall_mem_cons.mpr ⟨n_X12_ring_2, (List.forall_mem_cons.mpr ⟨n_X12_ring_3, (fun _ h => absurd h List.not_mem_nil)⟩)⟩)⟩)⟩)
set_option maxRecDepth 100000 in
set_option maxHeartbeats 4000000 in
theorem k_X12_cut : en_ckM (⟨"EvenStepsModel", "cut", "(IIIII)I"⟩, prog_14_method_28_code, 11, (some .int), p_X12_cut) = true := by decide +kernel
set_option maxRecDepth 100000 in
set_option maxHeartbeats 4000000 in
theorem n_X12_cut_0 : en_lkC "EvenStepsModel" false [(.aload_n 0, 1, 0, 0, [], 0, 0), (.iload_n 1, 1, 1, 0, [], 0, 0), (.invokevirtual 162, 3, 1, 3, [(11, 152)], 0, 0), (.ifCond .eq 24, 3, 1, 0, [], 0, 0), (.iload_n 3, 1, 3, 0, [], 0, 0), (.iconst 1, 1, 0, 0, [], 1, 0), (.bipush 6, 2, 0, 0, [], 6, 0), (.invokestatic 99, 3, 3, 3, [(0, 133)], 0, 0), (.ifCond .eq 14, 3, 1, 0, [], 0, 0), (.iload 5, 2, 5, 0, [], 0, 0), (.iconst 1, 1, 0, 0, [], 1, 0), (.bipush 6, 2, 0, 0, [], 6, 0), (.invokestatic 99, 3, 3, 3, [(0, 133)], 0, 0), (.ifCond .ne 9, 3, 2, 0, [], 0, 0)] := ⟨trivial, ⟨trivial, ⟨lk_378, ⟨trivial, ⟨trivial, ⟨trivial, ⟨trivial, ⟨lk_342, ⟨trivial, ⟨trivial, ⟨trivial, ⟨trivial, ⟨lk_342, ⟨trivial, trivial⟩⟩⟩⟩⟩⟩⟩⟩⟩⟩⟩⟩⟩⟩
set_option maxRecDepth 100000 in
set_option maxHeartbeats 4000000 in
theorem n_X12_cut_1 : en_lkC "EvenStepsModel" false [(.aload_n 0, 1, 0, 0, [], 0, 0), (.iconst 1, 1, 0, 0, [], 1, 0), (.invokevirtual 103, 3, 1, 0, [(11, 131)], 0, 0), (.ireturn, 1, 0, 0, [], 0, 0)] := ⟨trivial, ⟨trivial, ⟨lk_343, ⟨trivial, trivial⟩⟩⟩⟩
set_option maxRecDepth 100000 in
set_option maxHeartbeats 4000000 in
theorem n_X12_cut_2 : en_lkC "EvenStepsModel" false [(.iload_n 2, 1, 2, 0, [], 0, 0), (.iconst 0, 1, 0, 0, [], 0, 0), (.iconst 1, 1, 0, 0, [], 1, 0), (.iload_n 3, 1, 3, 0, [], 0, 0), (.ishl, 1, 0, 0, [], 0, 0), (.iconst 1, 1, 0, 0, [], 1, 0), (.isub, 1, 0, 0, [], 0, 0), (.invokestatic 99, 3, 3, 3, [(0, 133)], 0, 0), (.ifCond .eq 18, 3, 3, 0, [], 0, 0), (.iload 4, 2, 4, 0, [], 0, 0), (.iconst 0, 1, 0, 0, [], 0, 0), (.iconst 1, 1, 0, 0, [], 1, 0), (.iload 5, 2, 5, 0, [], 0, 0), (.ishl, 1, 0, 0, [], 0, 0), (.iconst 1, 1, 0, 0, [], 1, 0), (.isub, 1, 0, 0, [], 0, 0), (.invokestatic 99, 3, 3, 3, [(0, 133)], 0, 0), (.ifCond .ne 9, 3, 4, 0, [], 0, 0)] := ⟨trivial, ⟨trivial, ⟨trivial, ⟨trivial, ⟨trivial, ⟨trivial, ⟨trivial, ⟨lk_342, ⟨trivial, ⟨trivial, ⟨trivial, ⟨trivial, ⟨trivial, ⟨trivial, ⟨trivial, ⟨trivial, ⟨lk_342, ⟨trivial, trivial⟩⟩⟩⟩⟩⟩⟩⟩⟩⟩⟩⟩⟩⟩⟩⟩⟩⟩
set_option maxRecDepth 100000 in
set_option maxHeartbeats 4000000 in
theorem n_X12_cut_3 : en_lkC "EvenStepsModel" false [(.aload_n 0, 1, 0, 0, [], 0, 0), (.iconst 1, 1, 0, 0, [], 1, 0), (.invokevirtual 103, 3, 1, 0, [(11, 131)], 0, 0), (.ireturn, 1, 0, 0, [], 0, 0)] := ⟨trivial, ⟨trivial, ⟨lk_343, ⟨trivial, trivial⟩⟩⟩⟩
set_option maxRecDepth 100000 in
set_option maxHeartbeats 4000000 in
theorem n_X12_cut_4 : en_lkC "EvenStepsModel" false [(.aload_n 0, 1, 0, 0, [], 0, 0), (.getfield 155, 3, 1, 0, [(11, 0)], 0, 0), (.bipush 10, 2, 0, 0, [], 10, 0), (.if_icmp .ne 9, 3, 5, 0, [], 0, 0), (.aload_n 0, 1, 0, 0, [], 0, 0), (.iconst 2, 1, 0, 0, [], 2, 0), (.invokevirtual 103, 3, 1, 0, [(11, 131)], 0, 0), (.ireturn, 1, 0, 0, [], 0, 0)] := ⟨trivial, ⟨lk_368, ⟨trivial, ⟨trivial, ⟨trivial, ⟨trivial, ⟨lk_343, ⟨trivial, trivial⟩⟩⟩⟩⟩⟩⟩⟩
set_option maxRecDepth 100000 in
set_option maxHeartbeats 4000000 in
theorem n_X12_cut_5 : en_lkC "EvenStepsModel" false [(.iconst 0, 1, 0, 0, [], 0, 0), (.istore 6, 2, 6, 0, [], 0, 0), (.iconst 0, 1, 0, 0, [], 0, 0), (.istore 7, 2, 7, 0, [], 0, 0)] := ⟨trivial, ⟨trivial, ⟨trivial, ⟨trivial, trivial⟩⟩⟩⟩
set_option maxRecDepth 100000 in
set_option maxHeartbeats 4000000 in
theorem n_X12_cut_6 : en_lkC "EvenStepsModel" false [(.iload 6, 2, 6, 0, [], 0, 0), (.sipush 10001, 3, 0, 0, [], 10001, 0), (.if_icmp .ge 133, 3, 15, 0, [], 0, 0), (.iload 7, 2, 7, 0, [], 0, 0), (.aload_n 0, 1, 0, 0, [], 0, 0), (.getfield 25, 3, 8, 2, [(11, 0)], 0, 0), (.iload_n 1, 1, 1, 0, [], 0, 0), (.iaload, 1, 0, 0, [], 0, 0), (.if_icmp .ge 122, 3, 15, 0, [], 0, 0), (.aload_n 0, 1, 0, 0, [], 0, 0), (.getfield 32, 3, 10, 2, [(11, 0)], 0, 0), (.sipush 10001, 3, 0, 0, [], 10001, 0), (.iload_n 1, 1, 1, 0, [], 0, 0), (.imul, 1, 0, 0, [], 0, 0), (.iload 7, 2, 7, 0, [], 0, 0), (.iadd, 1, 0, 0, [], 0, 0), (.iaload, 1, 0, 0, [], 0, 0), (.iconst 1, 1, 0, 0, [], 1, 0), (.if_icmp .gt 105, 3, 15, 0, [], 0, 0), (.aload_n 0, 1, 0, 0, [], 0, 0), (.getfield 32, 3, 10, 2, [(11, 0)], 0, 0), (.sipush 10001, 3, 0, 0, [], 10001, 0), (.iload_n 1, 1, 1, 0, [], 0, 0), (.imul, 1, 0, 0, [], 0, 0), (.iload 7, 2, 7, 0, [], 0, 0), (.iadd, 1, 0, 0, [], 0, 0), (.iaload, 1, 0, 0, [], 0, 0), (.iconst 1, 1, 0, 0, [], 1, 0), (.if_icmp .ne 7, 3, 7, 0, [], 0, 0), (.iconst 1, 1, 0, 0, [], 1, 0), (.goto 4, 3, 8, 0, [], 0, 0)] := ⟨trivial, ⟨trivial, ⟨trivial, ⟨trivial, ⟨trivial, ⟨lk_373, ⟨trivial, ⟨trivial, ⟨trivial, ⟨trivial, ⟨lk_372, ⟨trivial, ⟨trivial, ⟨trivial, ⟨trivial, ⟨trivial, ⟨trivial, ⟨trivial, ⟨trivial, ⟨trivial, ⟨lk_372, ⟨trivial, ⟨trivial, ⟨trivial, ⟨trivial, ⟨trivial, ⟨trivial, ⟨trivial, ⟨trivial, ⟨trivial, ⟨trivial, trivial⟩⟩⟩⟩⟩⟩⟩⟩⟩⟩⟩⟩⟩⟩⟩⟩⟩⟩⟩⟩⟩⟩⟩⟩⟩⟩⟩⟩⟩⟩⟩
set_option maxRecDepth 100000 in
set_option maxHeartbeats 4000000 in
theorem n_X12_cut_7 : en_lkC "EvenStepsModel" false [(.iconst 0, 1, 0, 0, [], 0, 0)] := ⟨trivial, trivial⟩
set_option maxRecDepth 100000 in
set_option maxHeartbeats 4000000 in
theorem n_X12_cut_8 : en_lkC "EvenStepsModel" false [(.istore 8, 2, 8, 0, [], 0, 0), (.iload 8, 2, 8, 0, [], 0, 0), (.ifCond .eq 8, 3, 9, 0, [], 0, 0), (.iload 5, 2, 5, 0, [], 0, 0), (.goto 4, 3, 10, 0, [], 0, 0)] := ⟨trivial, ⟨trivial, ⟨trivial, ⟨trivial, ⟨trivial, trivial⟩⟩⟩⟩⟩
set_option maxRecDepth 100000 in
set_option maxHeartbeats 4000000 in
theorem n_X12_cut_9 : en_lkC "EvenStepsModel" false [(.iload_n 3, 1, 3, 0, [], 0, 0)] := ⟨trivial, trivial⟩
set_option maxRecDepth 100000 in
set_option maxHeartbeats 4000000 in
theorem n_X12_cut_10 : en_lkC "EvenStepsModel" false [(.istore 9, 2, 9, 0, [], 0, 0), (.iconst 0, 1, 0, 0, [], 0, 0), (.istore 10, 2, 10, 0, [], 0, 0)] := ⟨trivial, ⟨trivial, ⟨trivial, trivial⟩⟩⟩
set_option maxRecDepth 100000 in
set_option maxHeartbeats 4000000 in
theorem n_X12_cut_11 : en_lkC "EvenStepsModel" false [(.iload 10, 2, 10, 0, [], 0, 0), (.iload 9, 2, 9, 0, [], 0, 0), (.if_icmp .ge 52, 3, 14, 0, [], 0, 0), (.iload 6, 2, 6, 0, [], 0, 0), (.sipush 10001, 3, 0, 0, [], 10001, 0), (.if_icmp .ge 44, 3, 14, 0, [], 0, 0), (.aload_n 0, 1, 0, 0, [], 0, 0), (.getfield 32, 3, 10, 2, [(11, 0)], 0, 0), (.sipush 10001, 3, 0, 0, [], 10001, 0), (.aload_n 0, 1, 0, 0, [], 0, 0), (.getfield 155, 3, 1, 0, [(11, 0)], 0, 0), (.imul, 1, 0, 0, [], 0, 0), (.iload 6, 2, 6, 0, [], 0, 0), (.iinc 6 1, 3, 6, 0, [], 1, 0), (.iadd, 1, 0, 0, [], 0, 0), (.iload 8, 2, 8, 0, [], 0, 0), (.ifCond .eq 8, 3, 12, 0, [], 0, 0), (.iload 4, 2, 4, 0, [], 0, 0), (.goto 4, 3, 13, 0, [], 0, 0)] := ⟨trivial, ⟨trivial, ⟨trivial, ⟨trivial, ⟨trivial, ⟨trivial, ⟨trivial, ⟨lk_372, ⟨trivial, ⟨trivial, ⟨lk_368, ⟨trivial, ⟨trivial, ⟨trivial, ⟨trivial, ⟨trivial, ⟨trivial, ⟨trivial, ⟨trivial, trivial⟩⟩⟩⟩⟩⟩⟩⟩⟩⟩⟩⟩⟩⟩⟩⟩⟩⟩⟩
set_option maxRecDepth 100000 in
set_option maxHeartbeats 4000000 in
theorem n_X12_cut_12 : en_lkC "EvenStepsModel" false [(.iload_n 2, 1, 2, 0, [], 0, 0)] := ⟨trivial, trivial⟩
set_option maxRecDepth 100000 in
set_option maxHeartbeats 4000000 in
theorem n_X12_cut_13 : en_lkC "EvenStepsModel" false [(.iload 10, 2, 10, 0, [], 0, 0), (.ishr, 1, 0, 0, [], 0, 0), (.iconst 1, 1, 0, 0, [], 1, 0), (.iand, 1, 0, 0, [], 0, 0), (.iastore, 1, 0, 0, [], 0, 0), (.iinc 10 1, 3, 10, 0, [], 1, 0), (.goto (-53), 3, 11, 0, [], 0, 0)] := ⟨trivial, ⟨trivial, ⟨trivial, ⟨trivial, ⟨trivial, ⟨trivial, ⟨trivial, trivial⟩⟩⟩⟩⟩⟩⟩
set_option maxRecDepth 100000 in
set_option maxHeartbeats 4000000 in
theorem n_X12_cut_14 : en_lkC "EvenStepsModel" false [(.iinc 7 1, 3, 7, 0, [], 1, 0), (.goto (-135), 3, 6, 0, [], 0, 0)] := ⟨trivial, ⟨trivial, trivial⟩⟩
set_option maxRecDepth 100000 in
set_option maxHeartbeats 4000000 in
theorem n_X12_cut_15 : en_lkC "EvenStepsModel" false [(.aload_n 0, 1, 0, 0, [], 0, 0), (.getfield 25, 3, 8, 2, [(11, 0)], 0, 0), (.aload_n 0, 1, 0, 0, [], 0, 0), (.getfield 155, 3, 1, 0, [(11, 0)], 0, 0), (.iload 6, 2, 6, 0, [], 0, 0), (.iastore, 1, 0, 0, [], 0, 0), (.aload_n 0, 1, 0, 0, [], 0, 0), (.getfield 22, 3, 7, 2, [(11, 0)], 0, 0), (.aload_n 0, 1, 0, 0, [], 0, 0), (.getfield 155, 3, 1, 0, [(11, 0)], 0, 0), (.iconst 3, 1, 0, 0, [], 3, 0), (.iastore, 1, 0, 0, [], 0, 0), (.aload_n 0, 1, 0, 0, [], 0, 0), (.getfield 28, 3, 9, 2, [(11, 0)], 0, 0), (.aload_n 0, 1, 0, 0, [], 0, 0), (.getfield 155, 3, 1, 0, [(11, 0)], 0, 0), (.iconst (-1), 1, 0, 0, [], (-1), 0), (.iastore, 1, 0, 0, [], 0, 0), (.aload_n 0, 1, 0, 0, [], 0, 0), (.aload_n 0, 1, 0, 0, [], 0, 0), (.dup, 1, 0, 0, [], 0, 0), (.getfield 155, 3, 1, 0, [(11, 0)], 0, 0), (.dup_x1, 1, 0, 0, [], 0, 0), (.iconst 1, 1, 0, 0, [], 1, 0), (.iadd, 1, 0, 0, [], 0, 0), (.putfield 155, 3, 1, 0, [(11, 0)], 0, 0), (.invokevirtual 111, 3, 1, 0, [(11, 132)], 0, 0), (.ireturn, 1, 0, 0, [], 0, 0)] := ⟨trivial, ⟨lk_373, ⟨trivial, ⟨lk_368, ⟨trivial, ⟨trivial, ⟨trivial, ⟨lk_374, ⟨trivial, ⟨lk_368, ⟨trivial, ⟨trivial, ⟨trivial, ⟨lk_375, ⟨trivial, ⟨lk_368, ⟨trivial, ⟨trivial, ⟨trivial, ⟨trivial, ⟨trivial, ⟨lk_368, ⟨trivial, ⟨trivial, ⟨trivial, ⟨lk_376, ⟨lk_346, ⟨trivial, trivial⟩⟩⟩⟩⟩⟩⟩⟩⟩⟩⟩⟩⟩⟩⟩⟩⟩⟩⟩⟩⟩⟩⟩⟩⟩⟩⟩⟩
set_option maxRecDepth 100000 in
set_option maxHeartbeats 4000000 in
theorem n_X12_cut : en_lkM (⟨"EvenStepsModel", "cut", "(IIIII)I"⟩, prog_14_method_28_code, 11, (some .int), p_X12_cut) := (List.forall_mem_cons.mpr ⟨n_X12_cut_0, (List.forall_mem_cons.mpr ⟨n_X12_cut_1, (List.forall_mem_cons.mpr ⟨n_X12_cut_2, (List.forall_mem_cons.mpr ⟨n_X12_cut_3, (List.forall_mem_cons.mpr ⟨n_X12_cut_4, (List.forall_mem_cons.mpr ⟨n_X12_cut_5, (List.forall_mem_cons.mpr ⟨n_X12_cut_6, (List.forall_mem_cons.mpr ⟨n_X12_cut_7, (List.forall_mem_cons.mpr ⟨n_X12_cut_8, (List.forall_mem_cons.mpr ⟨n_X12_cut_9, (List.forall_mem_cons.mpr ⟨n_X12_cut_10, (List.forall_mem_cons.mpr ⟨n_X12_cut_11, (List.forall_mem_cons.mpr ⟨n_X12_cut_12, (List.forall_mem_cons.mpr ⟨n_X12_cut_13, (List.forall_mem_cons.mpr ⟨n_X12_cut_14, (List.forall_mem_cons.mpr ⟨n_X12_cut_15, (fun _ h => absurd h List.not_mem_nil)⟩)⟩)⟩)⟩)⟩)⟩)⟩)⟩)⟩)⟩)⟩)⟩)⟩)⟩)⟩)⟩)
set_option maxRecDepth 100000 in
set_option maxHeartbeats 4000000 in
theorem k_X12_points : en_ckM (⟨"EvenStepsModel", "points", "(I)I"⟩, prog_14_method_29_code, 2, (some .int), p_X12_points) = true := by decide +kernel
set_option maxRecDepth 100000 in
set_option maxHeartbeats 4000000 in
theorem n_X12_points_0 : en_lkC "EvenStepsModel" false [(.aload_n 0, 1, 0, 0, [], 0, 0), (.iload_n 1, 1, 1, 0, [], 0, 0), (.invokevirtual 114, 3, 1, 3, [(11, 137)], 0, 0), (.ifCond .ne 9, 3, 1, 0, [], 0, 0), (.aload_n 0, 1, 0, 0, [], 0, 0), (.iconst 1, 1, 0, 0, [], 1, 0), (.invokevirtual 103, 3, 1, 0, [(11, 131)], 0, 0), (.ireturn, 1, 0, 0, [], 0, 0)] := ⟨trivial, ⟨trivial, ⟨lk_347, ⟨trivial, ⟨trivial, ⟨trivial, ⟨lk_343, ⟨trivial, trivial⟩⟩⟩⟩⟩⟩⟩⟩
set_option maxRecDepth 100000 in
set_option maxHeartbeats 4000000 in
theorem n_X12_points_1 : en_lkC "EvenStepsModel" false [(.aload_n 0, 1, 0, 0, [], 0, 0), (.getfield 155, 3, 1, 0, [(11, 0)], 0, 0), (.bipush 10, 2, 0, 0, [], 10, 0), (.if_icmp .ne 9, 3, 2, 0, [], 0, 0), (.aload_n 0, 1, 0, 0, [], 0, 0), (.iconst 2, 1, 0, 0, [], 2, 0), (.invokevirtual 103, 3, 1, 0, [(11, 131)], 0, 0), (.ireturn, 1, 0, 0, [], 0, 0)] := ⟨trivial, ⟨lk_368, ⟨trivial, ⟨trivial, ⟨trivial, ⟨trivial, ⟨lk_343, ⟨trivial, trivial⟩⟩⟩⟩⟩⟩⟩⟩
set_option maxRecDepth 100000 in
set_option maxHeartbeats 4000000 in
theorem n_X12_points_2 : en_lkC "EvenStepsModel" false [(.aload_n 0, 1, 0, 0, [], 0, 0), (.aload_n 0, 1, 0, 0, [], 0, 0), (.getfield 7, 3, 3, 2, [(11, 0)], 0, 0), (.iload_n 1, 1, 1, 0, [], 0, 0), (.iaload, 1, 0, 0, [], 0, 0), (.i2l, 1, 0, 0, [], 0, 0), (.aload_n 0, 1, 0, 0, [], 0, 0), (.getfield 13, 3, 4, 2, [(11, 0)], 0, 0), (.iload_n 1, 1, 1, 0, [], 0, 0), (.iaload, 1, 0, 0, [], 0, 0), (.i2l, 1, 0, 0, [], 0, 0), (.aload_n 0, 1, 0, 0, [], 0, 0), (.getfield 16, 3, 5, 2, [(11, 0)], 0, 0), (.iload_n 1, 1, 1, 0, [], 0, 0), (.iaload, 1, 0, 0, [], 0, 0), (.i2l, 1, 0, 0, [], 0, 0), (.aload_n 0, 1, 0, 0, [], 0, 0), (.getfield 19, 3, 6, 2, [(11, 0)], 0, 0), (.iload_n 1, 1, 1, 0, [], 0, 0), (.iaload, 1, 0, 0, [], 0, 0), (.i2l, 1, 0, 0, [], 0, 0), (.lconst 0, 1, 0, 0, [], 0, 0), (.lconst 1, 1, 0, 0, [], 0, 1), (.invokevirtual 158, 3, 6, 4, [(11, 154)], 0, 0), (.aload_n 0, 1, 0, 0, [], 0, 0), (.getfield 22, 3, 7, 2, [(11, 0)], 0, 0), (.aload_n 0, 1, 0, 0, [], 0, 0), (.getfield 155, 3, 1, 0, [(11, 0)], 0, 0), (.iconst 4, 1, 0, 0, [], 4, 0), (.iastore, 1, 0, 0, [], 0, 0), (.aload_n 0, 1, 0, 0, [], 0, 0), (.getfield 28, 3, 9, 2, [(11, 0)], 0, 0), (.aload_n 0, 1, 0, 0, [], 0, 0), (.getfield 155, 3, 1, 0, [(11, 0)], 0, 0), (.iload_n 1, 1, 1, 0, [], 0, 0), (.iastore, 1, 0, 0, [], 0, 0), (.aload_n 0, 1, 0, 0, [], 0, 0), (.aload_n 0, 1, 0, 0, [], 0, 0), (.dup, 1, 0, 0, [], 0, 0), (.getfield 155, 3, 1, 0, [(11, 0)], 0, 0), (.dup_x1, 1, 0, 0, [], 0, 0), (.iconst 1, 1, 0, 0, [], 1, 0), (.iadd, 1, 0, 0, [], 0, 0), (.putfield 155, 3, 1, 0, [(11, 0)], 0, 0), (.invokevirtual 111, 3, 1, 0, [(11, 132)], 0, 0), (.ireturn, 1, 0, 0, [], 0, 0)] := ⟨trivial, ⟨trivial, ⟨lk_335, ⟨trivial, ⟨trivial, ⟨trivial, ⟨trivial, ⟨lk_337, ⟨trivial, ⟨trivial, ⟨trivial, ⟨trivial, ⟨lk_336, ⟨trivial, ⟨trivial, ⟨trivial, ⟨trivial, ⟨lk_338, ⟨trivial, ⟨trivial, ⟨trivial, ⟨trivial, ⟨trivial, ⟨lk_377, ⟨trivial, ⟨lk_374, ⟨trivial, ⟨lk_368, ⟨trivial, ⟨trivial, ⟨trivial, ⟨lk_375, ⟨trivial, ⟨lk_368, ⟨trivial, ⟨trivial, ⟨trivial, ⟨trivial, ⟨trivial, ⟨lk_368, ⟨trivial, ⟨trivial, ⟨trivial, ⟨lk_376, ⟨lk_346, ⟨trivial, trivial⟩⟩⟩⟩⟩⟩⟩⟩⟩⟩⟩⟩⟩⟩⟩⟩⟩⟩⟩⟩⟩⟩⟩⟩⟩⟩⟩⟩⟩⟩⟩⟩⟩⟩⟩⟩⟩⟩⟩⟩⟩⟩⟩⟩⟩⟩
set_option maxRecDepth 100000 in
set_option maxHeartbeats 4000000 in
theorem n_X12_points : en_lkM (⟨"EvenStepsModel", "points", "(I)I"⟩, prog_14_method_29_code, 2, (some .int), p_X12_points) := (List.forall_mem_cons.mpr ⟨n_X12_points_0, (List.forall_mem_cons.mpr ⟨n_X12_points_1, (List.forall_mem_cons.mpr ⟨n_X12_points_2, (fun _ h => absurd h List.not_mem_nil)⟩)⟩)⟩)
set_option maxRecDepth 100000 in
set_option maxHeartbeats 4000000 in
theorem k_X12_drop : en_ckM (⟨"EvenStepsModel", "drop", "(I)I"⟩, prog_14_method_30_code, 3, (some .int), p_X12_drop) = true := by decide +kernel
set_option maxRecDepth 100000 in
set_option maxHeartbeats 4000000 in
theorem n_X12_drop_0 : en_lkC "EvenStepsModel" false [(.iload_n 1, 1, 1, 0, [], 0, 0), (.ifCond .ne 32, 3, 2, 0, [], 0, 0), (.aload_n 0, 1, 0, 0, [], 0, 0), (.getfield 155, 3, 1, 0, [(11, 0)], 0, 0), (.ifCond .ne 9, 3, 1, 0, [], 0, 0), (.aload_n 0, 1, 0, 0, [], 0, 0), (.iconst 3, 1, 0, 0, [], 3, 0), (.invokevirtual 103, 3, 1, 0, [(11, 131)], 0, 0), (.ireturn, 1, 0, 0, [], 0, 0)] := ⟨trivial, ⟨trivial, ⟨trivial, ⟨lk_368, ⟨trivial, ⟨trivial, ⟨trivial, ⟨lk_343, ⟨trivial, trivial⟩⟩⟩⟩⟩⟩⟩⟩⟩
set_option maxRecDepth 100000 in
set_option maxHeartbeats 4000000 in
theorem n_X12_drop_1 : en_lkC "EvenStepsModel" false [(.aload_n 0, 1, 0, 0, [], 0, 0), (.aload_n 0, 1, 0, 0, [], 0, 0), (.dup, 1, 0, 0, [], 0, 0), (.getfield 155, 3, 1, 0, [(11, 0)], 0, 0), (.iconst 1, 1, 0, 0, [], 1, 0), (.isub, 1, 0, 0, [], 0, 0), (.dup_x1, 1, 0, 0, [], 0, 0), (.putfield 155, 3, 1, 0, [(11, 0)], 0, 0), (.invokevirtual 111, 3, 1, 0, [(11, 132)], 0, 0), (.ireturn, 1, 0, 0, [], 0, 0)] := ⟨trivial, ⟨trivial, ⟨trivial, ⟨lk_368, ⟨trivial, ⟨trivial, ⟨trivial, ⟨lk_376, ⟨lk_346, ⟨trivial, trivial⟩⟩⟩⟩⟩⟩⟩⟩⟩⟩
set_option maxRecDepth 100000 in
set_option maxHeartbeats 4000000 in
theorem n_X12_drop_2 : en_lkC "EvenStepsModel" false [(.iload_n 1, 1, 1, 0, [], 0, 0), (.iconst 1, 1, 0, 0, [], 1, 0), (.if_icmp .eq 9, 3, 3, 0, [], 0, 0), (.aload_n 0, 1, 0, 0, [], 0, 0), (.iconst 1, 1, 0, 0, [], 1, 0), (.invokevirtual 103, 3, 1, 0, [(11, 131)], 0, 0), (.ireturn, 1, 0, 0, [], 0, 0)] := ⟨trivial, ⟨trivial, ⟨trivial, ⟨trivial, ⟨trivial, ⟨lk_343, ⟨trivial, trivial⟩⟩⟩⟩⟩⟩⟩
set_option maxRecDepth 100000 in
set_option maxHeartbeats 4000000 in
theorem n_X12_drop_3 : en_lkC "EvenStepsModel" false [(.aload_n 0, 1, 0, 0, [], 0, 0), (.getfield 96, 3, 0, 0, [(11, 0)], 0, 0), (.ifCond .ne 9, 3, 4, 0, [], 0, 0), (.aload_n 0, 1, 0, 0, [], 0, 0), (.iconst 3, 1, 0, 0, [], 3, 0), (.invokevirtual 103, 3, 1, 0, [(11, 131)], 0, 0), (.ireturn, 1, 0, 0, [], 0, 0)] := ⟨trivial, ⟨lk_341, ⟨trivial, ⟨trivial, ⟨trivial, ⟨lk_343, ⟨trivial, trivial⟩⟩⟩⟩⟩⟩⟩
set_option maxRecDepth 100000 in
set_option maxHeartbeats 4000000 in
theorem n_X12_drop_4 : en_lkC "EvenStepsModel" false [(.iconst 0, 1, 0, 0, [], 0, 0), (.istore_n 2, 1, 2, 0, [], 0, 0)] := ⟨trivial, ⟨trivial, trivial⟩⟩
set_option maxRecDepth 100000 in
set_option maxHeartbeats 4000000 in
theorem n_X12_drop_5 : en_lkC "EvenStepsModel" false [(.iload_n 2, 1, 2, 0, [], 0, 0), (.aload_n 0, 1, 0, 0, [], 0, 0), (.getfield 155, 3, 1, 0, [(11, 0)], 0, 0), (.if_icmp .ge 30, 3, 7, 0, [], 0, 0), (.aload_n 0, 1, 0, 0, [], 0, 0), (.getfield 28, 3, 9, 2, [(11, 0)], 0, 0), (.iload_n 2, 1, 2, 0, [], 0, 0), (.iaload, 1, 0, 0, [], 0, 0), (.aload_n 0, 1, 0, 0, [], 0, 0), (.getfield 96, 3, 0, 0, [(11, 0)], 0, 0), (.iconst 1, 1, 0, 0, [], 1, 0), (.isub, 1, 0, 0, [], 0, 0), (.if_icmp .ne 9, 3, 6, 0, [], 0, 0), (.aload_n 0, 1, 0, 0, [], 0, 0), (.iconst 3, 1, 0, 0, [], 3, 0), (.invokevirtual 103, 3, 1, 0, [(11, 131)], 0, 0), (.ireturn, 1, 0, 0, [], 0, 0)] := ⟨trivial, ⟨trivial, ⟨lk_368, ⟨trivial, ⟨trivial, ⟨lk_375, ⟨trivial, ⟨trivial, ⟨trivial, ⟨lk_341, ⟨trivial, ⟨trivial, ⟨trivial, ⟨trivial, ⟨trivial, ⟨lk_343, ⟨trivial, trivial⟩⟩⟩⟩⟩⟩⟩⟩⟩⟩⟩⟩⟩⟩⟩⟩⟩
set_option maxRecDepth 100000 in
set_option maxHeartbeats 4000000 in
theorem n_X12_drop_6 : en_lkC "EvenStepsModel" false [(.iinc 2 1, 3, 2, 0, [], 1, 0), (.goto (-32), 3, 5, 0, [], 0, 0)] := ⟨trivial, ⟨trivial, trivial⟩⟩
set_option maxRecDepth 100000 in
set_option maxHeartbeats 4000000 in
theorem n_X12_drop_7 : en_lkC "EvenStepsModel" false [(.aload_n 0, 1, 0, 0, [], 0, 0), (.aload_n 0, 1, 0, 0, [], 0, 0), (.dup, 1, 0, 0, [], 0, 0), (.getfield 96, 3, 0, 0, [(11, 0)], 0, 0), (.iconst 1, 1, 0, 0, [], 1, 0), (.isub, 1, 0, 0, [], 0, 0), (.dup_x1, 1, 0, 0, [], 0, 0), (.putfield 96, 3, 0, 0, [(11, 0)], 0, 0), (.invokevirtual 111, 3, 1, 0, [(11, 132)], 0, 0), (.ireturn, 1, 0, 0, [], 0, 0)] := ⟨trivial, ⟨trivial, ⟨trivial, ⟨lk_341, ⟨trivial, ⟨trivial, ⟨trivial, ⟨lk_345, ⟨lk_346, ⟨trivial, trivial⟩⟩⟩⟩⟩⟩⟩⟩⟩⟩
set_option maxRecDepth 100000 in
set_option maxHeartbeats 4000000 in
theorem n_X12_drop : en_lkM (⟨"EvenStepsModel", "drop", "(I)I"⟩, prog_14_method_30_code, 3, (some .int), p_X12_drop) := (List.forall_mem_cons.mpr ⟨n_X12_drop_0, (List.forall_mem_cons.mpr ⟨n_X12_drop_1, (List.forall_mem_cons.mpr ⟨n_X12_drop_2, (List.forall_mem_cons.mpr ⟨n_X12_drop_3, (List.forall_mem_cons.mpr ⟨n_X12_drop_4, (List.forall_mem_cons.mpr ⟨n_X12_drop_5, (List.forall_mem_cons.mpr ⟨n_X12_drop_6, (List.forall_mem_cons.mpr ⟨n_X12_drop_7, (fun _ h => absurd h List.not_mem_nil)⟩)⟩)⟩)⟩)⟩)⟩)⟩)⟩)
set_option maxRecDepth 100000 in
set_option maxHeartbeats 4000000 in
theorem k_X12_count : en_ckM (⟨"EvenStepsModel", "count", "(I)I"⟩, prog_14_method_31_code, 2, (some .int), p_X12_count) = true := by decide +kernel
set_option maxRecDepth 100000 in
set_option maxHeartbeats 4000000 in
theorem n_X12_count_0 : en_lkC "EvenStepsModel" false [(.iload_n 1, 1, 1, 0, [], 0, 0), (.ifCond .ne 10, 3, 1, 0, [], 0, 0), (.aload_n 0, 1, 0, 0, [], 0, 0), (.getfield 96, 3, 0, 0, [(11, 0)], 0, 0), (.goto 28, 3, 4, 0, [], 0, 0)] := ⟨trivial, ⟨trivial, ⟨trivial, ⟨lk_341, ⟨trivial, trivial⟩⟩⟩⟩⟩
set_option maxRecDepth 100000 in
set_option maxHeartbeats 4000000 in
theorem n_X12_count_1 : en_lkC "EvenStepsModel" false [(.iload_n 1, 1, 1, 0, [], 0, 0), (.iconst 1, 1, 0, 0, [], 1, 0), (.if_icmp .ne 10, 3, 2, 0, [], 0, 0), (.aload_n 0, 1, 0, 0, [], 0, 0), (.getfield 155, 3, 1, 0, [(11, 0)], 0, 0), (.goto 16, 3, 4, 0, [], 0, 0)] := ⟨trivial, ⟨trivial, ⟨trivial, ⟨trivial, ⟨lk_368, ⟨trivial, trivial⟩⟩⟩⟩⟩⟩
set_option maxRecDepth 100000 in
set_option maxHeartbeats 4000000 in
theorem n_X12_count_2 : en_lkC "EvenStepsModel" false [(.iload_n 1, 1, 1, 0, [], 0, 0), (.iconst 2, 1, 0, 0, [], 2, 0), (.if_icmp .ne 10, 3, 3, 0, [], 0, 0), (.aload_n 0, 1, 0, 0, [], 0, 0), (.getfield 165, 3, 15, 0, [(11, 0)], 0, 0), (.goto 4, 3, 4, 0, [], 0, 0)] := ⟨trivial, ⟨trivial, ⟨trivial, ⟨trivial, ⟨lk_379, ⟨trivial, trivial⟩⟩⟩⟩⟩⟩
set_option maxRecDepth 100000 in
set_option maxHeartbeats 4000000 in
theorem n_X12_count_3 : en_lkC "EvenStepsModel" false [(.iconst (-1), 1, 0, 0, [], (-1), 0)] := ⟨trivial, trivial⟩
set_option maxRecDepth 100000 in
set_option maxHeartbeats 4000000 in
theorem n_X12_count_4 : en_lkC "EvenStepsModel" false [(.ireturn, 1, 0, 0, [], 0, 0)] := ⟨trivial, trivial⟩
set_option maxRecDepth 100000 in
set_option maxHeartbeats 4000000 in
theorem n_X12_count : en_lkM (⟨"EvenStepsModel", "count", "(I)I"⟩, prog_14_method_31_code, 2, (some .int), p_X12_count) := (List.forall_mem_cons.mpr ⟨n_X12_count_0, (List.forall_mem_cons.mpr ⟨n_X12_count_1, (List.forall_mem_cons.mpr ⟨n_X12_count_2, (List.forall_mem_cons.mpr ⟨n_X12_count_3, (List.forall_mem_cons.mpr ⟨n_X12_count_4, (fun _ h => absurd h List.not_mem_nil)⟩)⟩)⟩)⟩)⟩)
set_option maxRecDepth 100000 in
set_option maxHeartbeats 4000000 in
theorem k_X12_kind : en_ckM (⟨"EvenStepsModel", "kind", "(I)I"⟩, prog_14_method_32_code, 2, (some .int), p_X12_kind) = true := by decide +kernel
set_option maxRecDepth 100000 in
set_option maxHeartbeats 4000000 in
theorem n_X12_kind_0 : en_lkC "EvenStepsModel" false [(.aload_n 0, 1, 0, 0, [], 0, 0), (.iload_n 1, 1, 1, 0, [], 0, 0), (.invokevirtual 162, 3, 1, 3, [(11, 152)], 0, 0), (.ifCond .eq 12, 3, 1, 0, [], 0, 0), (.aload_n 0, 1, 0, 0, [], 0, 0), (.getfield 22, 3, 7, 2, [(11, 0)], 0, 0), (.iload_n 1, 1, 1, 0, [], 0, 0), (.iaload, 1, 0, 0, [], 0, 0), (.goto 4, 3, 2, 0, [], 0, 0)] := ⟨trivial, ⟨trivial, ⟨lk_378, ⟨trivial, ⟨trivial, ⟨lk_374, ⟨trivial, ⟨trivial, ⟨trivial, trivial⟩⟩⟩⟩⟩⟩⟩⟩⟩
set_option maxRecDepth 100000 in
set_option maxHeartbeats 4000000 in
theorem n_X12_kind_1 : en_lkC "EvenStepsModel" false [(.iconst (-1), 1, 0, 0, [], (-1), 0)] := ⟨trivial, trivial⟩
set_option maxRecDepth 100000 in
set_option maxHeartbeats 4000000 in
theorem n_X12_kind_2 : en_lkC "EvenStepsModel" false [(.ireturn, 1, 0, 0, [], 0, 0)] := ⟨trivial, trivial⟩
set_option maxRecDepth 100000 in
set_option maxHeartbeats 4000000 in
theorem n_X12_kind : en_lkM (⟨"EvenStepsModel", "kind", "(I)I"⟩, prog_14_method_32_code, 2, (some .int), p_X12_kind) := (List.forall_mem_cons.mpr ⟨n_X12_kind_0, (List.forall_mem_cons.mpr ⟨n_X12_kind_1, (List.forall_mem_cons.mpr ⟨n_X12_kind_2, (fun _ h => absurd h List.not_mem_nil)⟩)⟩)⟩)
set_option maxRecDepth 100000 in
set_option maxHeartbeats 4000000 in
theorem k_X12_step : en_ckM (⟨"EvenStepsModel", "step", "(II)I"⟩, prog_14_method_33_code, 3, (some .int), p_X12_step) = true := by decide +kernel
set_option maxRecDepth 100000 in
set_option maxHeartbeats 4000000 in
theorem n_X12_step_0 : en_lkC "EvenStepsModel" false [(.aload_n 0, 1, 0, 0, [], 0, 0), (.iload_n 1, 1, 1, 0, [], 0, 0), (.invokevirtual 162, 3, 1, 3, [(11, 152)], 0, 0), (.ifCond .eq 34, 3, 1, 0, [], 0, 0), (.iload_n 2, 1, 2, 0, [], 0, 0), (.iconst 0, 1, 0, 0, [], 0, 0), (.aload_n 0, 1, 0, 0, [], 0, 0), (.getfield 25, 3, 8, 2, [(11, 0)], 0, 0), (.iload_n 1, 1, 1, 0, [], 0, 0), (.iaload, 1, 0, 0, [], 0, 0), (.iconst 1, 1, 0, 0, [], 1, 0), (.isub, 1, 0, 0, [], 0, 0), (.invokestatic 99, 3, 3, 3, [(0, 133)], 0, 0), (.ifCond .eq 18, 3, 1, 0, [], 0, 0), (.aload_n 0, 1, 0, 0, [], 0, 0), (.getfield 32, 3, 10, 2, [(11, 0)], 0, 0), (.sipush 10001, 3, 0, 0, [], 10001, 0), (.iload_n 1, 1, 1, 0, [], 0, 0), (.imul, 1, 0, 0, [], 0, 0), (.iload_n 2, 1, 2, 0, [], 0, 0), (.iadd, 1, 0, 0, [], 0, 0), (.iaload, 1, 0, 0, [], 0, 0), (.goto 4, 3, 2, 0, [], 0, 0)] := ⟨trivial, ⟨trivial, ⟨lk_378, ⟨trivial, ⟨trivial, ⟨trivial, ⟨trivial, ⟨lk_373, ⟨trivial, ⟨trivial, ⟨trivial, ⟨trivial, ⟨lk_342, ⟨trivial, ⟨trivial, ⟨lk_372, ⟨trivial, ⟨trivial, ⟨trivial, ⟨trivial, ⟨trivial, ⟨trivial, ⟨trivial, trivial⟩⟩⟩⟩⟩⟩⟩⟩⟩⟩⟩⟩⟩⟩⟩⟩⟩⟩⟩⟩⟩⟩⟩
set_option maxRecDepth 100000 in
set_option maxHeartbeats 4000000 in
theorem n_X12_step_1 : en_lkC "EvenStepsModel" false [(.iconst (-1), 1, 0, 0, [], (-1), 0)] := ⟨trivial, trivial⟩
set_option maxRecDepth 100000 in
set_option maxHeartbeats 4000000 in
theorem n_X12_step_2 : en_lkC "EvenStepsModel" false [(.ireturn, 1, 0, 0, [], 0, 0)] := ⟨trivial, trivial⟩
set_option maxRecDepth 100000 in
set_option maxHeartbeats 4000000 in
theorem n_X12_step : en_lkM (⟨"EvenStepsModel", "step", "(II)I"⟩, prog_14_method_33_code, 3, (some .int), p_X12_step) := (List.forall_mem_cons.mpr ⟨n_X12_step_0, (List.forall_mem_cons.mpr ⟨n_X12_step_1, (List.forall_mem_cons.mpr ⟨n_X12_step_2, (fun _ h => absurd h List.not_mem_nil)⟩)⟩)⟩)
set_option maxRecDepth 100000 in
set_option maxHeartbeats 4000000 in
theorem k_X12_sum : en_ckM (⟨"EvenStepsModel", "sum", "(II)I"⟩, prog_14_method_34_code, 5, (some .int), p_X12_sum) = true := by decide +kernel
set_option maxRecDepth 100000 in
set_option maxHeartbeats 4000000 in
theorem n_X12_sum_0 : en_lkC "EvenStepsModel" false [(.aload_n 0, 1, 0, 0, [], 0, 0), (.iload_n 1, 1, 1, 0, [], 0, 0), (.invokevirtual 162, 3, 1, 3, [(11, 152)], 0, 0), (.ifCond .eq 24, 3, 1, 0, [], 0, 0), (.iload_n 2, 1, 2, 0, [], 0, 0), (.iconst 0, 1, 0, 0, [], 0, 0), (.sipush 10000, 3, 0, 0, [], 10000, 0), (.invokestatic 99, 3, 3, 3, [(0, 133)], 0, 0), (.ifCond .eq 13, 3, 1, 0, [], 0, 0), (.iload_n 2, 1, 2, 0, [], 0, 0), (.aload_n 0, 1, 0, 0, [], 0, 0), (.getfield 25, 3, 8, 2, [(11, 0)], 0, 0), (.iload_n 1, 1, 1, 0, [], 0, 0), (.iaload, 1, 0, 0, [], 0, 0), (.if_icmp .le 5, 3, 2, 0, [], 0, 0)] := ⟨trivial, ⟨trivial, ⟨lk_378, ⟨trivial, ⟨trivial, ⟨trivial, ⟨trivial, ⟨lk_342, ⟨trivial, ⟨trivial, ⟨trivial, ⟨lk_373, ⟨trivial, ⟨trivial, ⟨trivial, trivial⟩⟩⟩⟩⟩⟩⟩⟩⟩⟩⟩⟩⟩⟩⟩
set_option maxRecDepth 100000 in
set_option maxHeartbeats 4000000 in
theorem n_X12_sum_1 : en_lkC "EvenStepsModel" false [(.iconst (-1), 1, 0, 0, [], (-1), 0), (.ireturn, 1, 0, 0, [], 0, 0)] := ⟨trivial, ⟨trivial, trivial⟩⟩
set_option maxRecDepth 100000 in
set_option maxHeartbeats 4000000 in
theorem n_X12_sum_2 : en_lkC "EvenStepsModel" false [(.iconst 0, 1, 0, 0, [], 0, 0), (.istore_n 3, 1, 3, 0, [], 0, 0), (.iconst 0, 1, 0, 0, [], 0, 0), (.istore 4, 2, 4, 0, [], 0, 0)] := ⟨trivial, ⟨trivial, ⟨trivial, ⟨trivial, trivial⟩⟩⟩⟩
set_option maxRecDepth 100000 in
set_option maxHeartbeats 4000000 in
theorem n_X12_sum_3 : en_lkC "EvenStepsModel" false [(.iload 4, 2, 4, 0, [], 0, 0), (.iload_n 2, 1, 2, 0, [], 0, 0), (.if_icmp .ge 25, 3, 4, 0, [], 0, 0), (.iload_n 3, 1, 3, 0, [], 0, 0), (.aload_n 0, 1, 0, 0, [], 0, 0), (.getfield 32, 3, 10, 2, [(11, 0)], 0, 0), (.sipush 10001, 3, 0, 0, [], 10001, 0), (.iload_n 1, 1, 1, 0, [], 0, 0), (.imul, 1, 0, 0, [], 0, 0), (.iload 4, 2, 4, 0, [], 0, 0), (.iadd, 1, 0, 0, [], 0, 0), (.iaload, 1, 0, 0, [], 0, 0), (.iadd, 1, 0, 0, [], 0, 0), (.istore_n 3, 1, 3, 0, [], 0, 0), (.iinc 4 1, 3, 4, 0, [], 1, 0), (.goto (-25), 3, 3, 0, [], 0, 0)] := ⟨trivial, ⟨trivial, ⟨trivial, ⟨trivial, ⟨trivial, ⟨lk_372, ⟨trivial, ⟨trivial, ⟨trivial, ⟨trivial, ⟨trivial, ⟨trivial, ⟨trivial, ⟨trivial, ⟨trivial, ⟨trivial, trivial⟩⟩⟩⟩⟩⟩⟩⟩⟩⟩⟩⟩⟩⟩⟩⟩
set_option maxRecDepth 100000 in
set_option maxHeartbeats 4000000 in
theorem n_X12_sum_4 : en_lkC "EvenStepsModel" false [(.iload_n 3, 1, 3, 0, [], 0, 0), (.ireturn, 1, 0, 0, [], 0, 0)] := ⟨trivial, ⟨trivial, trivial⟩⟩
set_option maxRecDepth 100000 in
set_option maxHeartbeats 4000000 in
theorem n_X12_sum : en_lkM (⟨"EvenStepsModel", "sum", "(II)I"⟩, prog_14_method_34_code, 5, (some .int), p_X12_sum) := (List.forall_mem_cons.mpr ⟨n_X12_sum_0, (List.forall_mem_cons.mpr ⟨n_X12_sum_1, (List.forall_mem_cons.mpr ⟨n_X12_sum_2, (List.forall_mem_cons.mpr ⟨n_X12_sum_3, (List.forall_mem_cons.mpr ⟨n_X12_sum_4, (fun _ h => absurd h List.not_mem_nil)⟩)⟩)⟩)⟩)⟩)
set_option maxRecDepth 100000 in
set_option maxHeartbeats 4000000 in
theorem k_X12_isStretch : en_ckM (⟨"EvenStepsModel", "isStretch", "(III)Z"⟩, prog_14_method_35_code, 4, (some .boolean), p_X12_isStretch) = true := by decide +kernel
set_option maxRecDepth 100000 in
set_option maxHeartbeats 4000000 in
theorem n_X12_isStretch_0 : en_lkC "EvenStepsModel" false [(.aload_n 0, 1, 0, 0, [], 0, 0), (.iload_n 1, 1, 1, 0, [], 0, 0), (.invokevirtual 162, 3, 1, 3, [(11, 152)], 0, 0), (.ifCond .eq 33, 3, 1, 0, [], 0, 0), (.iload_n 3, 1, 3, 0, [], 0, 0), (.iconst 1, 1, 0, 0, [], 1, 0), (.bipush 40, 2, 0, 0, [], 40, 0), (.invokestatic 99, 3, 3, 3, [(0, 133)], 0, 0), (.ifCond .eq 23, 3, 1, 0, [], 0, 0), (.iload_n 2, 1, 2, 0, [], 0, 0), (.iconst 0, 1, 0, 0, [], 0, 0), (.aload_n 0, 1, 0, 0, [], 0, 0), (.getfield 25, 3, 8, 2, [(11, 0)], 0, 0), (.iload_n 1, 1, 1, 0, [], 0, 0), (.iaload, 1, 0, 0, [], 0, 0), (.iload_n 3, 1, 3, 0, [], 0, 0), (.isub, 1, 0, 0, [], 0, 0), (.invokestatic 99, 3, 3, 3, [(0, 133)], 0, 0), (.ifCond .eq 7, 3, 1, 0, [], 0, 0), (.iconst 1, 1, 0, 0, [], 1, 0), (.goto 4, 3, 2, 0, [], 0, 0)] := ⟨trivial, ⟨trivial, ⟨lk_378, ⟨trivial, ⟨trivial, ⟨trivial, ⟨trivial, ⟨lk_342, ⟨trivial, ⟨trivial, ⟨trivial, ⟨trivial, ⟨lk_373, ⟨trivial, ⟨trivial, ⟨trivial, ⟨trivial, ⟨lk_342, ⟨trivial, ⟨trivial, ⟨trivial, trivial⟩⟩⟩⟩⟩⟩⟩⟩⟩⟩⟩⟩⟩⟩⟩⟩⟩⟩⟩⟩⟩
set_option maxRecDepth 100000 in
set_option maxHeartbeats 4000000 in
theorem n_X12_isStretch_1 : en_lkC "EvenStepsModel" false [(.iconst 0, 1, 0, 0, [], 0, 0)] := ⟨trivial, trivial⟩
set_option maxRecDepth 100000 in
set_option maxHeartbeats 4000000 in
theorem n_X12_isStretch_2 : en_lkC "EvenStepsModel" false [(.ireturn, 1, 0, 3, [], 0, 0)] := ⟨trivial, trivial⟩
set_option maxRecDepth 100000 in
set_option maxHeartbeats 4000000 in
theorem n_X12_isStretch : en_lkM (⟨"EvenStepsModel", "isStretch", "(III)Z"⟩, prog_14_method_35_code, 4, (some .boolean), p_X12_isStretch) := (List.forall_mem_cons.mpr ⟨n_X12_isStretch_0, (List.forall_mem_cons.mpr ⟨n_X12_isStretch_1, (List.forall_mem_cons.mpr ⟨n_X12_isStretch_2, (fun _ h => absurd h List.not_mem_nil)⟩)⟩)⟩)
set_option maxRecDepth 100000 in
set_option maxHeartbeats 4000000 in
theorem k_X12_sumOf : en_ckM (⟨"EvenStepsModel", "sumOf", "(III)I"⟩, prog_14_method_36_code, 6, (some .int), p_X12_sumOf) = true := by decide +kernel
set_option maxRecDepth 100000 in
set_option maxHeartbeats 4000000 in
theorem n_X12_sumOf_0 : en_lkC "EvenStepsModel" false [(.iconst 0, 1, 0, 0, [], 0, 0), (.istore 4, 2, 4, 0, [], 0, 0), (.iconst 0, 1, 0, 0, [], 0, 0), (.istore 5, 2, 5, 0, [], 0, 0)] := ⟨trivial, ⟨trivial, ⟨trivial, ⟨trivial, trivial⟩⟩⟩⟩
set_option maxRecDepth 100000 in
set_option maxHeartbeats 4000000 in
theorem n_X12_sumOf_1 : en_lkC "EvenStepsModel" false [(.iload 5, 2, 5, 0, [], 0, 0), (.iload_n 3, 1, 3, 0, [], 0, 0), (.if_icmp .ge 29, 3, 2, 0, [], 0, 0), (.iload 4, 2, 4, 0, [], 0, 0), (.aload_n 0, 1, 0, 0, [], 0, 0), (.getfield 32, 3, 10, 2, [(11, 0)], 0, 0), (.sipush 10001, 3, 0, 0, [], 10001, 0), (.iload_n 1, 1, 1, 0, [], 0, 0), (.imul, 1, 0, 0, [], 0, 0), (.iload_n 2, 1, 2, 0, [], 0, 0), (.iadd, 1, 0, 0, [], 0, 0), (.iload 5, 2, 5, 0, [], 0, 0), (.iadd, 1, 0, 0, [], 0, 0), (.iaload, 1, 0, 0, [], 0, 0), (.iadd, 1, 0, 0, [], 0, 0), (.istore 4, 2, 4, 0, [], 0, 0), (.iinc 5 1, 3, 5, 0, [], 1, 0), (.goto (-29), 3, 1, 0, [], 0, 0)] := ⟨trivial, ⟨trivial, ⟨trivial, ⟨trivial, ⟨trivial, ⟨lk_372, ⟨trivial, ⟨trivial, ⟨trivial, ⟨trivial, ⟨trivial, ⟨trivial, ⟨trivial, ⟨trivial, ⟨trivial, ⟨trivial, ⟨trivial, ⟨trivial, trivial⟩⟩⟩⟩⟩⟩⟩⟩⟩⟩⟩⟩⟩⟩⟩⟩⟩⟩
set_option maxRecDepth 100000 in
set_option maxHeartbeats 4000000 in
theorem n_X12_sumOf_2 : en_lkC "EvenStepsModel" false [(.iload 4, 2, 4, 0, [], 0, 0), (.ireturn, 1, 0, 0, [], 0, 0)] := ⟨trivial, ⟨trivial, trivial⟩⟩
set_option maxRecDepth 100000 in
set_option maxHeartbeats 4000000 in
theorem n_X12_sumOf : en_lkM (⟨"EvenStepsModel", "sumOf", "(III)I"⟩, prog_14_method_36_code, 6, (some .int), p_X12_sumOf) := (List.forall_mem_cons.mpr ⟨n_X12_sumOf_0, (List.forall_mem_cons.mpr ⟨n_X12_sumOf_1, (List.forall_mem_cons.mpr ⟨n_X12_sumOf_2, (fun _ h => absurd h List.not_mem_nil)⟩)⟩)⟩)
set_option maxRecDepth 100000 in
set_option maxHeartbeats 4000000 in
theorem k_X12_clashOf : en_ckM (⟨"EvenStepsModel", "clashOf", "(III)I"⟩, prog_14_method_37_code, 8, (some .int), p_X12_clashOf) = true := by decide +kernel
set_option maxRecDepth 100000 in
set_option maxHeartbeats 4000000 in
theorem n_X12_clashOf_0 : en_lkC "EvenStepsModel" false [(.iconst 1, 1, 0, 0, [], 1, 0), (.istore 4, 2, 4, 0, [], 0, 0)] := ⟨trivial, ⟨trivial, trivial⟩⟩
set_option maxRecDepth 100000 in
set_option maxHeartbeats 4000000 in
theorem n_X12_clashOf_1 : en_lkC "EvenStepsModel" false [(.iload 4, 2, 4, 0, [], 0, 0), (.iload_n 3, 1, 3, 0, [], 0, 0), (.if_icmp .gt 101, 3, 8, 0, [], 0, 0), (.iconst 0, 1, 0, 0, [], 0, 0), (.istore 5, 2, 5, 0, [], 0, 0)] := ⟨trivial, ⟨trivial, ⟨trivial, ⟨trivial, ⟨trivial, trivial⟩⟩⟩⟩⟩
set_option maxRecDepth 100000 in
set_option maxHeartbeats 4000000 in
theorem n_X12_clashOf_2 : en_lkC "EvenStepsModel" false [(.iload 5, 2, 5, 0, [], 0, 0), (.iload 4, 2, 4, 0, [], 0, 0), (.iadd, 1, 0, 0, [], 0, 0), (.iload_n 3, 1, 3, 0, [], 0, 0), (.if_icmp .gt 83, 3, 7, 0, [], 0, 0), (.iload 5, 2, 5, 0, [], 0, 0), (.iconst 1, 1, 0, 0, [], 1, 0), (.iadd, 1, 0, 0, [], 0, 0), (.istore 6, 2, 6, 0, [], 0, 0)] := ⟨trivial, ⟨trivial, ⟨trivial, ⟨trivial, ⟨trivial, ⟨trivial, ⟨trivial, ⟨trivial, ⟨trivial, trivial⟩⟩⟩⟩⟩⟩⟩⟩⟩
set_option maxRecDepth 100000 in
set_option maxHeartbeats 4000000 in
theorem n_X12_clashOf_3 : en_lkC "EvenStepsModel" false [(.iload 6, 2, 6, 0, [], 0, 0), (.iload 4, 2, 4, 0, [], 0, 0), (.iadd, 1, 0, 0, [], 0, 0), (.iload_n 3, 1, 3, 0, [], 0, 0), (.if_icmp .gt 62, 3, 6, 0, [], 0, 0), (.aload_n 0, 1, 0, 0, [], 0, 0), (.iload_n 1, 1, 1, 0, [], 0, 0), (.iload_n 2, 1, 2, 0, [], 0, 0), (.iload 5, 2, 5, 0, [], 0, 0), (.iadd, 1, 0, 0, [], 0, 0), (.iload 4, 2, 4, 0, [], 0, 0), (.invokevirtual 168, 3, 3, 0, [(11, 165)], 0, 0), (.aload_n 0, 1, 0, 0, [], 0, 0), (.iload_n 1, 1, 1, 0, [], 0, 0), (.iload_n 2, 1, 2, 0, [], 0, 0), (.iload 6, 2, 6, 0, [], 0, 0), (.iadd, 1, 0, 0, [], 0, 0), (.iload 4, 2, 4, 0, [], 0, 0), (.invokevirtual 168, 3, 3, 0, [(11, 165)], 0, 0), (.isub, 1, 0, 0, [], 0, 0), (.istore 7, 2, 7, 0, [], 0, 0), (.iload 7, 2, 7, 0, [], 0, 0), (.iconst 1, 1, 0, 0, [], 1, 0), (.if_icmp .gt 9, 3, 4, 0, [], 0, 0), (.iload 7, 2, 7, 0, [], 0, 0), (.iconst (-1), 1, 0, 0, [], (-1), 0), (.if_icmp .ge 19, 3, 5, 0, [], 0, 0)] := ⟨trivial, ⟨trivial, ⟨trivial, ⟨trivial, ⟨trivial, ⟨trivial, ⟨trivial, ⟨trivial, ⟨trivial, ⟨trivial, ⟨trivial, ⟨lk_380, ⟨trivial, ⟨trivial, ⟨trivial, ⟨trivial, ⟨trivial, ⟨trivial, ⟨lk_380, ⟨trivial, ⟨trivial, ⟨trivial, ⟨trivial, ⟨trivial, ⟨trivial, ⟨trivial, ⟨trivial, trivial⟩⟩⟩⟩⟩⟩⟩⟩⟩⟩⟩⟩⟩⟩⟩⟩⟩⟩⟩⟩⟩⟩⟩⟩⟩⟩⟩
set_option maxRecDepth 100000 in
set_option maxHeartbeats 4000000 in
theorem n_X12_clashOf_4 : en_lkC "EvenStepsModel" false [(.sipush 10000, 3, 0, 0, [], 10000, 0), (.iload 4, 2, 4, 0, [], 0, 0), (.imul, 1, 0, 0, [], 0, 0), (.bipush 100, 2, 0, 0, [], 100, 0), (.iload 5, 2, 5, 0, [], 0, 0), (.imul, 1, 0, 0, [], 0, 0), (.iadd, 1, 0, 0, [], 0, 0), (.iload 6, 2, 6, 0, [], 0, 0), (.iadd, 1, 0, 0, [], 0, 0), (.ireturn, 1, 0, 0, [], 0, 0)] := ⟨trivial, ⟨trivial, ⟨trivial, ⟨trivial, ⟨trivial, ⟨trivial, ⟨trivial, ⟨trivial, ⟨trivial, ⟨trivial, trivial⟩⟩⟩⟩⟩⟩⟩⟩⟩⟩
set_option maxRecDepth 100000 in
set_option maxHeartbeats 4000000 in
theorem n_X12_clashOf_5 : en_lkC "EvenStepsModel" false [(.iinc 6 1, 3, 6, 0, [], 1, 0), (.goto (-65), 3, 3, 0, [], 0, 0)] := ⟨trivial, ⟨trivial, trivial⟩⟩
set_option maxRecDepth 100000 in
set_option maxHeartbeats 4000000 in
theorem n_X12_clashOf_6 : en_lkC "EvenStepsModel" false [(.iinc 5 1, 3, 5, 0, [], 1, 0), (.goto (-86), 3, 2, 0, [], 0, 0)] := ⟨trivial, ⟨trivial, trivial⟩⟩
set_option maxRecDepth 100000 in
set_option maxHeartbeats 4000000 in
theorem n_X12_clashOf_7 : en_lkC "EvenStepsModel" false [(.iinc 4 1, 3, 4, 0, [], 1, 0), (.goto (-101), 3, 1, 0, [], 0, 0)] := ⟨trivial, ⟨trivial, trivial⟩⟩
set_option maxRecDepth 100000 in
set_option maxHeartbeats 4000000 in
theorem n_X12_clashOf_8 : en_lkC "EvenStepsModel" false [(.iconst (-1), 1, 0, 0, [], (-1), 0), (.ireturn, 1, 0, 0, [], 0, 0)] := ⟨trivial, ⟨trivial, trivial⟩⟩
set_option maxRecDepth 100000 in
set_option maxHeartbeats 4000000 in
theorem n_X12_clashOf : en_lkM (⟨"EvenStepsModel", "clashOf", "(III)I"⟩, prog_14_method_37_code, 8, (some .int), p_X12_clashOf) := (List.forall_mem_cons.mpr ⟨n_X12_clashOf_0, (List.forall_mem_cons.mpr ⟨n_X12_clashOf_1, (List.forall_mem_cons.mpr ⟨n_X12_clashOf_2, (List.forall_mem_cons.mpr ⟨n_X12_clashOf_3, (List.forall_mem_cons.mpr ⟨n_X12_clashOf_4, (List.forall_mem_cons.mpr ⟨n_X12_clashOf_5, (List.forall_mem_cons.mpr ⟨n_X12_clashOf_6, (List.forall_mem_cons.mpr ⟨n_X12_clashOf_7, (List.forall_mem_cons.mpr ⟨n_X12_clashOf_8, (fun _ h => absurd h List.not_mem_nil)⟩)⟩)⟩)⟩)⟩)⟩)⟩)⟩)⟩)
set_option maxRecDepth 100000 in
set_option maxHeartbeats 4000000 in
theorem k_X12_isEven : en_ckM (⟨"EvenStepsModel", "isEven", "(III)I"⟩, prog_14_method_38_code, 4, (some .int), p_X12_isEven) = true := by decide +kernel
set_option maxRecDepth 100000 in
set_option maxHeartbeats 4000000 in
theorem n_X12_isEven_0 : en_lkC "EvenStepsModel" false [(.aload_n 0, 1, 0, 0, [], 0, 0), (.iload_n 1, 1, 1, 0, [], 0, 0), (.iload_n 2, 1, 2, 0, [], 0, 0), (.iload_n 3, 1, 3, 0, [], 0, 0), (.invokevirtual 172, 3, 3, 3, [(11, 164)], 0, 0), (.ifCond .ne 5, 3, 1, 0, [], 0, 0), (.iconst (-1), 1, 0, 0, [], (-1), 0), (.ireturn, 1, 0, 0, [], 0, 0)] := ⟨trivial, ⟨trivial, ⟨trivial, ⟨trivial, ⟨lk_381, ⟨trivial, ⟨trivial, ⟨trivial, trivial⟩⟩⟩⟩⟩⟩⟩⟩
set_option maxRecDepth 100000 in
set_option maxHeartbeats 4000000 in
theorem n_X12_isEven_1 : en_lkC "EvenStepsModel" false [(.aload_n 0, 1, 0, 0, [], 0, 0), (.iload_n 1, 1, 1, 0, [], 0, 0), (.iload_n 2, 1, 2, 0, [], 0, 0), (.iload_n 3, 1, 3, 0, [], 0, 0), (.invokevirtual 175, 3, 3, 0, [(11, 166)], 0, 0), (.iconst (-1), 1, 0, 0, [], (-1), 0), (.if_icmp .ne 7, 3, 2, 0, [], 0, 0), (.iconst 1, 1, 0, 0, [], 1, 0), (.goto 4, 3, 3, 0, [], 0, 0)] := ⟨trivial, ⟨trivial, ⟨trivial, ⟨trivial, ⟨lk_382, ⟨trivial, ⟨trivial, ⟨trivial, ⟨trivial, trivial⟩⟩⟩⟩⟩⟩⟩⟩⟩
set_option maxRecDepth 100000 in
set_option maxHeartbeats 4000000 in
theorem n_X12_isEven_2 : en_lkC "EvenStepsModel" false [(.iconst 0, 1, 0, 0, [], 0, 0)] := ⟨trivial, trivial⟩
set_option maxRecDepth 100000 in
set_option maxHeartbeats 4000000 in
theorem n_X12_isEven_3 : en_lkC "EvenStepsModel" false [(.ireturn, 1, 0, 0, [], 0, 0)] := ⟨trivial, trivial⟩
set_option maxRecDepth 100000 in
set_option maxHeartbeats 4000000 in
theorem n_X12_isEven : en_lkM (⟨"EvenStepsModel", "isEven", "(III)I"⟩, prog_14_method_38_code, 4, (some .int), p_X12_isEven) := (List.forall_mem_cons.mpr ⟨n_X12_isEven_0, (List.forall_mem_cons.mpr ⟨n_X12_isEven_1, (List.forall_mem_cons.mpr ⟨n_X12_isEven_2, (List.forall_mem_cons.mpr ⟨n_X12_isEven_3, (fun _ h => absurd h List.not_mem_nil)⟩)⟩)⟩)⟩)
set_option maxRecDepth 100000 in
set_option maxHeartbeats 4000000 in
theorem k_X12_clash : en_ckM (⟨"EvenStepsModel", "clash", "(IIII)I"⟩, prog_14_method_39_code, 6, (some .int), p_X12_clash) = true := by decide +kernel
set_option maxRecDepth 100000 in
set_option maxHeartbeats 4000000 in
theorem n_X12_clash_0 : en_lkC "EvenStepsModel" false [(.aload_n 0, 1, 0, 0, [], 0, 0), (.iload_n 1, 1, 1, 0, [], 0, 0), (.iload_n 2, 1, 2, 0, [], 0, 0), (.iload_n 3, 1, 3, 0, [], 0, 0), (.invokevirtual 172, 3, 3, 3, [(11, 164)], 0, 0), (.ifCond .eq 13, 3, 1, 0, [], 0, 0), (.iload 4, 2, 4, 0, [], 0, 0), (.iconst 0, 1, 0, 0, [], 0, 0), (.iconst 2, 1, 0, 0, [], 2, 0), (.invokestatic 99, 3, 3, 3, [(0, 133)], 0, 0), (.ifCond .ne 5, 3, 2, 0, [], 0, 0)] := ⟨trivial, ⟨trivial, ⟨trivial, ⟨trivial, ⟨lk_381, ⟨trivial, ⟨trivial, ⟨trivial, ⟨trivial, ⟨lk_342, ⟨trivial, trivial⟩⟩⟩⟩⟩⟩⟩⟩⟩⟩⟩
set_option maxRecDepth 100000 in
set_option maxHeartbeats 4000000 in
theorem n_X12_clash_1 : en_lkC "EvenStepsModel" false [(.iconst (-1), 1, 0, 0, [], (-1), 0), (.ireturn, 1, 0, 0, [], 0, 0)] := ⟨trivial, ⟨trivial, trivial⟩⟩
set_option maxRecDepth 100000 in
set_option maxHeartbeats 4000000 in
theorem n_X12_clash_2 : en_lkC "EvenStepsModel" false [(.aload_n 0, 1, 0, 0, [], 0, 0), (.iload_n 1, 1, 1, 0, [], 0, 0), (.iload_n 2, 1, 2, 0, [], 0, 0), (.iload_n 3, 1, 3, 0, [], 0, 0), (.invokevirtual 175, 3, 3, 0, [(11, 166)], 0, 0), (.istore 5, 2, 5, 0, [], 0, 0), (.iload 5, 2, 5, 0, [], 0, 0), (.iconst (-1), 1, 0, 0, [], (-1), 0), (.if_icmp .ne 5, 3, 3, 0, [], 0, 0), (.iconst (-1), 1, 0, 0, [], (-1), 0), (.ireturn, 1, 0, 0, [], 0, 0)] := ⟨trivial, ⟨trivial, ⟨trivial, ⟨trivial, ⟨lk_382, ⟨trivial, ⟨trivial, ⟨trivial, ⟨trivial, ⟨trivial, ⟨trivial, trivial⟩⟩⟩⟩⟩⟩⟩⟩⟩⟩⟩
set_option maxRecDepth 100000 in
set_option maxHeartbeats 4000000 in
theorem n_X12_clash_3 : en_lkC "EvenStepsModel" false [(.iload 4, 2, 4, 0, [], 0, 0), (.ifCond .ne 12, 3, 4, 0, [], 0, 0), (.iload 5, 2, 5, 0, [], 0, 0), (.sipush 10000, 3, 0, 0, [], 10000, 0), (.idiv, 1, 0, 0, [], 0, 0), (.goto 29, 3, 6, 0, [], 0, 0)] := ⟨trivial, ⟨trivial, ⟨trivial, ⟨trivial, ⟨trivial, ⟨trivial, trivial⟩⟩⟩⟩⟩⟩
set_option maxRecDepth 100000 in
set_option maxHeartbeats 4000000 in
theorem n_X12_clash_4 : en_lkC "EvenStepsModel" false [(.iload 4, 2, 4, 0, [], 0, 0), (.iconst 1, 1, 0, 0, [], 1, 0), (.if_icmp .ne 16, 3, 5, 0, [], 0, 0), (.iload_n 2, 1, 2, 0, [], 0, 0), (.iload 5, 2, 5, 0, [], 0, 0), (.bipush 100, 2, 0, 0, [], 100, 0), (.idiv, 1, 0, 0, [], 0, 0), (.bipush 100, 2, 0, 0, [], 100, 0), (.irem, 1, 0, 0, [], 0, 0), (.iadd, 1, 0, 0, [], 0, 0), (.goto 10, 3, 6, 0, [], 0, 0)] := ⟨trivial, ⟨trivial, ⟨trivial, ⟨trivial, ⟨trivial, ⟨trivial, ⟨trivial, ⟨trivial, ⟨trivial, ⟨trivial, ⟨trivial, trivial⟩⟩⟩⟩⟩⟩⟩⟩⟩⟩⟩
set_option maxRecDepth 100000 in
set_option maxHeartbeats 4000000 in
theorem n_X12_clash_5 : en_lkC "EvenStepsModel" false [(.iload_n 2, 1, 2, 0, [], 0, 0), (.iload 5, 2, 5, 0, [], 0, 0), (.bipush 100, 2, 0, 0, [], 100, 0), (.irem, 1, 0, 0, [], 0, 0), (.iadd, 1, 0, 0, [], 0, 0)] := ⟨trivial, ⟨trivial, ⟨trivial, ⟨trivial, ⟨trivial, trivial⟩⟩⟩⟩⟩
set_option maxRecDepth 100000 in
set_option maxHeartbeats 4000000 in
theorem n_X12_clash_6 : en_lkC "EvenStepsModel" false [(.ireturn, 1, 0, 0, [], 0, 0)] := ⟨trivial, trivial⟩
set_option maxRecDepth 100000 in
set_option maxHeartbeats 4000000 in
theorem n_X12_clash : en_lkM (⟨"EvenStepsModel", "clash", "(IIII)I"⟩, prog_14_method_39_code, 6, (some .int), p_X12_clash) := (List.forall_mem_cons.mpr ⟨n_X12_clash_0, (List.forall_mem_cons.mpr ⟨n_X12_clash_1, (List.forall_mem_cons.mpr ⟨n_X12_clash_2, (List.forall_mem_cons.mpr ⟨n_X12_clash_3, (List.forall_mem_cons.mpr ⟨n_X12_clash_4, (List.forall_mem_cons.mpr ⟨n_X12_clash_5, (List.forall_mem_cons.mpr ⟨n_X12_clash_6, (fun _ h => absurd h List.not_mem_nil)⟩)⟩)⟩)⟩)⟩)⟩)⟩)
set_option maxRecDepth 100000 in
set_option maxHeartbeats 4000000 in
theorem k_X12_range : en_ckM (⟨"EvenStepsModel", "range", "(IIII)I"⟩, prog_14_method_40_code, 13, (some .int), p_X12_range) = true := by decide +kernel
set_option maxRecDepth 100000 in
set_option maxHeartbeats 4000000 in
theorem n_X12_range_0 : en_lkC "EvenStepsModel" false [(.aload_n 0, 1, 0, 0, [], 0, 0), (.iload_n 1, 1, 1, 0, [], 0, 0), (.iload_n 2, 1, 2, 0, [], 0, 0), (.iload_n 3, 1, 3, 0, [], 0, 0), (.invokevirtual 172, 3, 3, 3, [(11, 164)], 0, 0), (.ifCond .eq 13, 3, 1, 0, [], 0, 0), (.iload 4, 2, 4, 0, [], 0, 0), (.iconst 0, 1, 0, 0, [], 0, 0), (.iconst 3, 1, 0, 0, [], 3, 0), (.invokestatic 99, 3, 3, 3, [(0, 133)], 0, 0), (.ifCond .ne 6, 3, 2, 0, [], 0, 0)] := ⟨trivial, ⟨trivial, ⟨trivial, ⟨trivial, ⟨lk_381, ⟨trivial, ⟨trivial, ⟨trivial, ⟨trivial, ⟨lk_342, ⟨trivial, trivial⟩⟩⟩⟩⟩⟩⟩⟩⟩⟩⟩
set_option maxRecDepth 100000 in
set_option maxHeartbeats 4000000 in
theorem n_X12_range_1 : en_lkC "EvenStepsModel" false [(.ldc 123, 2, 0, 0, [], (-1000000), 0), (.ireturn, 1, 0, 0, [], 0, 0)] := ⟨wd_1090, ⟨trivial, trivial⟩⟩
set_option maxRecDepth 100000 in
set_option maxHeartbeats 4000000 in
theorem n_X12_range_2 : en_lkC "EvenStepsModel" false [(.iconst (-1), 1, 0, 0, [], (-1), 0), (.istore 5, 2, 5, 0, [], 0, 0), (.iconst 1, 1, 0, 0, [], 1, 0), (.istore 6, 2, 6, 0, [], 0, 0), (.iconst 0, 1, 0, 0, [], 0, 0), (.istore 7, 2, 7, 0, [], 0, 0), (.iconst 0, 1, 0, 0, [], 0, 0), (.istore 8, 2, 8, 0, [], 0, 0), (.iconst 1, 1, 0, 0, [], 1, 0), (.istore 9, 2, 9, 0, [], 0, 0), (.iconst 0, 1, 0, 0, [], 0, 0), (.istore 10, 2, 10, 0, [], 0, 0)] := ⟨trivial, ⟨trivial, ⟨trivial, ⟨trivial, ⟨trivial, ⟨trivial, ⟨trivial, ⟨trivial, ⟨trivial, ⟨trivial, ⟨trivial, ⟨trivial, trivial⟩⟩⟩⟩⟩⟩⟩⟩⟩⟩⟩⟩
set_option maxRecDepth 100000 in
set_option maxHeartbeats 4000000 in
theorem n_X12_range_3 : en_lkC "EvenStepsModel" false [(.iload 10, 2, 10, 0, [], 0, 0), (.iload_n 3, 1, 3, 0, [], 0, 0), (.if_icmp .ge 103, 3, 10, 0, [], 0, 0), (.iconst 1, 1, 0, 0, [], 1, 0), (.istore 11, 2, 11, 0, [], 0, 0)] := ⟨trivial, ⟨trivial, ⟨trivial, ⟨trivial, ⟨trivial, trivial⟩⟩⟩⟩⟩
set_option maxRecDepth 100000 in
set_option maxHeartbeats 4000000 in
theorem n_X12_range_4 : en_lkC "EvenStepsModel" false [(.iload 10, 2, 10, 0, [], 0, 0), (.iload 11, 2, 11, 0, [], 0, 0), (.iadd, 1, 0, 0, [], 0, 0), (.iload_n 3, 1, 3, 0, [], 0, 0), (.if_icmp .gt 85, 3, 9, 0, [], 0, 0), (.aload_n 0, 1, 0, 0, [], 0, 0), (.iload_n 1, 1, 1, 0, [], 0, 0), (.iload_n 2, 1, 2, 0, [], 0, 0), (.iload 10, 2, 10, 0, [], 0, 0), (.iadd, 1, 0, 0, [], 0, 0), (.iload 11, 2, 11, 0, [], 0, 0), (.invokevirtual 168, 3, 3, 0, [(11, 165)], 0, 0), (.istore 12, 2, 12, 0, [], 0, 0), (.iload 9, 2, 9, 0, [], 0, 0), (.ifCond .ne 18, 3, 5, 0, [], 0, 0), (.iload 12, 2, 12, 0, [], 0, 0), (.iconst 1, 1, 0, 0, [], 1, 0), (.isub, 1, 0, 0, [], 0, 0), (.iload 6, 2, 6, 0, [], 0, 0), (.imul, 1, 0, 0, [], 0, 0), (.iload 5, 2, 5, 0, [], 0, 0), (.iload 11, 2, 11, 0, [], 0, 0), (.imul, 1, 0, 0, [], 0, 0), (.if_icmp .le 13, 3, 6, 0, [], 0, 0)] := ⟨trivial, ⟨trivial, ⟨trivial, ⟨trivial, ⟨trivial, ⟨trivial, ⟨trivial, ⟨trivial, ⟨trivial, ⟨trivial, ⟨trivial, ⟨lk_380, ⟨trivial, ⟨trivial, ⟨trivial, ⟨trivial, ⟨trivial, ⟨trivial, ⟨trivial, ⟨trivial, ⟨trivial, ⟨trivial, ⟨trivial, ⟨trivial, trivial⟩⟩⟩⟩⟩⟩⟩⟩⟩⟩⟩⟩⟩⟩⟩⟩⟩⟩⟩⟩⟩⟩⟩⟩
set_option maxRecDepth 100000 in
set_option maxHeartbeats 4000000 in
theorem n_X12_range_5 : en_lkC "EvenStepsModel" false [(.iload 12, 2, 12, 0, [], 0, 0), (.iconst 1, 1, 0, 0, [], 1, 0), (.isub, 1, 0, 0, [], 0, 0), (.istore 5, 2, 5, 0, [], 0, 0), (.iload 11, 2, 11, 0, [], 0, 0), (.istore 6, 2, 6, 0, [], 0, 0)] := ⟨trivial, ⟨trivial, ⟨trivial, ⟨trivial, ⟨trivial, ⟨trivial, trivial⟩⟩⟩⟩⟩⟩
set_option maxRecDepth 100000 in
set_option maxHeartbeats 4000000 in
theorem n_X12_range_6 : en_lkC "EvenStepsModel" false [(.iload 9, 2, 9, 0, [], 0, 0), (.ifCond .ne 18, 3, 7, 0, [], 0, 0), (.iload 12, 2, 12, 0, [], 0, 0), (.iconst 1, 1, 0, 0, [], 1, 0), (.iadd, 1, 0, 0, [], 0, 0), (.iload 8, 2, 8, 0, [], 0, 0), (.imul, 1, 0, 0, [], 0, 0), (.iload 7, 2, 7, 0, [], 0, 0), (.iload 11, 2, 11, 0, [], 0, 0), (.imul, 1, 0, 0, [], 0, 0), (.if_icmp .ge 13, 3, 8, 0, [], 0, 0)] := ⟨trivial, ⟨trivial, ⟨trivial, ⟨trivial, ⟨trivial, ⟨trivial, ⟨trivial, ⟨trivial, ⟨trivial, ⟨trivial, ⟨trivial, trivial⟩⟩⟩⟩⟩⟩⟩⟩⟩⟩⟩
set_option maxRecDepth 100000 in
set_option maxHeartbeats 4000000 in
theorem n_X12_range_7 : en_lkC "EvenStepsModel" false [(.iload 12, 2, 12, 0, [], 0, 0), (.iconst 1, 1, 0, 0, [], 1, 0), (.iadd, 1, 0, 0, [], 0, 0), (.istore 7, 2, 7, 0, [], 0, 0), (.iload 11, 2, 11, 0, [], 0, 0), (.istore 8, 2, 8, 0, [], 0, 0)] := ⟨trivial, ⟨trivial, ⟨trivial, ⟨trivial, ⟨trivial, ⟨trivial, trivial⟩⟩⟩⟩⟩⟩
set_option maxRecDepth 100000 in
set_option maxHeartbeats 4000000 in
theorem n_X12_range_8 : en_lkC "EvenStepsModel" false [(.iconst 0, 1, 0, 0, [], 0, 0), (.istore 9, 2, 9, 0, [], 0, 0), (.iinc 11 1, 3, 11, 0, [], 1, 0), (.goto (-88), 3, 4, 0, [], 0, 0)] := ⟨trivial, ⟨trivial, ⟨trivial, ⟨trivial, trivial⟩⟩⟩⟩
set_option maxRecDepth 100000 in
set_option maxHeartbeats 4000000 in
theorem n_X12_range_9 : en_lkC "EvenStepsModel" false [(.iinc 10 1, 3, 10, 0, [], 1, 0), (.goto (-103), 3, 3, 0, [], 0, 0)] := ⟨trivial, ⟨trivial, trivial⟩⟩
set_option maxRecDepth 100000 in
set_option maxHeartbeats 4000000 in
theorem n_X12_range_10 : en_lkC "EvenStepsModel" false [(.iload 5, 2, 5, 0, [], 0, 0), (.iload 8, 2, 8, 0, [], 0, 0), (.imul, 1, 0, 0, [], 0, 0), (.iload 7, 2, 7, 0, [], 0, 0), (.iload 6, 2, 6, 0, [], 0, 0), (.imul, 1, 0, 0, [], 0, 0), (.if_icmp .lt 6, 3, 11, 0, [], 0, 0), (.ldc 123, 2, 0, 0, [], (-1000000), 0), (.ireturn, 1, 0, 0, [], 0, 0)] := ⟨trivial, ⟨trivial, ⟨trivial, ⟨trivial, ⟨trivial, ⟨trivial, ⟨trivial, ⟨wd_1090, ⟨trivial, trivial⟩⟩⟩⟩⟩⟩⟩⟩⟩
set_option maxRecDepth 100000 in
set_option maxHeartbeats 4000000 in
theorem n_X12_range_11 : en_lkC "EvenStepsModel" false [(.iload 5, 2, 5, 0, [], 0, 0), (.i2l, 1, 0, 0, [], 0, 0), (.iload 6, 2, 6, 0, [], 0, 0), (.i2l, 1, 0, 0, [], 0, 0), (.invokestatic 133, 3, 2, 1, [(0, 142)], 0, 0), (.l2i, 1, 0, 0, [], 0, 0), (.istore 10, 2, 10, 0, [], 0, 0), (.iload 7, 2, 7, 0, [], 0, 0), (.i2l, 1, 0, 0, [], 0, 0), (.iload 8, 2, 8, 0, [], 0, 0), (.i2l, 1, 0, 0, [], 0, 0), (.invokestatic 133, 3, 2, 1, [(0, 142)], 0, 0), (.l2i, 1, 0, 0, [], 0, 0), (.istore 11, 2, 11, 0, [], 0, 0), (.iload 4, 2, 4, 0, [], 0, 0), (.ifCond .ne 11, 3, 12, 0, [], 0, 0), (.iload 5, 2, 5, 0, [], 0, 0), (.iload 10, 2, 10, 0, [], 0, 0), (.idiv, 1, 0, 0, [], 0, 0), (.goto 36, 3, 15, 0, [], 0, 0)] := ⟨trivial, ⟨trivial, ⟨trivial, ⟨trivial, ⟨lk_357, ⟨trivial, ⟨trivial, ⟨trivial, ⟨trivial, ⟨trivial, ⟨trivial, ⟨lk_357, ⟨trivial, ⟨trivial, ⟨trivial, ⟨trivial, ⟨trivial, ⟨trivial, ⟨trivial, ⟨trivial, trivial⟩⟩⟩⟩⟩⟩⟩⟩⟩⟩⟩⟩⟩⟩⟩⟩⟩⟩⟩⟩
set_option maxRecDepth 100000 in
set_option maxHeartbeats 4000000 in
theorem n_X12_range_12 : en_lkC "EvenStepsModel" false [(.iload 4, 2, 4, 0, [], 0, 0), (.iconst 1, 1, 0, 0, [], 1, 0), (.if_icmp .ne 11, 3, 13, 0, [], 0, 0), (.iload 6, 2, 6, 0, [], 0, 0), (.iload 10, 2, 10, 0, [], 0, 0), (.idiv, 1, 0, 0, [], 0, 0), (.goto 22, 3, 15, 0, [], 0, 0)] := ⟨trivial, ⟨trivial, ⟨trivial, ⟨trivial, ⟨trivial, ⟨trivial, ⟨trivial, trivial⟩⟩⟩⟩⟩⟩⟩
set_option maxRecDepth 100000 in
set_option maxHeartbeats 4000000 in
theorem n_X12_range_13 : en_lkC "EvenStepsModel" false [(.iload 4, 2, 4, 0, [], 0, 0), (.iconst 2, 1, 0, 0, [], 2, 0), (.if_icmp .ne 11, 3, 14, 0, [], 0, 0), (.iload 7, 2, 7, 0, [], 0, 0), (.iload 11, 2, 11, 0, [], 0, 0), (.idiv, 1, 0, 0, [], 0, 0), (.goto 8, 3, 15, 0, [], 0, 0)] := ⟨trivial, ⟨trivial, ⟨trivial, ⟨trivial, ⟨trivial, ⟨trivial, ⟨trivial, trivial⟩⟩⟩⟩⟩⟩⟩
set_option maxRecDepth 100000 in
set_option maxHeartbeats 4000000 in
theorem n_X12_range_14 : en_lkC "EvenStepsModel" false [(.iload 8, 2, 8, 0, [], 0, 0), (.iload 11, 2, 11, 0, [], 0, 0), (.idiv, 1, 0, 0, [], 0, 0)] := ⟨trivial, ⟨trivial, ⟨trivial, trivial⟩⟩⟩
set_option maxRecDepth 100000 in
set_option maxHeartbeats 4000000 in
theorem n_X12_range_15 : en_lkC "EvenStepsModel" false [(.ireturn, 1, 0, 0, [], 0, 0)] := ⟨trivial, trivial⟩
set_option maxRecDepth 100000 in
set_option maxHeartbeats 4000000 in
theorem n_X12_range : en_lkM (⟨"EvenStepsModel", "range", "(IIII)I"⟩, prog_14_method_40_code, 13, (some .int), p_X12_range) := (List.forall_mem_cons.mpr ⟨n_X12_range_0, (List.forall_mem_cons.mpr ⟨n_X12_range_1, (List.forall_mem_cons.mpr ⟨n_X12_range_2, (List.forall_mem_cons.mpr ⟨n_X12_range_3, (List.forall_mem_cons.mpr ⟨n_X12_range_4, (List.forall_mem_cons.mpr ⟨n_X12_range_5, (List.forall_mem_cons.mpr ⟨n_X12_range_6, (List.forall_mem_cons.mpr ⟨n_X12_range_7, (List.forall_mem_cons.mpr ⟨n_X12_range_8, (List.forall_mem_cons.mpr ⟨n_X12_range_9, (List.forall_mem_cons.mpr ⟨n_X12_range_10, (List.forall_mem_cons.mpr ⟨n_X12_range_11, (List.forall_mem_cons.mpr ⟨n_X12_range_12, (List.forall_mem_cons.mpr ⟨n_X12_range_13, (List.forall_mem_cons.mpr ⟨n_X12_range_14, (List.forall_mem_cons.mpr ⟨n_X12_range_15, (fun _ h => absurd h List.not_mem_nil)⟩)⟩)⟩)⟩)⟩)⟩)⟩)⟩)⟩)⟩)⟩)⟩)⟩)⟩)⟩)⟩)
set_option maxRecDepth 100000 in
set_option maxHeartbeats 4000000 in
theorem k_X12_areAlike : en_ckM (⟨"EvenStepsModel", "areAlike", "(IIII)Z"⟩, prog_14_method_41_code, 6, (some .boolean), p_X12_areAlike) = true := by decide +kernel
set_option maxRecDepth 100000 in
set_option maxHeartbeats 4000000 in
theorem n_X12_areAlike_0 : en_lkC "EvenStepsModel" false [(.iconst 0, 1, 0, 0, [], 0, 0), (.istore 5, 2, 5, 0, [], 0, 0)] := ⟨trivial, ⟨trivial, trivial⟩⟩
set_option maxRecDepth 100000 in
set_option maxHeartbeats 4000000 in
theorem n_X12_areAlike_1 : en_lkC "EvenStepsModel" false [(.iload 5, 2, 5, 0, [], 0, 0), (.iload 4, 2, 4, 0, [], 0, 0), (.if_icmp .ge 44, 3, 3, 0, [], 0, 0), (.aload_n 0, 1, 0, 0, [], 0, 0), (.getfield 32, 3, 10, 2, [(11, 0)], 0, 0), (.sipush 10001, 3, 0, 0, [], 10001, 0), (.iload_n 1, 1, 1, 0, [], 0, 0), (.imul, 1, 0, 0, [], 0, 0), (.iload_n 2, 1, 2, 0, [], 0, 0), (.iadd, 1, 0, 0, [], 0, 0), (.iload 5, 2, 5, 0, [], 0, 0), (.iadd, 1, 0, 0, [], 0, 0), (.iaload, 1, 0, 0, [], 0, 0), (.aload_n 0, 1, 0, 0, [], 0, 0), (.getfield 32, 3, 10, 2, [(11, 0)], 0, 0), (.sipush 10001, 3, 0, 0, [], 10001, 0), (.iload_n 1, 1, 1, 0, [], 0, 0), (.imul, 1, 0, 0, [], 0, 0), (.iload_n 3, 1, 3, 0, [], 0, 0), (.iadd, 1, 0, 0, [], 0, 0), (.iload 5, 2, 5, 0, [], 0, 0), (.iadd, 1, 0, 0, [], 0, 0), (.iaload, 1, 0, 0, [], 0, 0), (.if_icmp .eq 5, 3, 2, 0, [], 0, 0), (.iconst 0, 1, 0, 0, [], 0, 0), (.ireturn, 1, 0, 3, [], 0, 0)] := ⟨trivial, ⟨trivial, ⟨trivial, ⟨trivial, ⟨lk_372, ⟨trivial, ⟨trivial, ⟨trivial, ⟨trivial, ⟨trivial, ⟨trivial, ⟨trivial, ⟨trivial, ⟨trivial, ⟨lk_372, ⟨trivial, ⟨trivial, ⟨trivial, ⟨trivial, ⟨trivial, ⟨trivial, ⟨trivial, ⟨trivial, ⟨trivial, ⟨trivial, ⟨trivial, trivial⟩⟩⟩⟩⟩⟩⟩⟩⟩⟩⟩⟩⟩⟩⟩⟩⟩⟩⟩⟩⟩⟩⟩⟩⟩⟩
set_option maxRecDepth 100000 in
set_option maxHeartbeats 4000000 in
theorem n_X12_areAlike_2 : en_lkC "EvenStepsModel" false [(.iinc 5 1, 3, 5, 0, [], 1, 0), (.goto (-45), 3, 1, 0, [], 0, 0)] := ⟨trivial, ⟨trivial, trivial⟩⟩
set_option maxRecDepth 100000 in
set_option maxHeartbeats 4000000 in
theorem n_X12_areAlike_3 : en_lkC "EvenStepsModel" false [(.iconst 1, 1, 0, 0, [], 1, 0), (.ireturn, 1, 0, 3, [], 0, 0)] := ⟨trivial, ⟨trivial, trivial⟩⟩
set_option maxRecDepth 100000 in
set_option maxHeartbeats 4000000 in
theorem n_X12_areAlike : en_lkM (⟨"EvenStepsModel", "areAlike", "(IIII)Z"⟩, prog_14_method_41_code, 6, (some .boolean), p_X12_areAlike) := (List.forall_mem_cons.mpr ⟨n_X12_areAlike_0, (List.forall_mem_cons.mpr ⟨n_X12_areAlike_1, (List.forall_mem_cons.mpr ⟨n_X12_areAlike_2, (List.forall_mem_cons.mpr ⟨n_X12_areAlike_3, (fun _ h => absurd h List.not_mem_nil)⟩)⟩)⟩)⟩)
set_option maxRecDepth 100000 in
set_option maxHeartbeats 4000000 in
theorem k_X12_isBackward : en_ckM (⟨"EvenStepsModel", "isBackward", "(III)Z"⟩, prog_14_method_42_code, 5, (some .boolean), p_X12_isBackward) = true := by decide +kernel
set_option maxRecDepth 100000 in
set_option maxHeartbeats 4000000 in
theorem n_X12_isBackward_0 : en_lkC "EvenStepsModel" false [(.iconst 0, 1, 0, 0, [], 0, 0), (.istore 4, 2, 4, 0, [], 0, 0)] := ⟨trivial, ⟨trivial, trivial⟩⟩
set_option maxRecDepth 100000 in
set_option maxHeartbeats 4000000 in
theorem n_X12_isBackward_1 : en_lkC "EvenStepsModel" false [(.iload 4, 2, 4, 0, [], 0, 0), (.iload_n 3, 1, 3, 0, [], 0, 0), (.if_icmp .ge 48, 3, 3, 0, [], 0, 0), (.aload_n 0, 1, 0, 0, [], 0, 0), (.getfield 32, 3, 10, 2, [(11, 0)], 0, 0), (.sipush 10001, 3, 0, 0, [], 10001, 0), (.iload_n 1, 1, 1, 0, [], 0, 0), (.imul, 1, 0, 0, [], 0, 0), (.iload_n 2, 1, 2, 0, [], 0, 0), (.iadd, 1, 0, 0, [], 0, 0), (.iload 4, 2, 4, 0, [], 0, 0), (.iadd, 1, 0, 0, [], 0, 0), (.iaload, 1, 0, 0, [], 0, 0), (.aload_n 0, 1, 0, 0, [], 0, 0), (.getfield 32, 3, 10, 2, [(11, 0)], 0, 0), (.sipush 10001, 3, 0, 0, [], 10001, 0), (.iload_n 1, 1, 1, 0, [], 0, 0), (.imul, 1, 0, 0, [], 0, 0), (.iload_n 2, 1, 2, 0, [], 0, 0), (.iadd, 1, 0, 0, [], 0, 0), (.iload_n 3, 1, 3, 0, [], 0, 0), (.iadd, 1, 0, 0, [], 0, 0), (.iconst 1, 1, 0, 0, [], 1, 0), (.isub, 1, 0, 0, [], 0, 0), (.iload 4, 2, 4, 0, [], 0, 0), (.isub, 1, 0, 0, [], 0, 0), (.iaload, 1, 0, 0, [], 0, 0), (.if_icmp .eq 5, 3, 2, 0, [], 0, 0), (.iconst 0, 1, 0, 0, [], 0, 0), (.ireturn, 1, 0, 3, [], 0, 0)] := ⟨trivial, ⟨trivial, ⟨trivial, ⟨trivial, ⟨lk_372, ⟨trivial, ⟨trivial, ⟨trivial, ⟨trivial, ⟨trivial, ⟨trivial, ⟨trivial, ⟨trivial, ⟨trivial, ⟨lk_372, ⟨trivial, ⟨trivial, ⟨trivial, ⟨trivial, ⟨trivial, ⟨trivial, ⟨trivial, ⟨trivial, ⟨trivial, ⟨trivial, ⟨trivial, ⟨trivial, ⟨trivial, ⟨trivial, ⟨trivial, trivial⟩⟩⟩⟩⟩⟩⟩⟩⟩⟩⟩⟩⟩⟩⟩⟩⟩⟩⟩⟩⟩⟩⟩⟩⟩⟩⟩⟩⟩⟩
set_option maxRecDepth 100000 in
set_option maxHeartbeats 4000000 in
theorem n_X12_isBackward_2 : en_lkC "EvenStepsModel" false [(.iinc 4 1, 3, 4, 0, [], 1, 0), (.goto (-48), 3, 1, 0, [], 0, 0)] := ⟨trivial, ⟨trivial, trivial⟩⟩
set_option maxRecDepth 100000 in
set_option maxHeartbeats 4000000 in
theorem n_X12_isBackward_3 : en_lkC "EvenStepsModel" false [(.iconst 1, 1, 0, 0, [], 1, 0), (.ireturn, 1, 0, 3, [], 0, 0)] := ⟨trivial, ⟨trivial, trivial⟩⟩
set_option maxRecDepth 100000 in
set_option maxHeartbeats 4000000 in
theorem n_X12_isBackward : en_lkM (⟨"EvenStepsModel", "isBackward", "(III)Z"⟩, prog_14_method_42_code, 5, (some .boolean), p_X12_isBackward) := (List.forall_mem_cons.mpr ⟨n_X12_isBackward_0, (List.forall_mem_cons.mpr ⟨n_X12_isBackward_1, (List.forall_mem_cons.mpr ⟨n_X12_isBackward_2, (List.forall_mem_cons.mpr ⟨n_X12_isBackward_3, (fun _ h => absurd h List.not_mem_nil)⟩)⟩)⟩)⟩)
set_option maxRecDepth 100000 in
set_option maxHeartbeats 4000000 in
theorem k_X12_parts : en_ckM (⟨"EvenStepsModel", "parts", "(III)I"⟩, prog_14_method_43_code, 8, (some .int), p_X12_parts) = true := by decide +kernel
set_option maxRecDepth 100000 in
set_option maxHeartbeats 4000000 in
theorem n_X12_parts_0 : en_lkC "EvenStepsModel" false [(.aload_n 0, 1, 0, 0, [], 0, 0), (.iload_n 1, 1, 1, 0, [], 0, 0), (.invokevirtual 162, 3, 1, 3, [(11, 152)], 0, 0), (.ifCond .eq 22, 3, 1, 0, [], 0, 0), (.iload_n 2, 1, 2, 0, [], 0, 0), (.iconst 1, 1, 0, 0, [], 1, 0), (.bipush 12, 2, 0, 0, [], 12, 0), (.invokestatic 99, 3, 3, 3, [(0, 133)], 0, 0), (.ifCond .eq 12, 3, 1, 0, [], 0, 0), (.iload_n 3, 1, 3, 0, [], 0, 0), (.iconst 0, 1, 0, 0, [], 0, 0), (.iconst 1, 1, 0, 0, [], 1, 0), (.invokestatic 99, 3, 3, 3, [(0, 133)], 0, 0), (.ifCond .ne 5, 3, 2, 0, [], 0, 0)] := ⟨trivial, ⟨trivial, ⟨lk_378, ⟨trivial, ⟨trivial, ⟨trivial, ⟨trivial, ⟨lk_342, ⟨trivial, ⟨trivial, ⟨trivial, ⟨trivial, ⟨lk_342, ⟨trivial, trivial⟩⟩⟩⟩⟩⟩⟩⟩⟩⟩⟩⟩⟩⟩
set_option maxRecDepth 100000 in
set_option maxHeartbeats 4000000 in
theorem n_X12_parts_1 : en_lkC "EvenStepsModel" false [(.iconst (-1), 1, 0, 0, [], (-1), 0), (.ireturn, 1, 0, 0, [], 0, 0)] := ⟨trivial, ⟨trivial, trivial⟩⟩
set_option maxRecDepth 100000 in
set_option maxHeartbeats 4000000 in
theorem n_X12_parts_2 : en_lkC "EvenStepsModel" false [(.iconst 0, 1, 0, 0, [], 0, 0), (.istore 4, 2, 4, 0, [], 0, 0), (.iconst 0, 1, 0, 0, [], 0, 0), (.istore 5, 2, 5, 0, [], 0, 0)] := ⟨trivial, ⟨trivial, ⟨trivial, ⟨trivial, trivial⟩⟩⟩⟩
set_option maxRecDepth 100000 in
set_option maxHeartbeats 4000000 in
theorem n_X12_parts_3 : en_lkC "EvenStepsModel" false [(.iload 5, 2, 5, 0, [], 0, 0), (.sipush 200, 3, 0, 0, [], 200, 0), (.if_icmp .ge 89, 3, 10, 0, [], 0, 0), (.iload 5, 2, 5, 0, [], 0, 0), (.iload_n 2, 1, 2, 0, [], 0, 0), (.iadd, 1, 0, 0, [], 0, 0), (.aload_n 0, 1, 0, 0, [], 0, 0), (.getfield 25, 3, 8, 2, [(11, 0)], 0, 0), (.iload_n 1, 1, 1, 0, [], 0, 0), (.iaload, 1, 0, 0, [], 0, 0), (.if_icmp .gt 76, 3, 10, 0, [], 0, 0), (.iconst 1, 1, 0, 0, [], 1, 0), (.istore 6, 2, 6, 0, [], 0, 0), (.iconst 0, 1, 0, 0, [], 0, 0), (.istore 7, 2, 7, 0, [], 0, 0)] := ⟨trivial, ⟨trivial, ⟨trivial, ⟨trivial, ⟨trivial, ⟨trivial, ⟨trivial, ⟨lk_373, ⟨trivial, ⟨trivial, ⟨trivial, ⟨trivial, ⟨trivial, ⟨trivial, ⟨trivial, trivial⟩⟩⟩⟩⟩⟩⟩⟩⟩⟩⟩⟩⟩⟩⟩
set_option maxRecDepth 100000 in
set_option maxHeartbeats 4000000 in
theorem n_X12_parts_4 : en_lkC "EvenStepsModel" false [(.iload 7, 2, 7, 0, [], 0, 0), (.iload 5, 2, 5, 0, [], 0, 0), (.if_icmp .ge 34, 3, 7, 0, [], 0, 0), (.iload 6, 2, 6, 0, [], 0, 0), (.ifCond .eq 29, 3, 7, 0, [], 0, 0), (.aload_n 0, 1, 0, 0, [], 0, 0), (.iload_n 1, 1, 1, 0, [], 0, 0), (.iload 5, 2, 5, 0, [], 0, 0), (.iload 7, 2, 7, 0, [], 0, 0), (.iload_n 2, 1, 2, 0, [], 0, 0), (.invokevirtual 178, 3, 4, 3, [(11, 170)], 0, 0), (.ifCond .ne 7, 3, 5, 0, [], 0, 0), (.iconst 1, 1, 0, 0, [], 1, 0), (.goto 4, 3, 6, 0, [], 0, 0)] := ⟨trivial, ⟨trivial, ⟨trivial, ⟨trivial, ⟨trivial, ⟨trivial, ⟨trivial, ⟨trivial, ⟨trivial, ⟨trivial, ⟨lk_383, ⟨trivial, ⟨trivial, ⟨trivial, trivial⟩⟩⟩⟩⟩⟩⟩⟩⟩⟩⟩⟩⟩⟩
set_option maxRecDepth 100000 in
set_option maxHeartbeats 4000000 in
theorem n_X12_parts_5 : en_lkC "EvenStepsModel" false [(.iconst 0, 1, 0, 0, [], 0, 0)] := ⟨trivial, trivial⟩
set_option maxRecDepth 100000 in
set_option maxHeartbeats 4000000 in
theorem n_X12_parts_6 : en_lkC "EvenStepsModel" false [(.istore 6, 2, 6, 0, [], 0, 0), (.iinc 7 1, 3, 7, 0, [], 1, 0), (.goto (-35), 3, 4, 0, [], 0, 0)] := ⟨trivial, ⟨trivial, ⟨trivial, trivial⟩⟩⟩
set_option maxRecDepth 100000 in
set_option maxHeartbeats 4000000 in
theorem n_X12_parts_7 : en_lkC "EvenStepsModel" false [(.iload 6, 2, 6, 0, [], 0, 0), (.ifCond .eq 21, 3, 9, 0, [], 0, 0), (.iload_n 3, 1, 3, 0, [], 0, 0), (.ifCond .eq 14, 3, 8, 0, [], 0, 0), (.aload_n 0, 1, 0, 0, [], 0, 0), (.iload_n 1, 1, 1, 0, [], 0, 0), (.iload 5, 2, 5, 0, [], 0, 0), (.iload_n 2, 1, 2, 0, [], 0, 0), (.invokevirtual 182, 3, 3, 3, [(11, 171)], 0, 0), (.ifCond .eq 6, 3, 9, 0, [], 0, 0)] := ⟨trivial, ⟨trivial, ⟨trivial, ⟨trivial, ⟨trivial, ⟨trivial, ⟨trivial, ⟨trivial, ⟨lk_384, ⟨trivial, trivial⟩⟩⟩⟩⟩⟩⟩⟩⟩⟩
set_option maxRecDepth 100000 in
set_option maxHeartbeats 4000000 in
theorem n_X12_parts_8 : en_lkC "EvenStepsModel" false [(.iinc 4 1, 3, 4, 0, [], 1, 0)] := ⟨trivial, trivial⟩
set_option maxRecDepth 100000 in
set_option maxHeartbeats 4000000 in
theorem n_X12_parts_9 : en_lkC "EvenStepsModel" false [(.iinc 5 1, 3, 5, 0, [], 1, 0), (.goto (-91), 3, 3, 0, [], 0, 0)] := ⟨trivial, ⟨trivial, trivial⟩⟩
set_option maxRecDepth 100000 in
set_option maxHeartbeats 4000000 in
theorem n_X12_parts_10 : en_lkC "EvenStepsModel" false [(.iload 4, 2, 4, 0, [], 0, 0), (.ireturn, 1, 0, 0, [], 0, 0)] := ⟨trivial, ⟨trivial, trivial⟩⟩
set_option maxRecDepth 100000 in
set_option maxHeartbeats 4000000 in
theorem n_X12_parts : en_lkM (⟨"EvenStepsModel", "parts", "(III)I"⟩, prog_14_method_43_code, 8, (some .int), p_X12_parts) := (List.forall_mem_cons.mpr ⟨n_X12_parts_0, (List.forall_mem_cons.mpr ⟨n_X12_parts_1, (List.forall_mem_cons.mpr ⟨n_X12_parts_2, (List.forall_mem_cons.mpr ⟨n_X12_parts_3, (List.forall_mem_cons.mpr ⟨n_X12_parts_4, (List.forall_mem_cons.mpr ⟨n_X12_parts_5, (List.forall_mem_cons.mpr ⟨n_X12_parts_6, (List.forall_mem_cons.mpr ⟨n_X12_parts_7, (List.forall_mem_cons.mpr ⟨n_X12_parts_8, (List.forall_mem_cons.mpr ⟨n_X12_parts_9, (List.forall_mem_cons.mpr ⟨n_X12_parts_10, (fun _ h => absurd h List.not_mem_nil)⟩)⟩)⟩)⟩)⟩)⟩)⟩)⟩)⟩)⟩)⟩)
set_option maxRecDepth 100000 in
set_option maxHeartbeats 4000000 in
theorem k_X12_arePoints : en_ckM (⟨"EvenStepsModel", "arePoints", "(II)Z"⟩, prog_14_method_44_code, 4, (some .boolean), p_X12_arePoints) = true := by decide +kernel
set_option maxRecDepth 100000 in
set_option maxHeartbeats 4000000 in
theorem n_X12_arePoints_0 : en_lkC "EvenStepsModel" false [(.aload_n 0, 1, 0, 0, [], 0, 0), (.iload_n 1, 1, 1, 0, [], 0, 0), (.invokevirtual 162, 3, 1, 3, [(11, 152)], 0, 0), (.ifCond .eq 23, 3, 1, 0, [], 0, 0), (.aload_n 0, 1, 0, 0, [], 0, 0), (.getfield 22, 3, 7, 2, [(11, 0)], 0, 0), (.iload_n 1, 1, 1, 0, [], 0, 0), (.iaload, 1, 0, 0, [], 0, 0), (.iconst 4, 1, 0, 0, [], 4, 0), (.if_icmp .ne 13, 3, 1, 0, [], 0, 0), (.iload_n 2, 1, 2, 0, [], 0, 0), (.iconst 1, 1, 0, 0, [], 1, 0), (.bipush 60, 2, 0, 0, [], 60, 0), (.invokestatic 99, 3, 3, 3, [(0, 133)], 0, 0), (.ifCond .ne 5, 3, 2, 0, [], 0, 0)] := ⟨trivial, ⟨trivial, ⟨lk_378, ⟨trivial, ⟨trivial, ⟨lk_374, ⟨trivial, ⟨trivial, ⟨trivial, ⟨trivial, ⟨trivial, ⟨trivial, ⟨trivial, ⟨lk_342, ⟨trivial, trivial⟩⟩⟩⟩⟩⟩⟩⟩⟩⟩⟩⟩⟩⟩⟩
set_option maxRecDepth 100000 in
set_option maxHeartbeats 4000000 in
theorem n_X12_arePoints_1 : en_lkC "EvenStepsModel" false [(.iconst 0, 1, 0, 0, [], 0, 0), (.ireturn, 1, 0, 3, [], 0, 0)] := ⟨trivial, ⟨trivial, trivial⟩⟩
set_option maxRecDepth 100000 in
set_option maxHeartbeats 4000000 in
theorem n_X12_arePoints_2 : en_lkC "EvenStepsModel" false [(.aload_n 0, 1, 0, 0, [], 0, 0), (.getfield 28, 3, 9, 2, [(11, 0)], 0, 0), (.iload_n 1, 1, 1, 0, [], 0, 0), (.iaload, 1, 0, 0, [], 0, 0), (.istore_n 3, 1, 3, 0, [], 0, 0), (.aload_n 0, 1, 0, 0, [], 0, 0), (.getfield 13, 3, 4, 2, [(11, 0)], 0, 0), (.iload_n 3, 1, 3, 0, [], 0, 0), (.iaload, 1, 0, 0, [], 0, 0), (.ifCond .ne 34, 3, 3, 0, [], 0, 0), (.iload_n 2, 1, 2, 0, [], 0, 0), (.i2l, 1, 0, 0, [], 0, 0), (.aload_n 0, 1, 0, 0, [], 0, 0), (.getfield 16, 3, 5, 2, [(11, 0)], 0, 0), (.iload_n 3, 1, 3, 0, [], 0, 0), (.iaload, 1, 0, 0, [], 0, 0), (.i2l, 1, 0, 0, [], 0, 0), (.aload_n 0, 1, 0, 0, [], 0, 0), (.getfield 7, 3, 3, 2, [(11, 0)], 0, 0), (.iload_n 3, 1, 3, 0, [], 0, 0), (.iaload, 1, 0, 0, [], 0, 0), (.i2l, 1, 0, 0, [], 0, 0), (.aload_n 0, 1, 0, 0, [], 0, 0), (.getfield 16, 3, 5, 2, [(11, 0)], 0, 0), (.iload_n 3, 1, 3, 0, [], 0, 0), (.iaload, 1, 0, 0, [], 0, 0), (.i2l, 1, 0, 0, [], 0, 0), (.invokestatic 133, 3, 2, 1, [(0, 142)], 0, 0), (.ldiv, 1, 0, 0, [], 0, 0), (.lcmp, 1, 0, 0, [], 0, 0), (.ifCond .gt 7, 3, 4, 0, [], 0, 0)] := ⟨trivial, ⟨lk_375, ⟨trivial, ⟨trivial, ⟨trivial, ⟨trivial, ⟨lk_337, ⟨trivial, ⟨trivial, ⟨trivial, ⟨trivial, ⟨trivial, ⟨trivial, ⟨lk_336, ⟨trivial, ⟨trivial, ⟨trivial, ⟨trivial, ⟨lk_335, ⟨trivial, ⟨trivial, ⟨trivial, ⟨trivial, ⟨lk_336, ⟨trivial, ⟨trivial, ⟨trivial, ⟨lk_357, ⟨trivial, ⟨trivial, ⟨trivial, trivial⟩⟩⟩⟩⟩⟩⟩⟩⟩⟩⟩⟩⟩⟩⟩⟩⟩⟩⟩⟩⟩⟩⟩⟩⟩⟩⟩⟩⟩⟩⟩
set_option maxRecDepth 100000 in
set_option maxHeartbeats 4000000 in
theorem n_X12_arePoints_3 : en_lkC "EvenStepsModel" false [(.iconst 1, 1, 0, 0, [], 1, 0), (.goto 4, 3, 5, 0, [], 0, 0)] := ⟨trivial, ⟨trivial, trivial⟩⟩
set_option maxRecDepth 100000 in
set_option maxHeartbeats 4000000 in
theorem n_X12_arePoints_4 : en_lkC "EvenStepsModel" false [(.iconst 0, 1, 0, 0, [], 0, 0)] := ⟨trivial, trivial⟩
set_option maxRecDepth 100000 in
set_option maxHeartbeats 4000000 in
theorem n_X12_arePoints_5 : en_lkC "EvenStepsModel" false [(.ireturn, 1, 0, 3, [], 0, 0)] := ⟨trivial, trivial⟩
set_option maxRecDepth 100000 in
set_option maxHeartbeats 4000000 in
theorem n_X12_arePoints : en_lkM (⟨"EvenStepsModel", "arePoints", "(II)Z"⟩, prog_14_method_44_code, 4, (some .boolean), p_X12_arePoints) := (List.forall_mem_cons.mpr ⟨n_X12_arePoints_0, (List.forall_mem_cons.mpr ⟨n_X12_arePoints_1, (List.forall_mem_cons.mpr ⟨n_X12_arePoints_2, (List.forall_mem_cons.mpr ⟨n_X12_arePoints_3, (List.forall_mem_cons.mpr ⟨n_X12_arePoints_4, (List.forall_mem_cons.mpr ⟨n_X12_arePoints_5, (fun _ h => absurd h List.not_mem_nil)⟩)⟩)⟩)⟩)⟩)⟩)
set_option maxRecDepth 100000 in
set_option maxHeartbeats 4000000 in
theorem k_X12_rings : en_ckM (⟨"EvenStepsModel", "rings", "(II)V"⟩, prog_14_method_45_code, 5, none, p_X12_rings) = true := by decide +kernel
set_option maxRecDepth 100000 in
set_option maxHeartbeats 4000000 in
theorem n_X12_rings_0 : en_lkC "EvenStepsModel" false [(.iconst 0, 1, 0, 0, [], 0, 0), (.istore_n 3, 1, 3, 0, [], 0, 0)] := ⟨trivial, ⟨trivial, trivial⟩⟩
set_option maxRecDepth 100000 in
set_option maxHeartbeats 4000000 in
theorem n_X12_rings_1 : en_lkC "EvenStepsModel" false [(.iload_n 3, 1, 3, 0, [], 0, 0), (.iload_n 2, 1, 2, 0, [], 0, 0), (.if_icmp .ge 77, 3, 4, 0, [], 0, 0), (.aload_n 0, 1, 0, 0, [], 0, 0), (.getfield 60, 3, 23, 2, [(11, 0)], 0, 0), (.iload_n 3, 1, 3, 0, [], 0, 0), (.aload_n 0, 1, 0, 0, [], 0, 0), (.iload_n 1, 1, 1, 0, [], 0, 0), (.iload_n 3, 1, 3, 0, [], 0, 0), (.invokevirtual 118, 3, 2, 0, [(11, 136)], 0, 0), (.iastore, 1, 0, 0, [], 0, 0), (.iload_n 3, 1, 3, 0, [], 0, 0), (.istore 4, 2, 4, 0, [], 0, 0)] := ⟨trivial, ⟨trivial, ⟨trivial, ⟨trivial, ⟨lk_385, ⟨trivial, ⟨trivial, ⟨trivial, ⟨trivial, ⟨lk_349, ⟨trivial, ⟨trivial, ⟨trivial, trivial⟩⟩⟩⟩⟩⟩⟩⟩⟩⟩⟩⟩⟩
set_option maxRecDepth 100000 in
set_option maxHeartbeats 4000000 in
theorem n_X12_rings_2 : en_lkC "EvenStepsModel" false [(.iload 4, 2, 4, 0, [], 0, 0), (.ifCond .le 43, 3, 3, 0, [], 0, 0), (.aload_n 0, 1, 0, 0, [], 0, 0), (.iload_n 1, 1, 1, 0, [], 0, 0), (.iload_n 3, 1, 3, 0, [], 0, 0), (.aload_n 0, 1, 0, 0, [], 0, 0), (.getfield 57, 3, 22, 2, [(11, 0)], 0, 0), (.iload 4, 2, 4, 0, [], 0, 0), (.iconst 1, 1, 0, 0, [], 1, 0), (.isub, 1, 0, 0, [], 0, 0), (.iaload, 1, 0, 0, [], 0, 0), (.invokevirtual 185, 3, 3, 3, [(11, 175)], 0, 0), (.ifCond .eq 25, 3, 3, 0, [], 0, 0), (.aload_n 0, 1, 0, 0, [], 0, 0), (.getfield 57, 3, 22, 2, [(11, 0)], 0, 0), (.iload 4, 2, 4, 0, [], 0, 0), (.aload_n 0, 1, 0, 0, [], 0, 0), (.getfield 57, 3, 22, 2, [(11, 0)], 0, 0), (.iload 4, 2, 4, 0, [], 0, 0), (.iconst 1, 1, 0, 0, [], 1, 0), (.isub, 1, 0, 0, [], 0, 0), (.iaload, 1, 0, 0, [], 0, 0), (.iastore, 1, 0, 0, [], 0, 0), (.iinc 4 (-1), 3, 4, 0, [], (-1), 0), (.goto (-42), 3, 2, 0, [], 0, 0)] := ⟨trivial, ⟨trivial, ⟨trivial, ⟨trivial, ⟨trivial, ⟨trivial, ⟨lk_386, ⟨trivial, ⟨trivial, ⟨trivial, ⟨trivial, ⟨lk_387, ⟨trivial, ⟨trivial, ⟨lk_386, ⟨trivial, ⟨trivial, ⟨lk_386, ⟨trivial, ⟨trivial, ⟨trivial, ⟨trivial, ⟨trivial, ⟨trivial, ⟨trivial, trivial⟩⟩⟩⟩⟩⟩⟩⟩⟩⟩⟩⟩⟩⟩⟩⟩⟩⟩⟩⟩⟩⟩⟩⟩⟩
set_option maxRecDepth 100000 in
set_option maxHeartbeats 4000000 in
theorem n_X12_rings_3 : en_lkC "EvenStepsModel" false [(.aload_n 0, 1, 0, 0, [], 0, 0), (.getfield 57, 3, 22, 2, [(11, 0)], 0, 0), (.iload 4, 2, 4, 0, [], 0, 0), (.iload_n 3, 1, 3, 0, [], 0, 0), (.iastore, 1, 0, 0, [], 0, 0), (.iinc 3 1, 3, 3, 0, [], 1, 0), (.goto (-76), 3, 1, 0, [], 0, 0)] := ⟨trivial, ⟨lk_386, ⟨trivial, ⟨trivial, ⟨trivial, ⟨trivial, ⟨trivial, trivial⟩⟩⟩⟩⟩⟩⟩
set_option maxRecDepth 100000 in
set_option maxHeartbeats 4000000 in
theorem n_X12_rings_4 : en_lkC "EvenStepsModel" false [(.return_, 1, 0, 0, [], 0, 0)] := ⟨trivial, trivial⟩
set_option maxRecDepth 100000 in
set_option maxHeartbeats 4000000 in
theorem n_X12_rings : en_lkM (⟨"EvenStepsModel", "rings", "(II)V"⟩, prog_14_method_45_code, 5, none, p_X12_rings) := (List.forall_mem_cons.mpr ⟨n_X12_rings_0, (List.forall_mem_cons.mpr ⟨n_X12_rings_1, (List.forall_mem_cons.mpr ⟨n_X12_rings_2, (List.forall_mem_cons.mpr ⟨n_X12_rings_3, (List.forall_mem_cons.mpr ⟨n_X12_rings_4, (fun _ h => absurd h List.not_mem_nil)⟩)⟩)⟩)⟩)⟩)
set_option maxRecDepth 100000 in
set_option maxHeartbeats 4000000 in
theorem k_X12_isAhead : en_ckM (⟨"EvenStepsModel", "isAhead", "(III)Z"⟩, prog_14_method_46_code, 8, (some .boolean), p_X12_isAhead) = true := by decide +kernel
set_option maxRecDepth 100000 in
set_option maxHeartbeats 4000000 in
theorem n_X12_isAhead_0 : en_lkC "EvenStepsModel" false [(.iload_n 2, 1, 2, 0, [], 0, 0), (.iload_n 3, 1, 3, 0, [], 0, 0), (.isub, 1, 0, 0, [], 0, 0), (.i2l, 1, 0, 0, [], 0, 0), (.lstore 4, 2, 4, 0, [], 0, 0), (.aload_n 0, 1, 0, 0, [], 0, 0), (.getfield 60, 3, 23, 2, [(11, 0)], 0, 0), (.iload_n 2, 1, 2, 0, [], 0, 0), (.iaload, 1, 0, 0, [], 0, 0), (.aload_n 0, 1, 0, 0, [], 0, 0), (.getfield 60, 3, 23, 2, [(11, 0)], 0, 0), (.iload_n 3, 1, 3, 0, [], 0, 0), (.iaload, 1, 0, 0, [], 0, 0), (.isub, 1, 0, 0, [], 0, 0), (.i2l, 1, 0, 0, [], 0, 0), (.lstore 6, 2, 6, 0, [], 0, 0), (.aload_n 0, 1, 0, 0, [], 0, 0), (.getfield 7, 3, 3, 2, [(11, 0)], 0, 0), (.iload_n 1, 1, 1, 0, [], 0, 0), (.iaload, 1, 0, 0, [], 0, 0), (.i2l, 1, 0, 0, [], 0, 0), (.lload 4, 2, 4, 0, [], 0, 0), (.lmul, 1, 0, 0, [], 0, 0), (.lload 6, 2, 6, 0, [], 0, 0), (.aload_n 0, 1, 0, 0, [], 0, 0), (.getfield 16, 3, 5, 2, [(11, 0)], 0, 0), (.iload_n 1, 1, 1, 0, [], 0, 0), (.iaload, 1, 0, 0, [], 0, 0), (.i2l, 1, 0, 0, [], 0, 0), (.lmul, 1, 0, 0, [], 0, 0), (.lsub, 1, 0, 0, [], 0, 0), (.aload_n 0, 1, 0, 0, [], 0, 0), (.getfield 13, 3, 4, 2, [(11, 0)], 0, 0), (.iload_n 1, 1, 1, 0, [], 0, 0), (.iaload, 1, 0, 0, [], 0, 0), (.i2l, 1, 0, 0, [], 0, 0), (.lload 4, 2, 4, 0, [], 0, 0), (.lmul, 1, 0, 0, [], 0, 0), (.aload_n 0, 1, 0, 0, [], 0, 0), (.getfield 19, 3, 6, 2, [(11, 0)], 0, 0), (.iload_n 1, 1, 1, 0, [], 0, 0), (.iaload, 1, 0, 0, [], 0, 0), (.i2l, 1, 0, 0, [], 0, 0), (.invokestatic 88, 3, 3, 0, [(0, 134)], 0, 0), (.ifCond .ge 7, 3, 1, 0, [], 0, 0), (.iconst 1, 1, 0, 0, [], 1, 0), (.goto 4, 3, 2, 0, [], 0, 0)] := ⟨trivial, ⟨trivial, ⟨trivial, ⟨trivial, ⟨trivial, ⟨trivial, ⟨lk_385, ⟨trivial, ⟨trivial, ⟨trivial, ⟨lk_385, ⟨trivial, ⟨trivial, ⟨trivial, ⟨trivial, ⟨trivial, ⟨trivial, ⟨lk_335, ⟨trivial, ⟨trivial, ⟨trivial, ⟨trivial, ⟨trivial, ⟨trivial, ⟨trivial, ⟨lk_336, ⟨trivial, ⟨trivial, ⟨trivial, ⟨trivial, ⟨trivial, ⟨trivial, ⟨lk_337, ⟨trivial, ⟨trivial, ⟨trivial, ⟨trivial, ⟨trivial, ⟨trivial, ⟨lk_338, ⟨trivial, ⟨trivial, ⟨trivial, ⟨lk_339, ⟨trivial, ⟨trivial, ⟨trivial, trivial⟩⟩⟩⟩⟩⟩⟩⟩⟩⟩⟩⟩⟩⟩⟩⟩⟩⟩⟩⟩⟩⟩⟩⟩⟩⟩⟩⟩⟩⟩⟩⟩⟩⟩⟩⟩⟩⟩⟩⟩⟩⟩⟩⟩⟩⟩⟩
set_option maxRecDepth 100000 in
set_option maxHeartbeats 4000000 in
theorem n_X12_isAhead_1 : en_lkC "EvenStepsModel" false [(.iconst 0, 1, 0, 0, [], 0, 0)] := ⟨trivial, trivial⟩
set_option maxRecDepth 100000 in
set_option maxHeartbeats 4000000 in
theorem n_X12_isAhead_2 : en_lkC "EvenStepsModel" false [(.ireturn, 1, 0, 3, [], 0, 0)] := ⟨trivial, trivial⟩
set_option maxRecDepth 100000 in
set_option maxHeartbeats 4000000 in
theorem n_X12_isAhead : en_lkM (⟨"EvenStepsModel", "isAhead", "(III)Z"⟩, prog_14_method_46_code, 8, (some .boolean), p_X12_isAhead) := (List.forall_mem_cons.mpr ⟨n_X12_isAhead_0, (List.forall_mem_cons.mpr ⟨n_X12_isAhead_1, (List.forall_mem_cons.mpr ⟨n_X12_isAhead_2, (fun _ h => absurd h List.not_mem_nil)⟩)⟩)⟩)
set_option maxRecDepth 100000 in
set_option maxHeartbeats 4000000 in
theorem k_X12_against_ : en_ckM (⟨"EvenStepsModel", "against", "(IIIII)I"⟩, prog_14_method_47_code, 10, (some .int), p_X12_against_) = true := by decide +kernel
set_option maxRecDepth 100000 in
set_option maxHeartbeats 4000000 in
theorem n_X12_against__0 : en_lkC "EvenStepsModel" false [(.iload_n 3, 1, 3, 0, [], 0, 0), (.iload 5, 2, 5, 0, [], 0, 0), (.isub, 1, 0, 0, [], 0, 0), (.i2l, 1, 0, 0, [], 0, 0), (.lstore 6, 2, 6, 0, [], 0, 0), (.iload_n 2, 1, 2, 0, [], 0, 0), (.iload 4, 2, 4, 0, [], 0, 0), (.isub, 1, 0, 0, [], 0, 0), (.i2l, 1, 0, 0, [], 0, 0), (.lstore 8, 2, 8, 0, [], 0, 0), (.aload_n 0, 1, 0, 0, [], 0, 0), (.getfield 7, 3, 3, 2, [(11, 0)], 0, 0), (.iload_n 1, 1, 1, 0, [], 0, 0), (.iaload, 1, 0, 0, [], 0, 0), (.i2l, 1, 0, 0, [], 0, 0), (.lload 6, 2, 6, 0, [], 0, 0), (.lmul, 1, 0, 0, [], 0, 0), (.lload 8, 2, 8, 0, [], 0, 0), (.aload_n 0, 1, 0, 0, [], 0, 0), (.getfield 16, 3, 5, 2, [(11, 0)], 0, 0), (.iload_n 1, 1, 1, 0, [], 0, 0), (.iaload, 1, 0, 0, [], 0, 0), (.i2l, 1, 0, 0, [], 0, 0), (.lmul, 1, 0, 0, [], 0, 0), (.ladd, 1, 0, 0, [], 0, 0), (.aload_n 0, 1, 0, 0, [], 0, 0), (.getfield 13, 3, 4, 2, [(11, 0)], 0, 0), (.iload_n 1, 1, 1, 0, [], 0, 0), (.iaload, 1, 0, 0, [], 0, 0), (.i2l, 1, 0, 0, [], 0, 0), (.lload 6, 2, 6, 0, [], 0, 0), (.lmul, 1, 0, 0, [], 0, 0), (.aload_n 0, 1, 0, 0, [], 0, 0), (.getfield 19, 3, 6, 2, [(11, 0)], 0, 0), (.iload_n 1, 1, 1, 0, [], 0, 0), (.iaload, 1, 0, 0, [], 0, 0), (.i2l, 1, 0, 0, [], 0, 0), (.invokestatic 88, 3, 3, 0, [(0, 134)], 0, 0), (.ireturn, 1, 0, 0, [], 0, 0)] := ⟨trivial, ⟨trivial, ⟨trivial, ⟨trivial, ⟨trivial, ⟨trivial, ⟨trivial, ⟨trivial, ⟨trivial, ⟨trivial, ⟨trivial, ⟨lk_335, ⟨trivial, ⟨trivial, ⟨trivial, ⟨trivial, ⟨trivial, ⟨trivial, ⟨trivial, ⟨lk_336, ⟨trivial, ⟨trivial, ⟨trivial, ⟨trivial, ⟨trivial, ⟨trivial, ⟨lk_337, ⟨trivial, ⟨trivial, ⟨trivial, ⟨trivial, ⟨trivial, ⟨trivial, ⟨lk_338, ⟨trivial, ⟨trivial, ⟨trivial, ⟨lk_339, ⟨trivial, trivial⟩⟩⟩⟩⟩⟩⟩⟩⟩⟩⟩⟩⟩⟩⟩⟩⟩⟩⟩⟩⟩⟩⟩⟩⟩⟩⟩⟩⟩⟩⟩⟩⟩⟩⟩⟩⟩⟩⟩
set_option maxRecDepth 100000 in
set_option maxHeartbeats 4000000 in
theorem n_X12_against_ : en_lkM (⟨"EvenStepsModel", "against", "(IIIII)I"⟩, prog_14_method_47_code, 10, (some .int), p_X12_against_) := (List.forall_mem_cons.mpr ⟨n_X12_against__0, (fun _ h => absurd h List.not_mem_nil)⟩)
set_option maxRecDepth 100000 in
set_option maxHeartbeats 4000000 in
theorem k_X12_gapsOf : en_ckM (⟨"EvenStepsModel", "gapsOf", "(II)V"⟩, prog_14_method_48_code, 7, none, p_X12_gapsOf) = true := by decide +kernel
set_option maxRecDepth 100000 in
set_option maxHeartbeats 4000000 in
theorem n_X12_gapsOf_0 : en_lkC "EvenStepsModel" false [(.aload_n 0, 1, 0, 0, [], 0, 0), (.getfield 28, 3, 9, 2, [(11, 0)], 0, 0), (.iload_n 1, 1, 1, 0, [], 0, 0), (.iaload, 1, 0, 0, [], 0, 0), (.istore_n 3, 1, 3, 0, [], 0, 0), (.aload_n 0, 1, 0, 0, [], 0, 0), (.iload_n 3, 1, 3, 0, [], 0, 0), (.iload_n 2, 1, 2, 0, [], 0, 0), (.invokevirtual 188, 3, 2, 4, [(11, 174)], 0, 0), (.aload_n 0, 1, 0, 0, [], 0, 0), (.iconst 0, 1, 0, 0, [], 0, 0), (.putfield 192, 3, 30, 0, [(11, 0)], 0, 0), (.iconst 0, 1, 0, 0, [], 0, 0), (.istore 4, 2, 4, 0, [], 0, 0)] := ⟨trivial, ⟨lk_375, ⟨trivial, ⟨trivial, ⟨trivial, ⟨trivial, ⟨trivial, ⟨trivial, ⟨lk_388, ⟨trivial, ⟨trivial, ⟨lk_389, ⟨trivial, ⟨trivial, trivial⟩⟩⟩⟩⟩⟩⟩⟩⟩⟩⟩⟩⟩⟩
set_option maxRecDepth 100000 in
set_option maxHeartbeats 4000000 in
theorem n_X12_gapsOf_1 : en_lkC "EvenStepsModel" false [(.iload 4, 2, 4, 0, [], 0, 0), (.iload_n 2, 1, 2, 0, [], 0, 0), (.if_icmp .ge 89, 3, 6, 0, [], 0, 0), (.aload_n 0, 1, 0, 0, [], 0, 0), (.getfield 57, 3, 22, 2, [(11, 0)], 0, 0), (.iload 4, 2, 4, 0, [], 0, 0), (.iaload, 1, 0, 0, [], 0, 0), (.istore 5, 2, 5, 0, [], 0, 0), (.aload_n 0, 1, 0, 0, [], 0, 0), (.getfield 57, 3, 22, 2, [(11, 0)], 0, 0), (.iload 4, 2, 4, 0, [], 0, 0), (.iconst 1, 1, 0, 0, [], 1, 0), (.iadd, 1, 0, 0, [], 0, 0), (.iload_n 2, 1, 2, 0, [], 0, 0), (.if_icmp .ne 7, 3, 2, 0, [], 0, 0), (.iconst 0, 1, 0, 0, [], 0, 0), (.goto 7, 3, 3, 0, [], 0, 0)] := ⟨trivial, ⟨trivial, ⟨trivial, ⟨trivial, ⟨lk_386, ⟨trivial, ⟨trivial, ⟨trivial, ⟨trivial, ⟨lk_386, ⟨trivial, ⟨trivial, ⟨trivial, ⟨trivial, ⟨trivial, ⟨trivial, ⟨trivial, trivial⟩⟩⟩⟩⟩⟩⟩⟩⟩⟩⟩⟩⟩⟩⟩⟩⟩
set_option maxRecDepth 100000 in
set_option maxHeartbeats 4000000 in
theorem n_X12_gapsOf_2 : en_lkC "EvenStepsModel" false [(.iload 4, 2, 4, 0, [], 0, 0), (.iconst 1, 1, 0, 0, [], 1, 0), (.iadd, 1, 0, 0, [], 0, 0)] := ⟨trivial, ⟨trivial, ⟨trivial, trivial⟩⟩⟩
set_option maxRecDepth 100000 in
set_option maxHeartbeats 4000000 in
theorem n_X12_gapsOf_3 : en_lkC "EvenStepsModel" false [(.iaload, 1, 0, 0, [], 0, 0), (.istore 6, 2, 6, 0, [], 0, 0), (.aload_n 0, 1, 0, 0, [], 0, 0), (.getfield 63, 3, 24, 2, [(11, 0)], 0, 0), (.iload 5, 2, 5, 0, [], 0, 0), (.aload_n 0, 1, 0, 0, [], 0, 0), (.getfield 60, 3, 23, 2, [(11, 0)], 0, 0), (.iload 5, 2, 5, 0, [], 0, 0), (.iaload, 1, 0, 0, [], 0, 0), (.aload_n 0, 1, 0, 0, [], 0, 0), (.getfield 60, 3, 23, 2, [(11, 0)], 0, 0), (.iload 6, 2, 6, 0, [], 0, 0), (.iaload, 1, 0, 0, [], 0, 0), (.isub, 1, 0, 0, [], 0, 0), (.iload 4, 2, 4, 0, [], 0, 0), (.iconst 1, 1, 0, 0, [], 1, 0), (.iadd, 1, 0, 0, [], 0, 0), (.iload_n 2, 1, 2, 0, [], 0, 0), (.if_icmp .ne 7, 3, 4, 0, [], 0, 0), (.iconst 1, 1, 0, 0, [], 1, 0), (.goto 4, 3, 5, 0, [], 0, 0)] := ⟨trivial, ⟨trivial, ⟨trivial, ⟨lk_390, ⟨trivial, ⟨trivial, ⟨lk_385, ⟨trivial, ⟨trivial, ⟨trivial, ⟨lk_385, ⟨trivial, ⟨trivial, ⟨trivial, ⟨trivial, ⟨trivial, ⟨trivial, ⟨trivial, ⟨trivial, ⟨trivial, ⟨trivial, trivial⟩⟩⟩⟩⟩⟩⟩⟩⟩⟩⟩⟩⟩⟩⟩⟩⟩⟩⟩⟩⟩
set_option maxRecDepth 100000 in
set_option maxHeartbeats 4000000 in
theorem n_X12_gapsOf_4 : en_lkC "EvenStepsModel" false [(.iconst 0, 1, 0, 0, [], 0, 0)] := ⟨trivial, trivial⟩
set_option maxRecDepth 100000 in
set_option maxHeartbeats 4000000 in
theorem n_X12_gapsOf_5 : en_lkC "EvenStepsModel" false [(.iadd, 1, 0, 0, [], 0, 0), (.iastore, 1, 0, 0, [], 0, 0), (.aload_n 0, 1, 0, 0, [], 0, 0), (.getfield 66, 3, 25, 2, [(11, 0)], 0, 0), (.iload 5, 2, 5, 0, [], 0, 0), (.iload 6, 2, 6, 0, [], 0, 0), (.iload 5, 2, 5, 0, [], 0, 0), (.isub, 1, 0, 0, [], 0, 0), (.iastore, 1, 0, 0, [], 0, 0), (.iinc 4 1, 3, 4, 0, [], 1, 0), (.goto (-89), 3, 1, 0, [], 0, 0)] := ⟨trivial, ⟨trivial, ⟨trivial, ⟨lk_391, ⟨trivial, ⟨trivial, ⟨trivial, ⟨trivial, ⟨trivial, ⟨trivial, ⟨trivial, trivial⟩⟩⟩⟩⟩⟩⟩⟩⟩⟩⟩
set_option maxRecDepth 100000 in
set_option maxHeartbeats 4000000 in
theorem n_X12_gapsOf_6 : en_lkC "EvenStepsModel" false [(.iconst 0, 1, 0, 0, [], 0, 0), (.istore 4, 2, 4, 0, [], 0, 0)] := ⟨trivial, ⟨trivial, trivial⟩⟩
set_option maxRecDepth 100000 in
set_option maxHeartbeats 4000000 in
theorem n_X12_gapsOf_7 : en_lkC "EvenStepsModel" false [(.iload 4, 2, 4, 0, [], 0, 0), (.iload_n 2, 1, 2, 0, [], 0, 0), (.if_icmp .ge 235, 3, 14, 0, [], 0, 0), (.iconst 0, 1, 0, 0, [], 0, 0), (.istore 5, 2, 5, 0, [], 0, 0)] := ⟨trivial, ⟨trivial, ⟨trivial, ⟨trivial, ⟨trivial, trivial⟩⟩⟩⟩⟩
set_option maxRecDepth 100000 in
set_option maxHeartbeats 4000000 in
theorem n_X12_gapsOf_8 : en_lkC "EvenStepsModel" false [(.iload 5, 2, 5, 0, [], 0, 0), (.aload_n 0, 1, 0, 0, [], 0, 0), (.getfield 192, 3, 30, 0, [(11, 0)], 0, 0), (.if_icmp .ge 45, 3, 9, 0, [], 0, 0), (.aload_n 0, 1, 0, 0, [], 0, 0), (.iload_n 3, 1, 3, 0, [], 0, 0), (.aload_n 0, 1, 0, 0, [], 0, 0), (.getfield 63, 3, 24, 2, [(11, 0)], 0, 0), (.iload 4, 2, 4, 0, [], 0, 0), (.iaload, 1, 0, 0, [], 0, 0), (.aload_n 0, 1, 0, 0, [], 0, 0), (.getfield 66, 3, 25, 2, [(11, 0)], 0, 0), (.iload 4, 2, 4, 0, [], 0, 0), (.iaload, 1, 0, 0, [], 0, 0), (.aload_n 0, 1, 0, 0, [], 0, 0), (.getfield 69, 3, 26, 2, [(11, 0)], 0, 0), (.iload 5, 2, 5, 0, [], 0, 0), (.iaload, 1, 0, 0, [], 0, 0), (.aload_n 0, 1, 0, 0, [], 0, 0), (.getfield 72, 3, 27, 2, [(11, 0)], 0, 0), (.iload 5, 2, 5, 0, [], 0, 0), (.iaload, 1, 0, 0, [], 0, 0), (.invokevirtual 195, 3, 5, 0, [(11, 176)], 0, 0), (.ifCond .ge 9, 3, 9, 0, [], 0, 0), (.iinc 5 1, 3, 5, 0, [], 1, 0), (.goto (-48), 3, 8, 0, [], 0, 0)] := ⟨trivial, ⟨trivial, ⟨lk_392, ⟨trivial, ⟨trivial, ⟨trivial, ⟨trivial, ⟨lk_390, ⟨trivial, ⟨trivial, ⟨trivial, ⟨lk_391, ⟨trivial, ⟨trivial, ⟨trivial, ⟨lk_393, ⟨trivial, ⟨trivial, ⟨trivial, ⟨lk_394, ⟨trivial, ⟨trivial, ⟨lk_395, ⟨trivial, ⟨trivial, ⟨trivial, trivial⟩⟩⟩⟩⟩⟩⟩⟩⟩⟩⟩⟩⟩⟩⟩⟩⟩⟩⟩⟩⟩⟩⟩⟩⟩⟩
set_option maxRecDepth 100000 in
set_option maxHeartbeats 4000000 in
theorem n_X12_gapsOf_9 : en_lkC "EvenStepsModel" false [(.iload 5, 2, 5, 0, [], 0, 0), (.aload_n 0, 1, 0, 0, [], 0, 0), (.getfield 192, 3, 30, 0, [(11, 0)], 0, 0), (.if_icmp .ge 53, 3, 10, 0, [], 0, 0), (.aload_n 0, 1, 0, 0, [], 0, 0), (.iload_n 3, 1, 3, 0, [], 0, 0), (.aload_n 0, 1, 0, 0, [], 0, 0), (.getfield 63, 3, 24, 2, [(11, 0)], 0, 0), (.iload 4, 2, 4, 0, [], 0, 0), (.iaload, 1, 0, 0, [], 0, 0), (.aload_n 0, 1, 0, 0, [], 0, 0), (.getfield 66, 3, 25, 2, [(11, 0)], 0, 0), (.iload 4, 2, 4, 0, [], 0, 0), (.iaload, 1, 0, 0, [], 0, 0), (.aload_n 0, 1, 0, 0, [], 0, 0), (.getfield 69, 3, 26, 2, [(11, 0)], 0, 0), (.iload 5, 2, 5, 0, [], 0, 0), (.iaload, 1, 0, 0, [], 0, 0), (.aload_n 0, 1, 0, 0, [], 0, 0), (.getfield 72, 3, 27, 2, [(11, 0)], 0, 0), (.iload 5, 2, 5, 0, [], 0, 0), (.iaload, 1, 0, 0, [], 0, 0), (.invokevirtual 195, 3, 5, 0, [(11, 176)], 0, 0), (.ifCond .ne 17, 3, 10, 0, [], 0, 0), (.aload_n 0, 1, 0, 0, [], 0, 0), (.getfield 75, 3, 28, 2, [(11, 0)], 0, 0), (.iload 5, 2, 5, 0, [], 0, 0), (.dup2, 1, 0, 0, [], 0, 0), (.iaload, 1, 0, 0, [], 0, 0), (.iconst 1, 1, 0, 0, [], 1, 0), (.iadd, 1, 0, 0, [], 0, 0), (.iastore, 1, 0, 0, [], 0, 0), (.goto 116, 3, 13, 0, [], 0, 0)] := ⟨trivial, ⟨trivial, ⟨lk_392, ⟨trivial, ⟨trivial, ⟨trivial, ⟨trivial, ⟨lk_390, ⟨trivial, ⟨trivial, ⟨trivial, ⟨lk_391, ⟨trivial, ⟨trivial, ⟨trivial, ⟨lk_393, ⟨trivial, ⟨trivial, ⟨trivial, ⟨lk_394, ⟨trivial, ⟨trivial, ⟨lk_395, ⟨trivial, ⟨trivial, ⟨lk_396, ⟨trivial, ⟨trivial, ⟨trivial, ⟨trivial, ⟨trivial, ⟨trivial, ⟨trivial, trivial⟩⟩⟩⟩⟩⟩⟩⟩⟩⟩⟩⟩⟩⟩⟩⟩⟩⟩⟩⟩⟩⟩⟩⟩⟩⟩⟩⟩⟩⟩⟩⟩⟩
set_option maxRecDepth 100000 in
set_option maxHeartbeats 4000000 in
theorem n_X12_gapsOf_10 : en_lkC "EvenStepsModel" false [(.aload_n 0, 1, 0, 0, [], 0, 0), (.getfield 192, 3, 30, 0, [(11, 0)], 0, 0), (.istore 6, 2, 6, 0, [], 0, 0)] := ⟨trivial, ⟨lk_392, ⟨trivial, trivial⟩⟩⟩
set_option maxRecDepth 100000 in
set_option maxHeartbeats 4000000 in
theorem n_X12_gapsOf_11 : en_lkC "EvenStepsModel" false [(.iload 6, 2, 6, 0, [], 0, 0), (.iload 5, 2, 5, 0, [], 0, 0), (.if_icmp .le 57, 3, 12, 0, [], 0, 0), (.aload_n 0, 1, 0, 0, [], 0, 0), (.getfield 69, 3, 26, 2, [(11, 0)], 0, 0), (.iload 6, 2, 6, 0, [], 0, 0), (.aload_n 0, 1, 0, 0, [], 0, 0), (.getfield 69, 3, 26, 2, [(11, 0)], 0, 0), (.iload 6, 2, 6, 0, [], 0, 0), (.iconst 1, 1, 0, 0, [], 1, 0), (.isub, 1, 0, 0, [], 0, 0), (.iaload, 1, 0, 0, [], 0, 0), (.iastore, 1, 0, 0, [], 0, 0), (.aload_n 0, 1, 0, 0, [], 0, 0), (.getfield 72, 3, 27, 2, [(11, 0)], 0, 0), (.iload 6, 2, 6, 0, [], 0, 0), (.aload_n 0, 1, 0, 0, [], 0, 0), (.getfield 72, 3, 27, 2, [(11, 0)], 0, 0), (.iload 6, 2, 6, 0, [], 0, 0), (.iconst 1, 1, 0, 0, [], 1, 0), (.isub, 1, 0, 0, [], 0, 0), (.iaload, 1, 0, 0, [], 0, 0), (.iastore, 1, 0, 0, [], 0, 0), (.aload_n 0, 1, 0, 0, [], 0, 0), (.getfield 75, 3, 28, 2, [(11, 0)], 0, 0), (.iload 6, 2, 6, 0, [], 0, 0), (.aload_n 0, 1, 0, 0, [], 0, 0), (.getfield 75, 3, 28, 2, [(11, 0)], 0, 0), (.iload 6, 2, 6, 0, [], 0, 0), (.iconst 1, 1, 0, 0, [], 1, 0), (.isub, 1, 0, 0, [], 0, 0), (.iaload, 1, 0, 0, [], 0, 0), (.iastore, 1, 0, 0, [], 0, 0), (.iinc 6 (-1), 3, 6, 0, [], (-1), 0), (.goto (-58), 3, 11, 0, [], 0, 0)] := ⟨trivial, ⟨trivial, ⟨trivial, ⟨trivial, ⟨lk_393, ⟨trivial, ⟨trivial, ⟨lk_393, ⟨trivial, ⟨trivial, ⟨trivial, ⟨trivial, ⟨trivial, ⟨trivial, ⟨lk_394, ⟨trivial, ⟨trivial, ⟨lk_394, ⟨trivial, ⟨trivial, ⟨trivial, ⟨trivial, ⟨trivial, ⟨trivial, ⟨lk_396, ⟨trivial, ⟨trivial, ⟨lk_396, ⟨trivial, ⟨trivial, ⟨trivial, ⟨trivial, ⟨trivial, ⟨trivial, ⟨trivial, trivial⟩⟩⟩⟩⟩⟩⟩⟩⟩⟩⟩⟩⟩⟩⟩⟩⟩⟩⟩⟩⟩⟩⟩⟩⟩⟩⟩⟩⟩⟩⟩⟩⟩⟩⟩
set_option maxRecDepth 100000 in
set_option maxHeartbeats 4000000 in
theorem n_X12_gapsOf_12 : en_lkC "EvenStepsModel" false [(.aload_n 0, 1, 0, 0, [], 0, 0), (.getfield 69, 3, 26, 2, [(11, 0)], 0, 0), (.iload 5, 2, 5, 0, [], 0, 0), (.aload_n 0, 1, 0, 0, [], 0, 0), (.getfield 63, 3, 24, 2, [(11, 0)], 0, 0), (.iload 4, 2, 4, 0, [], 0, 0), (.iaload, 1, 0, 0, [], 0, 0), (.iastore, 1, 0, 0, [], 0, 0), (.aload_n 0, 1, 0, 0, [], 0, 0), (.getfield 72, 3, 27, 2, [(11, 0)], 0, 0), (.iload 5, 2, 5, 0, [], 0, 0), (.aload_n 0, 1, 0, 0, [], 0, 0), (.getfield 66, 3, 25, 2, [(11, 0)], 0, 0), (.iload 4, 2, 4, 0, [], 0, 0), (.iaload, 1, 0, 0, [], 0, 0), (.iastore, 1, 0, 0, [], 0, 0), (.aload_n 0, 1, 0, 0, [], 0, 0), (.getfield 75, 3, 28, 2, [(11, 0)], 0, 0), (.iload 5, 2, 5, 0, [], 0, 0), (.iconst 1, 1, 0, 0, [], 1, 0), (.iastore, 1, 0, 0, [], 0, 0), (.aload_n 0, 1, 0, 0, [], 0, 0), (.dup, 1, 0, 0, [], 0, 0), (.getfield 192, 3, 30, 0, [(11, 0)], 0, 0), (.iconst 1, 1, 0, 0, [], 1, 0), (.iadd, 1, 0, 0, [], 0, 0), (.putfield 192, 3, 30, 0, [(11, 0)], 0, 0)] := ⟨trivial, ⟨lk_393, ⟨trivial, ⟨trivial, ⟨lk_390, ⟨trivial, ⟨trivial, ⟨trivial, ⟨trivial, ⟨lk_394, ⟨trivial, ⟨trivial, ⟨lk_391, ⟨trivial, ⟨trivial, ⟨trivial, ⟨trivial, ⟨lk_396, ⟨trivial, ⟨trivial, ⟨trivial, ⟨trivial, ⟨trivial, ⟨lk_392, ⟨trivial, ⟨trivial, ⟨lk_389, trivial⟩⟩⟩⟩⟩⟩⟩⟩⟩⟩⟩⟩⟩⟩⟩⟩⟩⟩⟩⟩⟩⟩⟩⟩⟩⟩⟩
set_option maxRecDepth 100000 in
set_option maxHeartbeats 4000000 in
theorem n_X12_gapsOf_13 : en_lkC "EvenStepsModel" false [(.iinc 4 1, 3, 4, 0, [], 1, 0), (.goto (-235), 3, 7, 0, [], 0, 0)] := ⟨trivial, ⟨trivial, trivial⟩⟩
set_option maxRecDepth 100000 in
set_option maxHeartbeats 4000000 in
theorem n_X12_gapsOf_14 : en_lkC "EvenStepsModel" false [(.return_, 1, 0, 0, [], 0, 0)] := ⟨trivial, trivial⟩
set_option maxRecDepth 100000 in
set_option maxHeartbeats 4000000 in
theorem n_X12_gapsOf : en_lkM (⟨"EvenStepsModel", "gapsOf", "(II)V"⟩, prog_14_method_48_code, 7, none, p_X12_gapsOf) := (List.forall_mem_cons.mpr ⟨n_X12_gapsOf_0, (List.forall_mem_cons.mpr ⟨n_X12_gapsOf_1, (List.forall_mem_cons.mpr ⟨n_X12_gapsOf_2, (List.forall_mem_cons.mpr ⟨n_X12_gapsOf_3, (List.forall_mem_cons.mpr ⟨n_X12_gapsOf_4, (List.forall_mem_cons.mpr ⟨n_X12_gapsOf_5, (List.forall_mem_cons.mpr ⟨n_X12_gapsOf_6, (List.forall_mem_cons.mpr ⟨n_X12_gapsOf_7, (List.forall_mem_cons.mpr ⟨n_X12_gapsOf_8, (List.forall_mem_cons.mpr ⟨n_X12_gapsOf_9, (List.forall_mem_cons.mpr ⟨n_X12_gapsOf_10, (List.forall_mem_cons.mpr ⟨n_X12_gapsOf_11, (List.forall_mem_cons.mpr ⟨n_X12_gapsOf_12, (List.forall_mem_cons.mpr ⟨n_X12_gapsOf_13, (List.forall_mem_cons.mpr ⟨n_X12_gapsOf_14, (fun _ h => absurd h List.not_mem_nil)⟩)⟩)⟩)⟩)⟩)⟩)⟩)⟩)⟩)⟩)⟩)⟩)⟩)⟩)⟩)
set_option maxRecDepth 100000 in
set_option maxHeartbeats 4000000 in
theorem k_X12_gaps : en_ckM (⟨"EvenStepsModel", "gaps", "(II)I"⟩, prog_14_method_49_code, 3, (some .int), p_X12_gaps) = true := by decide +kernel
set_option maxRecDepth 100000 in
set_option maxHeartbeats 4000000 in
theorem n_X12_gaps_0 : en_lkC "EvenStepsModel" false [(.aload_n 0, 1, 0, 0, [], 0, 0), (.iload_n 1, 1, 1, 0, [], 0, 0), (.iload_n 2, 1, 2, 0, [], 0, 0), (.invokevirtual 199, 3, 2, 3, [(11, 173)], 0, 0), (.ifCond .ne 5, 3, 1, 0, [], 0, 0), (.iconst (-1), 1, 0, 0, [], (-1), 0), (.ireturn, 1, 0, 0, [], 0, 0)] := ⟨trivial, ⟨trivial, ⟨trivial, ⟨lk_397, ⟨trivial, ⟨trivial, ⟨trivial, trivial⟩⟩⟩⟩⟩⟩⟩
set_option maxRecDepth 100000 in
set_option maxHeartbeats 4000000 in
theorem n_X12_gaps_1 : en_lkC "EvenStepsModel" false [(.aload_n 0, 1, 0, 0, [], 0, 0), (.iload_n 1, 1, 1, 0, [], 0, 0), (.iload_n 2, 1, 2, 0, [], 0, 0), (.invokevirtual 203, 3, 2, 4, [(11, 177)], 0, 0), (.aload_n 0, 1, 0, 0, [], 0, 0), (.getfield 192, 3, 30, 0, [(11, 0)], 0, 0), (.ireturn, 1, 0, 0, [], 0, 0)] := ⟨trivial, ⟨trivial, ⟨trivial, ⟨lk_398, ⟨trivial, ⟨lk_392, ⟨trivial, trivial⟩⟩⟩⟩⟩⟩⟩
set_option maxRecDepth 100000 in
set_option maxHeartbeats 4000000 in
theorem n_X12_gaps : en_lkM (⟨"EvenStepsModel", "gaps", "(II)I"⟩, prog_14_method_49_code, 3, (some .int), p_X12_gaps) := (List.forall_mem_cons.mpr ⟨n_X12_gaps_0, (List.forall_mem_cons.mpr ⟨n_X12_gaps_1, (fun _ h => absurd h List.not_mem_nil)⟩)⟩)
set_option maxRecDepth 100000 in
set_option maxHeartbeats 4000000 in
theorem k_X12_gap : en_ckM (⟨"EvenStepsModel", "gap", "(IIII)I"⟩, prog_14_method_50_code, 5, (some .int), p_X12_gap) = true := by decide +kernel
set_option maxRecDepth 100000 in
set_option maxHeartbeats 4000000 in
theorem n_X12_gap_0 : en_lkC "EvenStepsModel" false [(.aload_n 0, 1, 0, 0, [], 0, 0), (.iload_n 1, 1, 1, 0, [], 0, 0), (.iload_n 2, 1, 2, 0, [], 0, 0), (.invokevirtual 199, 3, 2, 3, [(11, 173)], 0, 0), (.ifCond .eq 13, 3, 1, 0, [], 0, 0), (.iload 4, 2, 4, 0, [], 0, 0), (.iconst 0, 1, 0, 0, [], 0, 0), (.iconst 2, 1, 0, 0, [], 2, 0), (.invokestatic 99, 3, 3, 3, [(0, 133)], 0, 0), (.ifCond .ne 6, 3, 2, 0, [], 0, 0)] := ⟨trivial, ⟨trivial, ⟨trivial, ⟨lk_397, ⟨trivial, ⟨trivial, ⟨trivial, ⟨trivial, ⟨lk_342, ⟨trivial, trivial⟩⟩⟩⟩⟩⟩⟩⟩⟩⟩
set_option maxRecDepth 100000 in
set_option maxHeartbeats 4000000 in
theorem n_X12_gap_1 : en_lkC "EvenStepsModel" false [(.ldc 123, 2, 0, 0, [], (-1000000), 0), (.ireturn, 1, 0, 0, [], 0, 0)] := ⟨wd_1090, ⟨trivial, trivial⟩⟩
set_option maxRecDepth 100000 in
set_option maxHeartbeats 4000000 in
theorem n_X12_gap_2 : en_lkC "EvenStepsModel" false [(.aload_n 0, 1, 0, 0, [], 0, 0), (.iload_n 1, 1, 1, 0, [], 0, 0), (.iload_n 2, 1, 2, 0, [], 0, 0), (.invokevirtual 203, 3, 2, 4, [(11, 177)], 0, 0), (.iload_n 3, 1, 3, 0, [], 0, 0), (.iconst 0, 1, 0, 0, [], 0, 0), (.aload_n 0, 1, 0, 0, [], 0, 0), (.getfield 192, 3, 30, 0, [(11, 0)], 0, 0), (.iconst 1, 1, 0, 0, [], 1, 0), (.isub, 1, 0, 0, [], 0, 0), (.invokestatic 99, 3, 3, 3, [(0, 133)], 0, 0), (.ifCond .ne 6, 3, 3, 0, [], 0, 0), (.ldc 123, 2, 0, 0, [], (-1000000), 0), (.ireturn, 1, 0, 0, [], 0, 0)] := ⟨trivial, ⟨trivial, ⟨trivial, ⟨lk_398, ⟨trivial, ⟨trivial, ⟨trivial, ⟨lk_392, ⟨trivial, ⟨trivial, ⟨lk_342, ⟨trivial, ⟨wd_1090, ⟨trivial, trivial⟩⟩⟩⟩⟩⟩⟩⟩⟩⟩⟩⟩⟩⟩
set_option maxRecDepth 100000 in
set_option maxHeartbeats 4000000 in
theorem n_X12_gap_3 : en_lkC "EvenStepsModel" false [(.iload 4, 2, 4, 0, [], 0, 0), (.ifCond .ne 12, 3, 4, 0, [], 0, 0), (.aload_n 0, 1, 0, 0, [], 0, 0), (.getfield 75, 3, 28, 2, [(11, 0)], 0, 0), (.iload_n 3, 1, 3, 0, [], 0, 0), (.iaload, 1, 0, 0, [], 0, 0), (.goto 24, 3, 6, 0, [], 0, 0)] := ⟨trivial, ⟨trivial, ⟨trivial, ⟨lk_396, ⟨trivial, ⟨trivial, ⟨trivial, trivial⟩⟩⟩⟩⟩⟩⟩
set_option maxRecDepth 100000 in
set_option maxHeartbeats 4000000 in
theorem n_X12_gap_4 : en_lkC "EvenStepsModel" false [(.iload 4, 2, 4, 0, [], 0, 0), (.iconst 1, 1, 0, 0, [], 1, 0), (.if_icmp .ne 12, 3, 5, 0, [], 0, 0), (.aload_n 0, 1, 0, 0, [], 0, 0), (.getfield 69, 3, 26, 2, [(11, 0)], 0, 0), (.iload_n 3, 1, 3, 0, [], 0, 0), (.iaload, 1, 0, 0, [], 0, 0), (.goto 9, 3, 6, 0, [], 0, 0)] := ⟨trivial, ⟨trivial, ⟨trivial, ⟨trivial, ⟨lk_393, ⟨trivial, ⟨trivial, ⟨trivial, trivial⟩⟩⟩⟩⟩⟩⟩⟩
set_option maxRecDepth 100000 in
set_option maxHeartbeats 4000000 in
theorem n_X12_gap_5 : en_lkC "EvenStepsModel" false [(.aload_n 0, 1, 0, 0, [], 0, 0), (.getfield 72, 3, 27, 2, [(11, 0)], 0, 0), (.iload_n 3, 1, 3, 0, [], 0, 0), (.iaload, 1, 0, 0, [], 0, 0)] := ⟨trivial, ⟨lk_394, ⟨trivial, ⟨trivial, trivial⟩⟩⟩⟩
set_option maxRecDepth 100000 in
set_option maxHeartbeats 4000000 in
theorem n_X12_gap_6 : en_lkC "EvenStepsModel" false [(.ireturn, 1, 0, 0, [], 0, 0)] := ⟨trivial, trivial⟩
set_option maxRecDepth 100000 in
set_option maxHeartbeats 4000000 in
theorem n_X12_gap : en_lkM (⟨"EvenStepsModel", "gap", "(IIII)I"⟩, prog_14_method_50_code, 5, (some .int), p_X12_gap) := (List.forall_mem_cons.mpr ⟨n_X12_gap_0, (List.forall_mem_cons.mpr ⟨n_X12_gap_1, (List.forall_mem_cons.mpr ⟨n_X12_gap_2, (List.forall_mem_cons.mpr ⟨n_X12_gap_3, (List.forall_mem_cons.mpr ⟨n_X12_gap_4, (List.forall_mem_cons.mpr ⟨n_X12_gap_5, (List.forall_mem_cons.mpr ⟨n_X12_gap_6, (fun _ h => absurd h List.not_mem_nil)⟩)⟩)⟩)⟩)⟩)⟩)⟩)
set_option maxRecDepth 100000 in
set_option maxHeartbeats 4000000 in
theorem k_X12_follows : en_ckM (⟨"EvenStepsModel", "follows", "(III)I"⟩, prog_14_method_51_code, 5, (some .int), p_X12_follows) = true := by decide +kernel
set_option maxRecDepth 100000 in
set_option maxHeartbeats 4000000 in
theorem n_X12_follows_0 : en_lkC "EvenStepsModel" false [(.aload_n 0, 1, 0, 0, [], 0, 0), (.iload_n 1, 1, 1, 0, [], 0, 0), (.iload_n 2, 1, 2, 0, [], 0, 0), (.invokevirtual 199, 3, 2, 3, [(11, 173)], 0, 0), (.ifCond .eq 14, 3, 1, 0, [], 0, 0), (.iload_n 3, 1, 3, 0, [], 0, 0), (.iconst 0, 1, 0, 0, [], 0, 0), (.iload_n 2, 1, 2, 0, [], 0, 0), (.iconst 1, 1, 0, 0, [], 1, 0), (.isub, 1, 0, 0, [], 0, 0), (.invokestatic 99, 3, 3, 3, [(0, 133)], 0, 0), (.ifCond .ne 5, 3, 2, 0, [], 0, 0)] := ⟨trivial, ⟨trivial, ⟨trivial, ⟨lk_397, ⟨trivial, ⟨trivial, ⟨trivial, ⟨trivial, ⟨trivial, ⟨trivial, ⟨lk_342, ⟨trivial, trivial⟩⟩⟩⟩⟩⟩⟩⟩⟩⟩⟩⟩
set_option maxRecDepth 100000 in
set_option maxHeartbeats 4000000 in
theorem n_X12_follows_1 : en_lkC "EvenStepsModel" false [(.iconst (-1), 1, 0, 0, [], (-1), 0), (.ireturn, 1, 0, 0, [], 0, 0)] := ⟨trivial, ⟨trivial, trivial⟩⟩
set_option maxRecDepth 100000 in
set_option maxHeartbeats 4000000 in
theorem n_X12_follows_2 : en_lkC "EvenStepsModel" false [(.aload_n 0, 1, 0, 0, [], 0, 0), (.aload_n 0, 1, 0, 0, [], 0, 0), (.getfield 28, 3, 9, 2, [(11, 0)], 0, 0), (.iload_n 1, 1, 1, 0, [], 0, 0), (.iaload, 1, 0, 0, [], 0, 0), (.iload_n 2, 1, 2, 0, [], 0, 0), (.invokevirtual 188, 3, 2, 4, [(11, 174)], 0, 0), (.iconst 0, 1, 0, 0, [], 0, 0), (.istore 4, 2, 4, 0, [], 0, 0)] := ⟨trivial, ⟨trivial, ⟨lk_375, ⟨trivial, ⟨trivial, ⟨trivial, ⟨lk_388, ⟨trivial, ⟨trivial, trivial⟩⟩⟩⟩⟩⟩⟩⟩⟩
set_option maxRecDepth 100000 in
set_option maxHeartbeats 4000000 in
theorem n_X12_follows_3 : en_lkC "EvenStepsModel" false [(.iload 4, 2, 4, 0, [], 0, 0), (.iload_n 2, 1, 2, 0, [], 0, 0), (.if_icmp .ge 42, 3, 7, 0, [], 0, 0), (.aload_n 0, 1, 0, 0, [], 0, 0), (.getfield 57, 3, 22, 2, [(11, 0)], 0, 0), (.iload 4, 2, 4, 0, [], 0, 0), (.iaload, 1, 0, 0, [], 0, 0), (.iload_n 3, 1, 3, 0, [], 0, 0), (.if_icmp .ne 25, 3, 6, 0, [], 0, 0), (.aload_n 0, 1, 0, 0, [], 0, 0), (.getfield 57, 3, 22, 2, [(11, 0)], 0, 0), (.iload 4, 2, 4, 0, [], 0, 0), (.iconst 1, 1, 0, 0, [], 1, 0), (.iadd, 1, 0, 0, [], 0, 0), (.iload_n 2, 1, 2, 0, [], 0, 0), (.if_icmp .ne 7, 3, 4, 0, [], 0, 0), (.iconst 0, 1, 0, 0, [], 0, 0), (.goto 7, 3, 5, 0, [], 0, 0)] := ⟨trivial, ⟨trivial, ⟨trivial, ⟨trivial, ⟨lk_386, ⟨trivial, ⟨trivial, ⟨trivial, ⟨trivial, ⟨trivial, ⟨lk_386, ⟨trivial, ⟨trivial, ⟨trivial, ⟨trivial, ⟨trivial, ⟨trivial, ⟨trivial, trivial⟩⟩⟩⟩⟩⟩⟩⟩⟩⟩⟩⟩⟩⟩⟩⟩⟩⟩
set_option maxRecDepth 100000 in
set_option maxHeartbeats 4000000 in
theorem n_X12_follows_4 : en_lkC "EvenStepsModel" false [(.iload 4, 2, 4, 0, [], 0, 0), (.iconst 1, 1, 0, 0, [], 1, 0), (.iadd, 1, 0, 0, [], 0, 0)] := ⟨trivial, ⟨trivial, ⟨trivial, trivial⟩⟩⟩
set_option maxRecDepth 100000 in
set_option maxHeartbeats 4000000 in
theorem n_X12_follows_5 : en_lkC "EvenStepsModel" false [(.iaload, 1, 0, 0, [], 0, 0), (.ireturn, 1, 0, 0, [], 0, 0)] := ⟨trivial, ⟨trivial, trivial⟩⟩
set_option maxRecDepth 100000 in
set_option maxHeartbeats 4000000 in
theorem n_X12_follows_6 : en_lkC "EvenStepsModel" false [(.iinc 4 1, 3, 4, 0, [], 1, 0), (.goto (-42), 3, 3, 0, [], 0, 0)] := ⟨trivial, ⟨trivial, trivial⟩⟩
set_option maxRecDepth 100000 in
set_option maxHeartbeats 4000000 in
theorem n_X12_follows_7 : en_lkC "EvenStepsModel" false [(.iconst (-1), 1, 0, 0, [], (-1), 0), (.ireturn, 1, 0, 0, [], 0, 0)] := ⟨trivial, ⟨trivial, trivial⟩⟩
set_option maxRecDepth 100000 in
set_option maxHeartbeats 4000000 in
theorem n_X12_follows : en_lkM (⟨"EvenStepsModel", "follows", "(III)I"⟩, prog_14_method_51_code, 5, (some .int), p_X12_follows) := (List.forall_mem_cons.mpr ⟨n_X12_follows_0, (List.forall_mem_cons.mpr ⟨n_X12_follows_1, (List.forall_mem_cons.mpr ⟨n_X12_follows_2, (List.forall_mem_cons.mpr ⟨n_X12_follows_3, (List.forall_mem_cons.mpr ⟨n_X12_follows_4, (List.forall_mem_cons.mpr ⟨n_X12_follows_5, (List.forall_mem_cons.mpr ⟨n_X12_follows_6, (List.forall_mem_cons.mpr ⟨n_X12_follows_7, (fun _ h => absurd h List.not_mem_nil)⟩)⟩)⟩)⟩)⟩)⟩)⟩)⟩)
set_option maxRecDepth 100000 in
set_option maxHeartbeats 4000000 in
theorem k_X12_areOne : en_ckM (⟨"EvenStepsModel", "areOne", "(II)Z"⟩, prog_14_method_52_code, 17, (some .boolean), p_X12_areOne) = true := by decide +kernel
set_option maxRecDepth 100000 in
set_option maxHeartbeats 4000000 in
theorem n_X12_areOne_0 : en_lkC "EvenStepsModel" false [(.aload_n 0, 1, 0, 0, [], 0, 0), (.getfield 13, 3, 4, 2, [(11, 0)], 0, 0), (.iload_n 1, 1, 1, 0, [], 0, 0), (.iaload, 1, 0, 0, [], 0, 0), (.ifCond .eq 12, 3, 1, 0, [], 0, 0), (.aload_n 0, 1, 0, 0, [], 0, 0), (.getfield 13, 3, 4, 2, [(11, 0)], 0, 0), (.iload_n 2, 1, 2, 0, [], 0, 0), (.iaload, 1, 0, 0, [], 0, 0), (.ifCond .ne 5, 3, 2, 0, [], 0, 0)] := ⟨trivial, ⟨lk_337, ⟨trivial, ⟨trivial, ⟨trivial, ⟨trivial, ⟨lk_337, ⟨trivial, ⟨trivial, ⟨trivial, trivial⟩⟩⟩⟩⟩⟩⟩⟩⟩⟩
set_option maxRecDepth 100000 in
set_option maxHeartbeats 4000000 in
theorem n_X12_areOne_1 : en_lkC "EvenStepsModel" false [(.iconst 0, 1, 0, 0, [], 0, 0), (.ireturn, 1, 0, 3, [], 0, 0)] := ⟨trivial, ⟨trivial, trivial⟩⟩
set_option maxRecDepth 100000 in
set_option maxHeartbeats 4000000 in
theorem n_X12_areOne_2 : en_lkC "EvenStepsModel" false [(.aload_n 0, 1, 0, 0, [], 0, 0), (.getfield 7, 3, 3, 2, [(11, 0)], 0, 0), (.iload_n 1, 1, 1, 0, [], 0, 0), (.iaload, 1, 0, 0, [], 0, 0), (.i2l, 1, 0, 0, [], 0, 0), (.lstore_n 3, 1, 3, 0, [], 0, 0), (.aload_n 0, 1, 0, 0, [], 0, 0), (.getfield 13, 3, 4, 2, [(11, 0)], 0, 0), (.iload_n 1, 1, 1, 0, [], 0, 0), (.iaload, 1, 0, 0, [], 0, 0), (.i2l, 1, 0, 0, [], 0, 0), (.lstore 5, 2, 5, 0, [], 0, 0), (.aload_n 0, 1, 0, 0, [], 0, 0), (.getfield 16, 3, 5, 2, [(11, 0)], 0, 0), (.iload_n 1, 1, 1, 0, [], 0, 0), (.iaload, 1, 0, 0, [], 0, 0), (.i2l, 1, 0, 0, [], 0, 0), (.lstore 7, 2, 7, 0, [], 0, 0), (.aload_n 0, 1, 0, 0, [], 0, 0), (.getfield 19, 3, 6, 2, [(11, 0)], 0, 0), (.iload_n 1, 1, 1, 0, [], 0, 0), (.iaload, 1, 0, 0, [], 0, 0), (.i2l, 1, 0, 0, [], 0, 0), (.lstore 9, 2, 9, 0, [], 0, 0), (.lload_n 3, 1, 3, 0, [], 0, 0), (.lload 7, 2, 7, 0, [], 0, 0), (.lsub, 1, 0, 0, [], 0, 0), (.lload_n 3, 1, 3, 0, [], 0, 0), (.lload 7, 2, 7, 0, [], 0, 0), (.lsub, 1, 0, 0, [], 0, 0), (.lmul, 1, 0, 0, [], 0, 0), (.lload 5, 2, 5, 0, [], 0, 0), (.lload 5, 2, 5, 0, [], 0, 0), (.lmul, 1, 0, 0, [], 0, 0), (.lload 9, 2, 9, 0, [], 0, 0), (.lmul, 1, 0, 0, [], 0, 0), (.lsub, 1, 0, 0, [], 0, 0), (.lstore 11, 2, 11, 0, [], 0, 0), (.lload_n 3, 1, 3, 0, [], 0, 0), (.lload_n 3, 1, 3, 0, [], 0, 0), (.lload 7, 2, 7, 0, [], 0, 0), (.lsub, 1, 0, 0, [], 0, 0), (.lmul, 1, 0, 0, [], 0, 0), (.lload 5, 2, 5, 0, [], 0, 0), (.lload 5, 2, 5, 0, [], 0, 0), (.lmul, 1, 0, 0, [], 0, 0), (.lload 9, 2, 9, 0, [], 0, 0), (.lmul, 1, 0, 0, [], 0, 0), (.lsub, 1, 0, 0, [], 0, 0), (.lstore 13, 2, 13, 0, [], 0, 0), (.lload 13, 2, 13, 0, [], 0, 0), (.aload_n 0, 1, 0, 0, [], 0, 0), (.getfield 16, 3, 5, 2, [(11, 0)], 0, 0), (.iload_n 2, 1, 2, 0, [], 0, 0), (.iaload, 1, 0, 0, [], 0, 0), (.i2l, 1, 0, 0, [], 0, 0), (.lmul, 1, 0, 0, [], 0, 0), (.aload_n 0, 1, 0, 0, [], 0, 0), (.getfield 7, 3, 3, 2, [(11, 0)], 0, 0), (.iload_n 2, 1, 2, 0, [], 0, 0), (.iaload, 1, 0, 0, [], 0, 0), (.i2l, 1, 0, 0, [], 0, 0), (.lload 11, 2, 11, 0, [], 0, 0), (.lmul, 1, 0, 0, [], 0, 0), (.lcmp, 1, 0, 0, [], 0, 0), (.ifCond .eq 5, 3, 3, 0, [], 0, 0), (.iconst 0, 1, 0, 0, [], 0, 0), (.ireturn, 1, 0, 3, [], 0, 0)] := ⟨trivial, ⟨lk_335, ⟨trivial, ⟨trivial, ⟨trivial, ⟨trivial, ⟨trivial, ⟨lk_337, ⟨trivial, ⟨trivial, ⟨trivial, ⟨trivial, ⟨trivial, ⟨lk_336, ⟨trivial, ⟨trivial, ⟨trivial, ⟨trivial, ⟨trivial, ⟨lk_338, ⟨trivial, ⟨trivial, ⟨trivial, ⟨trivial, ⟨trivial, ⟨trivial, ⟨trivial, ⟨trivial, ⟨trivial, ⟨trivial, ⟨trivial, ⟨trivial, ⟨trivial, ⟨trivial, ⟨trivial, ⟨trivial, ⟨trivial, ⟨trivial, ⟨trivial, ⟨trivial, ⟨trivial, ⟨trivial, ⟨trivial, ⟨trivial, ⟨trivial, ⟨trivial, ⟨trivial, ⟨trivial, ⟨trivial, ⟨trivial, ⟨trivial, ⟨trivial, ⟨lk_336, ⟨trivial, ⟨trivial, ⟨trivial, ⟨trivial, ⟨trivial, ⟨lk_335, ⟨trivial, ⟨trivial, ⟨trivial, ⟨trivial, ⟨trivial, ⟨trivial, ⟨trivial, ⟨trivial, ⟨trivial, trivial⟩⟩⟩⟩⟩⟩⟩⟩⟩⟩⟩⟩⟩⟩⟩⟩⟩⟩⟩⟩⟩⟩⟩⟩⟩⟩⟩⟩⟩⟩⟩⟩⟩⟩⟩⟩⟩⟩⟩⟩⟩⟩⟩⟩⟩⟩⟩⟩⟩⟩⟩⟩⟩⟩⟩⟩⟩⟩⟩⟩⟩⟩⟩⟩⟩⟩⟩⟩
set_option maxRecDepth 100000 in
set_option maxHeartbeats 4000000 in
theorem n_X12_areOne_3 : en_lkC "EvenStepsModel" false [(.lload 5, 2, 5, 0, [], 0, 0), (.lneg, 1, 0, 0, [], 0, 0), (.lload 7, 2, 7, 0, [], 0, 0), (.lmul, 1, 0, 0, [], 0, 0), (.lstore 15, 2, 15, 0, [], 0, 0), (.lload 15, 2, 15, 0, [], 0, 0), (.lconst 0, 1, 0, 0, [], 0, 0), (.lcmp, 1, 0, 0, [], 0, 0), (.ifCond .le 7, 3, 4, 0, [], 0, 0), (.iconst 1, 1, 0, 0, [], 1, 0), (.goto 4, 3, 5, 0, [], 0, 0)] := ⟨trivial, ⟨trivial, ⟨trivial, ⟨trivial, ⟨trivial, ⟨trivial, ⟨trivial, ⟨trivial, ⟨trivial, ⟨trivial, ⟨trivial, trivial⟩⟩⟩⟩⟩⟩⟩⟩⟩⟩⟩
set_option maxRecDepth 100000 in
set_option maxHeartbeats 4000000 in
theorem n_X12_areOne_4 : en_lkC "EvenStepsModel" false [(.iconst 0, 1, 0, 0, [], 0, 0)] := ⟨trivial, trivial⟩
set_option maxRecDepth 100000 in
set_option maxHeartbeats 4000000 in
theorem n_X12_areOne_5 : en_lkC "EvenStepsModel" false [(.lload 11, 2, 11, 0, [], 0, 0), (.lconst 0, 1, 0, 0, [], 0, 0), (.lcmp, 1, 0, 0, [], 0, 0), (.ifCond .le 7, 3, 6, 0, [], 0, 0), (.iconst 1, 1, 0, 0, [], 1, 0), (.goto 4, 3, 7, 0, [], 0, 0)] := ⟨trivial, ⟨trivial, ⟨trivial, ⟨trivial, ⟨trivial, ⟨trivial, trivial⟩⟩⟩⟩⟩⟩
set_option maxRecDepth 100000 in
set_option maxHeartbeats 4000000 in
theorem n_X12_areOne_6 : en_lkC "EvenStepsModel" false [(.iconst 0, 1, 0, 0, [], 0, 0)] := ⟨trivial, trivial⟩
set_option maxRecDepth 100000 in
set_option maxHeartbeats 4000000 in
theorem n_X12_areOne_7 : en_lkC "EvenStepsModel" false [(.if_icmp .ne 7, 3, 8, 0, [], 0, 0), (.iconst 1, 1, 0, 0, [], 1, 0), (.goto 4, 3, 9, 0, [], 0, 0)] := ⟨trivial, ⟨trivial, ⟨trivial, trivial⟩⟩⟩
set_option maxRecDepth 100000 in
set_option maxHeartbeats 4000000 in
theorem n_X12_areOne_8 : en_lkC "EvenStepsModel" false [(.iconst 0, 1, 0, 0, [], 0, 0)] := ⟨trivial, trivial⟩
set_option maxRecDepth 100000 in
set_option maxHeartbeats 4000000 in
theorem n_X12_areOne_9 : en_lkC "EvenStepsModel" false [(.aload_n 0, 1, 0, 0, [], 0, 0), (.getfield 13, 3, 4, 2, [(11, 0)], 0, 0), (.iload_n 2, 1, 2, 0, [], 0, 0), (.iaload, 1, 0, 0, [], 0, 0), (.ifCond .le 7, 3, 10, 0, [], 0, 0), (.iconst 1, 1, 0, 0, [], 1, 0), (.goto 4, 3, 11, 0, [], 0, 0)] := ⟨trivial, ⟨lk_337, ⟨trivial, ⟨trivial, ⟨trivial, ⟨trivial, ⟨trivial, trivial⟩⟩⟩⟩⟩⟩⟩
set_option maxRecDepth 100000 in
set_option maxHeartbeats 4000000 in
theorem n_X12_areOne_10 : en_lkC "EvenStepsModel" false [(.iconst 0, 1, 0, 0, [], 0, 0)] := ⟨trivial, trivial⟩
set_option maxRecDepth 100000 in
set_option maxHeartbeats 4000000 in
theorem n_X12_areOne_11 : en_lkC "EvenStepsModel" false [(.if_icmp .eq 5, 3, 12, 0, [], 0, 0), (.iconst 0, 1, 0, 0, [], 0, 0), (.ireturn, 1, 0, 3, [], 0, 0)] := ⟨trivial, ⟨trivial, ⟨trivial, trivial⟩⟩⟩
set_option maxRecDepth 100000 in
set_option maxHeartbeats 4000000 in
theorem n_X12_areOne_12 : en_lkC "EvenStepsModel" false [(.lload 15, 2, 15, 0, [], 0, 0), (.lload 15, 2, 15, 0, [], 0, 0), (.lmul, 1, 0, 0, [], 0, 0), (.lload 9, 2, 9, 0, [], 0, 0), (.lmul, 1, 0, 0, [], 0, 0), (.aload_n 0, 1, 0, 0, [], 0, 0), (.getfield 16, 3, 5, 2, [(11, 0)], 0, 0), (.iload_n 2, 1, 2, 0, [], 0, 0), (.iaload, 1, 0, 0, [], 0, 0), (.i2l, 1, 0, 0, [], 0, 0), (.lmul, 1, 0, 0, [], 0, 0), (.aload_n 0, 1, 0, 0, [], 0, 0), (.getfield 16, 3, 5, 2, [(11, 0)], 0, 0), (.iload_n 2, 1, 2, 0, [], 0, 0), (.iaload, 1, 0, 0, [], 0, 0), (.i2l, 1, 0, 0, [], 0, 0), (.lmul, 1, 0, 0, [], 0, 0), (.aload_n 0, 1, 0, 0, [], 0, 0), (.getfield 13, 3, 4, 2, [(11, 0)], 0, 0), (.iload_n 2, 1, 2, 0, [], 0, 0), (.iaload, 1, 0, 0, [], 0, 0), (.i2l, 1, 0, 0, [], 0, 0), (.aload_n 0, 1, 0, 0, [], 0, 0), (.getfield 13, 3, 4, 2, [(11, 0)], 0, 0), (.iload_n 2, 1, 2, 0, [], 0, 0), (.iaload, 1, 0, 0, [], 0, 0), (.i2l, 1, 0, 0, [], 0, 0), (.lmul, 1, 0, 0, [], 0, 0), (.aload_n 0, 1, 0, 0, [], 0, 0), (.getfield 19, 3, 6, 2, [(11, 0)], 0, 0), (.iload_n 2, 1, 2, 0, [], 0, 0), (.iaload, 1, 0, 0, [], 0, 0), (.i2l, 1, 0, 0, [], 0, 0), (.lmul, 1, 0, 0, [], 0, 0), (.lload 11, 2, 11, 0, [], 0, 0), (.lmul, 1, 0, 0, [], 0, 0), (.lload 11, 2, 11, 0, [], 0, 0), (.lmul, 1, 0, 0, [], 0, 0), (.lcmp, 1, 0, 0, [], 0, 0), (.ifCond .ne 7, 3, 13, 0, [], 0, 0), (.iconst 1, 1, 0, 0, [], 1, 0), (.goto 4, 3, 14, 0, [], 0, 0)] := ⟨trivial, ⟨trivial, ⟨trivial, ⟨trivial, ⟨trivial, ⟨trivial, ⟨lk_336, ⟨trivial, ⟨trivial, ⟨trivial, ⟨trivial, ⟨trivial, ⟨lk_336, ⟨trivial, ⟨trivial, ⟨trivial, ⟨trivial, ⟨trivial, ⟨lk_337, ⟨trivial, ⟨trivial, ⟨trivial, ⟨trivial, ⟨lk_337, ⟨trivial, ⟨trivial, ⟨trivial, ⟨trivial, ⟨trivial, ⟨lk_338, ⟨trivial, ⟨trivial, ⟨trivial, ⟨trivial, ⟨trivial, ⟨trivial, ⟨trivial, ⟨trivial, ⟨trivial, ⟨trivial, ⟨trivial, ⟨trivial, trivial⟩⟩⟩⟩⟩⟩⟩⟩⟩⟩⟩⟩⟩⟩⟩⟩⟩⟩⟩⟩⟩⟩⟩⟩⟩⟩⟩⟩⟩⟩⟩⟩⟩⟩⟩⟩⟩⟩⟩⟩⟩⟩
set_option maxRecDepth 100000 in
set_option maxHeartbeats 4000000 in
theorem n_X12_areOne_13 : en_lkC "EvenStepsModel" false [(.iconst 0, 1, 0, 0, [], 0, 0)] := ⟨trivial, trivial⟩
set_option maxRecDepth 100000 in
set_option maxHeartbeats 4000000 in
theorem n_X12_areOne_14 : en_lkC "EvenStepsModel" false [(.ireturn, 1, 0, 3, [], 0, 0)] := ⟨trivial, trivial⟩
set_option maxRecDepth 100000 in
set_option maxHeartbeats 4000000 in
theorem n_X12_areOne : en_lkM (⟨"EvenStepsModel", "areOne", "(II)Z"⟩, prog_14_method_52_code, 17, (some .boolean), p_X12_areOne) := (List.forall_mem_cons.mpr ⟨n_X12_areOne_0, (List.forall_mem_cons.mpr ⟨n_X12_areOne_1, (List.forall_mem_cons.mpr ⟨n_X12_areOne_2, (List.forall_mem_cons.mpr ⟨n_X12_areOne_3, (List.forall_mem_cons.mpr ⟨n_X12_areOne_4, (List.forall_mem_cons.mpr ⟨n_X12_areOne_5, (List.forall_mem_cons.mpr ⟨n_X12_areOne_6, (List.forall_mem_cons.mpr ⟨n_X12_areOne_7, (List.forall_mem_cons.mpr ⟨n_X12_areOne_8, (List.forall_mem_cons.mpr ⟨n_X12_areOne_9, (List.forall_mem_cons.mpr ⟨n_X12_areOne_10, (List.forall_mem_cons.mpr ⟨n_X12_areOne_11, (List.forall_mem_cons.mpr ⟨n_X12_areOne_12, (List.forall_mem_cons.mpr ⟨n_X12_areOne_13, (List.forall_mem_cons.mpr ⟨n_X12_areOne_14, (fun _ h => absurd h List.not_mem_nil)⟩)⟩)⟩)⟩)⟩)⟩)⟩)⟩)⟩)⟩)⟩)⟩)⟩)⟩)⟩)
set_option maxRecDepth 100000 in
set_option maxHeartbeats 4000000 in
theorem k_X12_share : en_ckM (⟨"EvenStepsModel", "share", "(II)I"⟩, prog_14_method_53_code, 7, (some .int), p_X12_share) = true := by decide +kernel
set_option maxRecDepth 100000 in
set_option maxHeartbeats 4000000 in
theorem n_X12_share_0 : en_lkC "EvenStepsModel" false [(.aload_n 0, 1, 0, 0, [], 0, 0), (.iload_n 1, 1, 1, 0, [], 0, 0), (.invokevirtual 114, 3, 1, 3, [(11, 137)], 0, 0), (.ifCond .eq 11, 3, 1, 0, [], 0, 0), (.aload_n 0, 1, 0, 0, [], 0, 0), (.iload_n 2, 1, 2, 0, [], 0, 0), (.invokevirtual 114, 3, 1, 3, [(11, 137)], 0, 0), (.ifCond .ne 5, 3, 2, 0, [], 0, 0)] := ⟨trivial, ⟨trivial, ⟨lk_347, ⟨trivial, ⟨trivial, ⟨trivial, ⟨lk_347, ⟨trivial, trivial⟩⟩⟩⟩⟩⟩⟩⟩
set_option maxRecDepth 100000 in
set_option maxHeartbeats 4000000 in
theorem n_X12_share_1 : en_lkC "EvenStepsModel" false [(.iconst (-1), 1, 0, 0, [], (-1), 0), (.ireturn, 1, 0, 0, [], 0, 0)] := ⟨trivial, ⟨trivial, trivial⟩⟩
set_option maxRecDepth 100000 in
set_option maxHeartbeats 4000000 in
theorem n_X12_share_2 : en_lkC "EvenStepsModel" false [(.aload_n 0, 1, 0, 0, [], 0, 0), (.iload_n 1, 1, 1, 0, [], 0, 0), (.iload_n 2, 1, 2, 0, [], 0, 0), (.invokevirtual 206, 3, 2, 3, [(11, 181)], 0, 0), (.ifCond .eq 5, 3, 3, 0, [], 0, 0), (.iconst 0, 1, 0, 0, [], 0, 0), (.ireturn, 1, 0, 0, [], 0, 0)] := ⟨trivial, ⟨trivial, ⟨trivial, ⟨lk_399, ⟨trivial, ⟨trivial, ⟨trivial, trivial⟩⟩⟩⟩⟩⟩⟩
set_option maxRecDepth 100000 in
set_option maxHeartbeats 4000000 in
theorem n_X12_share_3 : en_lkC "EvenStepsModel" false [(.aload_n 0, 1, 0, 0, [], 0, 0), (.iload_n 1, 1, 1, 0, [], 0, 0), (.lconst 1, 1, 0, 0, [], 0, 1), (.lconst 1, 1, 0, 0, [], 0, 1), (.ldc2_w 124, 3, 0, 0, [], 0, 2), (.invokevirtual 92, 3, 4, 0, [(11, 135)], 0, 0), (.ifCond .le 16, 3, 4, 0, [], 0, 0), (.aload_n 0, 1, 0, 0, [], 0, 0), (.iload_n 2, 1, 2, 0, [], 0, 0), (.lconst 1, 1, 0, 0, [], 0, 1), (.lconst 1, 1, 0, 0, [], 0, 1), (.ldc2_w 124, 3, 0, 0, [], 0, 2), (.invokevirtual 92, 3, 4, 0, [(11, 135)], 0, 0), (.ifCond .gt 5, 3, 5, 0, [], 0, 0)] := ⟨trivial, ⟨trivial, ⟨trivial, ⟨trivial, ⟨wd_1102, ⟨lk_340, ⟨trivial, ⟨trivial, ⟨trivial, ⟨trivial, ⟨trivial, ⟨wd_1102, ⟨lk_340, ⟨trivial, trivial⟩⟩⟩⟩⟩⟩⟩⟩⟩⟩⟩⟩⟩⟩
set_option maxRecDepth 100000 in
set_option maxHeartbeats 4000000 in
theorem n_X12_share_4 : en_lkC "EvenStepsModel" false [(.iconst 1, 1, 0, 0, [], 1, 0), (.ireturn, 1, 0, 0, [], 0, 0)] := ⟨trivial, ⟨trivial, trivial⟩⟩
set_option maxRecDepth 100000 in
set_option maxHeartbeats 4000000 in
theorem n_X12_share_5 : en_lkC "EvenStepsModel" false [(.iconst 1, 1, 0, 0, [], 1, 0), (.istore_n 3, 1, 3, 0, [], 0, 0), (.iconst 1, 1, 0, 0, [], 1, 0), (.istore 4, 2, 4, 0, [], 0, 0)] := ⟨trivial, ⟨trivial, ⟨trivial, ⟨trivial, trivial⟩⟩⟩⟩
set_option maxRecDepth 100000 in
set_option maxHeartbeats 4000000 in
theorem n_X12_share_6 : en_lkC "EvenStepsModel" false [(.aload_n 0, 1, 0, 0, [], 0, 0), (.iload_n 1, 1, 1, 0, [], 0, 0), (.iload_n 3, 1, 3, 0, [], 0, 0), (.invokevirtual 118, 3, 2, 0, [(11, 136)], 0, 0), (.iconst 1, 1, 0, 0, [], 1, 0), (.if_icmp .ge 9, 3, 7, 0, [], 0, 0), (.iinc 3 1, 3, 3, 0, [], 1, 0), (.goto (-13), 3, 6, 0, [], 0, 0)] := ⟨trivial, ⟨trivial, ⟨trivial, ⟨lk_349, ⟨trivial, ⟨trivial, ⟨trivial, ⟨trivial, trivial⟩⟩⟩⟩⟩⟩⟩⟩
set_option maxRecDepth 100000 in
set_option maxHeartbeats 4000000 in
theorem n_X12_share_7 : en_lkC "EvenStepsModel" false [(.aload_n 0, 1, 0, 0, [], 0, 0), (.iload_n 2, 1, 2, 0, [], 0, 0), (.iload 4, 2, 4, 0, [], 0, 0), (.invokevirtual 118, 3, 2, 0, [(11, 136)], 0, 0), (.iconst 1, 1, 0, 0, [], 1, 0), (.if_icmp .ge 9, 3, 8, 0, [], 0, 0), (.iinc 4 1, 3, 4, 0, [], 1, 0), (.goto (-14), 3, 7, 0, [], 0, 0)] := ⟨trivial, ⟨trivial, ⟨trivial, ⟨lk_349, ⟨trivial, ⟨trivial, ⟨trivial, ⟨trivial, trivial⟩⟩⟩⟩⟩⟩⟩⟩
set_option maxRecDepth 100000 in
set_option maxHeartbeats 4000000 in
theorem n_X12_share_8 : en_lkC "EvenStepsModel" false [(.iconst 1, 1, 0, 0, [], 1, 0), (.istore 5, 2, 5, 0, [], 0, 0)] := ⟨trivial, ⟨trivial, trivial⟩⟩
set_option maxRecDepth 100000 in
set_option maxHeartbeats 4000000 in
theorem n_X12_share_9 : en_lkC "EvenStepsModel" false [(.iload 5, 2, 5, 0, [], 0, 0), (.sipush 5000, 3, 0, 0, [], 5000, 0), (.if_icmp .gt 62, 3, 14, 0, [], 0, 0), (.iconst 0, 1, 0, 0, [], 0, 0), (.istore 6, 2, 6, 0, [], 0, 0)] := ⟨trivial, ⟨trivial, ⟨trivial, ⟨trivial, ⟨trivial, trivial⟩⟩⟩⟩⟩
set_option maxRecDepth 100000 in
set_option maxHeartbeats 4000000 in
theorem n_X12_share_10 : en_lkC "EvenStepsModel" false [(.aload_n 0, 1, 0, 0, [], 0, 0), (.iload_n 1, 1, 1, 0, [], 0, 0), (.iload_n 3, 1, 3, 0, [], 0, 0), (.invokevirtual 118, 3, 2, 0, [(11, 136)], 0, 0), (.iload 5, 2, 5, 0, [], 0, 0), (.if_icmp .ne 12, 3, 11, 0, [], 0, 0), (.iinc 6 1, 3, 6, 0, [], 1, 0), (.iinc 3 1, 3, 3, 0, [], 1, 0), (.goto (-17), 3, 10, 0, [], 0, 0)] := ⟨trivial, ⟨trivial, ⟨trivial, ⟨lk_349, ⟨trivial, ⟨trivial, ⟨trivial, ⟨trivial, ⟨trivial, trivial⟩⟩⟩⟩⟩⟩⟩⟩⟩
set_option maxRecDepth 100000 in
set_option maxHeartbeats 4000000 in
theorem n_X12_share_11 : en_lkC "EvenStepsModel" false [(.aload_n 0, 1, 0, 0, [], 0, 0), (.iload_n 2, 1, 2, 0, [], 0, 0), (.iload 4, 2, 4, 0, [], 0, 0), (.invokevirtual 118, 3, 2, 0, [(11, 136)], 0, 0), (.iload 5, 2, 5, 0, [], 0, 0), (.if_icmp .ne 12, 3, 12, 0, [], 0, 0), (.iinc 6 1, 3, 6, 0, [], 1, 0), (.iinc 4 1, 3, 4, 0, [], 1, 0), (.goto (-18), 3, 11, 0, [], 0, 0)] := ⟨trivial, ⟨trivial, ⟨trivial, ⟨lk_349, ⟨trivial, ⟨trivial, ⟨trivial, ⟨trivial, ⟨trivial, trivial⟩⟩⟩⟩⟩⟩⟩⟩⟩
set_option maxRecDepth 100000 in
set_option maxHeartbeats 4000000 in
theorem n_X12_share_12 : en_lkC "EvenStepsModel" false [(.iload 6, 2, 6, 0, [], 0, 0), (.iconst 1, 1, 0, 0, [], 1, 0), (.if_icmp .eq 6, 3, 13, 0, [], 0, 0), (.iload 5, 2, 5, 0, [], 0, 0), (.ireturn, 1, 0, 0, [], 0, 0)] := ⟨trivial, ⟨trivial, ⟨trivial, ⟨trivial, ⟨trivial, trivial⟩⟩⟩⟩⟩
set_option maxRecDepth 100000 in
set_option maxHeartbeats 4000000 in
theorem n_X12_share_13 : en_lkC "EvenStepsModel" false [(.iinc 5 1, 3, 5, 0, [], 1, 0), (.goto (-64), 3, 9, 0, [], 0, 0)] := ⟨trivial, ⟨trivial, trivial⟩⟩
set_option maxRecDepth 100000 in
set_option maxHeartbeats 4000000 in
theorem n_X12_share_14 : en_lkC "EvenStepsModel" false [(.bipush (-2), 2, 0, 0, [], (-2), 0), (.ireturn, 1, 0, 0, [], 0, 0)] := ⟨trivial, ⟨trivial, trivial⟩⟩
set_option maxRecDepth 100000 in
set_option maxHeartbeats 4000000 in
theorem n_X12_share : en_lkM (⟨"EvenStepsModel", "share", "(II)I"⟩, prog_14_method_53_code, 7, (some .int), p_X12_share) := (List.forall_mem_cons.mpr ⟨n_X12_share_0, (List.forall_mem_cons.mpr ⟨n_X12_share_1, (List.forall_mem_cons.mpr ⟨n_X12_share_2, (List.forall_mem_cons.mpr ⟨n_X12_share_3, (List.forall_mem_cons.mpr ⟨n_X12_share_4, (List.forall_mem_cons.mpr ⟨n_X12_share_5, (List.forall_mem_cons.mpr ⟨n_X12_share_6, (List.forall_mem_cons.mpr ⟨n_X12_share_7, (List.forall_mem_cons.mpr ⟨n_X12_share_8, (List.forall_mem_cons.mpr ⟨n_X12_share_9, (List.forall_mem_cons.mpr ⟨n_X12_share_10, (List.forall_mem_cons.mpr ⟨n_X12_share_11, (List.forall_mem_cons.mpr ⟨n_X12_share_12, (List.forall_mem_cons.mpr ⟨n_X12_share_13, (List.forall_mem_cons.mpr ⟨n_X12_share_14, (fun _ h => absurd h List.not_mem_nil)⟩)⟩)⟩)⟩)⟩)⟩)⟩)⟩)⟩)⟩)⟩)⟩)⟩)⟩)⟩)
set_option maxRecDepth 100000 in
set_option maxHeartbeats 4000000 in
theorem k_X12_spread : en_ckM (⟨"EvenStepsModel", "spread", "(II)J"⟩, prog_14_method_54_code, 15, (some .long), p_X12_spread) = true := by decide +kernel
set_option maxRecDepth 100000 in
set_option maxHeartbeats 4000000 in
theorem n_X12_spread_0 : en_lkC "EvenStepsModel" false [(.iload_n 2, 1, 2, 0, [], 0, 0), (.iconst 1, 1, 0, 0, [], 1, 0), (.bipush 40, 2, 0, 0, [], 40, 0), (.invokestatic 99, 3, 3, 3, [(0, 133)], 0, 0), (.ifCond .eq 12, 3, 1, 0, [], 0, 0), (.iload_n 1, 1, 1, 0, [], 0, 0), (.iconst 0, 1, 0, 0, [], 0, 0), (.iload_n 2, 1, 2, 0, [], 0, 0), (.invokestatic 99, 3, 3, 3, [(0, 133)], 0, 0), (.ifCond .ne 7, 3, 2, 0, [], 0, 0)] := ⟨trivial, ⟨trivial, ⟨trivial, ⟨lk_342, ⟨trivial, ⟨trivial, ⟨trivial, ⟨trivial, ⟨lk_342, ⟨trivial, trivial⟩⟩⟩⟩⟩⟩⟩⟩⟩⟩
set_option maxRecDepth 100000 in
set_option maxHeartbeats 4000000 in
theorem n_X12_spread_1 : en_lkC "EvenStepsModel" false [(.ldc2_w 209, 3, 0, 0, [], 0, (-1)), (.lreturn, 1, 0, 0, [], 0, 0)] := ⟨wd_1259, ⟨trivial, trivial⟩⟩
set_option maxRecDepth 100000 in
set_option maxHeartbeats 4000000 in
theorem n_X12_spread_2 : en_lkC "EvenStepsModel" false [(.lconst 1, 1, 0, 0, [], 0, 1), (.lstore_n 3, 1, 3, 0, [], 0, 0), (.lconst 0, 1, 0, 0, [], 0, 0), (.lstore 5, 2, 5, 0, [], 0, 0), (.iconst 1, 1, 0, 0, [], 1, 0), (.istore 7, 2, 7, 0, [], 0, 0), (.iconst 1, 1, 0, 0, [], 1, 0), (.istore 8, 2, 8, 0, [], 0, 0), (.iload_n 1, 1, 1, 0, [], 0, 0), (.istore 9, 2, 9, 0, [], 0, 0), (.iload_n 2, 1, 2, 0, [], 0, 0), (.iload_n 1, 1, 1, 0, [], 0, 0), (.isub, 1, 0, 0, [], 0, 0), (.istore 10, 2, 10, 0, [], 0, 0)] := ⟨trivial, ⟨trivial, ⟨trivial, ⟨trivial, ⟨trivial, ⟨trivial, ⟨trivial, ⟨trivial, ⟨trivial, ⟨trivial, ⟨trivial, ⟨trivial, ⟨trivial, ⟨trivial, trivial⟩⟩⟩⟩⟩⟩⟩⟩⟩⟩⟩⟩⟩⟩
set_option maxRecDepth 100000 in
set_option maxHeartbeats 4000000 in
theorem n_X12_spread_3 : en_lkC "EvenStepsModel" false [(.iload 9, 2, 9, 0, [], 0, 0), (.ifCond .le 86, 3, 8, 0, [], 0, 0), (.iload 10, 2, 10, 0, [], 0, 0), (.iconst 2, 1, 0, 0, [], 2, 0), (.if_icmp .lt 80, 3, 8, 0, [], 0, 0), (.iload 9, 2, 9, 0, [], 0, 0), (.iload 10, 2, 10, 0, [], 0, 0), (.if_icmp .ge 8, 3, 4, 0, [], 0, 0), (.iload 9, 2, 9, 0, [], 0, 0), (.goto 5, 3, 5, 0, [], 0, 0)] := ⟨trivial, ⟨trivial, ⟨trivial, ⟨trivial, ⟨trivial, ⟨trivial, ⟨trivial, ⟨trivial, ⟨trivial, ⟨trivial, trivial⟩⟩⟩⟩⟩⟩⟩⟩⟩⟩
set_option maxRecDepth 100000 in
set_option maxHeartbeats 4000000 in
theorem n_X12_spread_4 : en_lkC "EvenStepsModel" false [(.iload 10, 2, 10, 0, [], 0, 0)] := ⟨trivial, trivial⟩
set_option maxRecDepth 100000 in
set_option maxHeartbeats 4000000 in
theorem n_X12_spread_5 : en_lkC "EvenStepsModel" false [(.istore 11, 2, 11, 0, [], 0, 0), (.lload_n 3, 1, 3, 0, [], 0, 0), (.lload 5, 2, 5, 0, [], 0, 0), (.iload 7, 2, 7, 0, [], 0, 0), (.lshl, 1, 0, 0, [], 0, 0), (.lor, 1, 0, 0, [], 0, 0), (.lstore 12, 2, 12, 0, [], 0, 0), (.iload 7, 2, 7, 0, [], 0, 0), (.iload 8, 2, 8, 0, [], 0, 0), (.iadd, 1, 0, 0, [], 0, 0), (.istore 14, 2, 14, 0, [], 0, 0), (.iload 9, 2, 9, 0, [], 0, 0), (.iload 10, 2, 10, 0, [], 0, 0), (.if_icmp .le 20, 3, 6, 0, [], 0, 0), (.lload_n 3, 1, 3, 0, [], 0, 0), (.lstore 5, 2, 5, 0, [], 0, 0), (.iload 7, 2, 7, 0, [], 0, 0), (.istore 8, 2, 8, 0, [], 0, 0), (.iload 9, 2, 9, 0, [], 0, 0), (.iload 11, 2, 11, 0, [], 0, 0), (.isub, 1, 0, 0, [], 0, 0), (.istore 10, 2, 10, 0, [], 0, 0), (.goto 10, 3, 7, 0, [], 0, 0)] := ⟨trivial, ⟨trivial, ⟨trivial, ⟨trivial, ⟨trivial, ⟨trivial, ⟨trivial, ⟨trivial, ⟨trivial, ⟨trivial, ⟨trivial, ⟨trivial, ⟨trivial, ⟨trivial, ⟨trivial, ⟨trivial, ⟨trivial, ⟨trivial, ⟨trivial, ⟨trivial, ⟨trivial, ⟨trivial, ⟨trivial, trivial⟩⟩⟩⟩⟩⟩⟩⟩⟩⟩⟩⟩⟩⟩⟩⟩⟩⟩⟩⟩⟩⟩⟩
set_option maxRecDepth 100000 in
set_option maxHeartbeats 4000000 in
theorem n_X12_spread_6 : en_lkC "EvenStepsModel" false [(.iload 10, 2, 10, 0, [], 0, 0), (.iload 11, 2, 11, 0, [], 0, 0), (.isub, 1, 0, 0, [], 0, 0), (.istore 10, 2, 10, 0, [], 0, 0)] := ⟨trivial, ⟨trivial, ⟨trivial, ⟨trivial, trivial⟩⟩⟩⟩
set_option maxRecDepth 100000 in
set_option maxHeartbeats 4000000 in
theorem n_X12_spread_7 : en_lkC "EvenStepsModel" false [(.lload 12, 2, 12, 0, [], 0, 0), (.lstore_n 3, 1, 3, 0, [], 0, 0), (.iload 14, 2, 14, 0, [], 0, 0), (.istore 7, 2, 7, 0, [], 0, 0), (.iload 11, 2, 11, 0, [], 0, 0), (.istore 9, 2, 9, 0, [], 0, 0), (.goto (-85), 3, 3, 0, [], 0, 0)] := ⟨trivial, ⟨trivial, ⟨trivial, ⟨trivial, ⟨trivial, ⟨trivial, ⟨trivial, trivial⟩⟩⟩⟩⟩⟩⟩
set_option maxRecDepth 100000 in
set_option maxHeartbeats 4000000 in
theorem n_X12_spread_8 : en_lkC "EvenStepsModel" false [(.lconst 0, 1, 0, 0, [], 0, 0), (.lstore 11, 2, 11, 0, [], 0, 0), (.iconst 0, 1, 0, 0, [], 0, 0), (.istore 13, 2, 13, 0, [], 0, 0), (.iconst 0, 1, 0, 0, [], 0, 0), (.istore 14, 2, 14, 0, [], 0, 0)] := ⟨trivial, ⟨trivial, ⟨trivial, ⟨trivial, ⟨trivial, ⟨trivial, trivial⟩⟩⟩⟩⟩⟩
set_option maxRecDepth 100000 in
set_option maxHeartbeats 4000000 in
theorem n_X12_spread_9 : en_lkC "EvenStepsModel" false [(.iload 14, 2, 14, 0, [], 0, 0), (.iload 9, 2, 9, 0, [], 0, 0), (.if_icmp .ge 25, 3, 10, 0, [], 0, 0), (.lload 11, 2, 11, 0, [], 0, 0), (.lload_n 3, 1, 3, 0, [], 0, 0), (.iload 13, 2, 13, 0, [], 0, 0), (.lshl, 1, 0, 0, [], 0, 0), (.lor, 1, 0, 0, [], 0, 0), (.lstore 11, 2, 11, 0, [], 0, 0), (.iload 13, 2, 13, 0, [], 0, 0), (.iload 7, 2, 7, 0, [], 0, 0), (.iadd, 1, 0, 0, [], 0, 0), (.istore 13, 2, 13, 0, [], 0, 0), (.iinc 14 1, 3, 14, 0, [], 1, 0), (.goto (-26), 3, 9, 0, [], 0, 0)] := ⟨trivial, ⟨trivial, ⟨trivial, ⟨trivial, ⟨trivial, ⟨trivial, ⟨trivial, ⟨trivial, ⟨trivial, ⟨trivial, ⟨trivial, ⟨trivial, ⟨trivial, ⟨trivial, ⟨trivial, trivial⟩⟩⟩⟩⟩⟩⟩⟩⟩⟩⟩⟩⟩⟩⟩
set_option maxRecDepth 100000 in
set_option maxHeartbeats 4000000 in
theorem n_X12_spread_10 : en_lkC "EvenStepsModel" false [(.iconst 0, 1, 0, 0, [], 0, 0), (.istore 14, 2, 14, 0, [], 0, 0)] := ⟨trivial, ⟨trivial, trivial⟩⟩
set_option maxRecDepth 100000 in
set_option maxHeartbeats 4000000 in
theorem n_X12_spread_11 : en_lkC "EvenStepsModel" false [(.iload 14, 2, 14, 0, [], 0, 0), (.iload 10, 2, 10, 0, [], 0, 0), (.if_icmp .ge 26, 3, 12, 0, [], 0, 0), (.lload 11, 2, 11, 0, [], 0, 0), (.lload 5, 2, 5, 0, [], 0, 0), (.iload 13, 2, 13, 0, [], 0, 0), (.lshl, 1, 0, 0, [], 0, 0), (.lor, 1, 0, 0, [], 0, 0), (.lstore 11, 2, 11, 0, [], 0, 0), (.iload 13, 2, 13, 0, [], 0, 0), (.iload 8, 2, 8, 0, [], 0, 0), (.iadd, 1, 0, 0, [], 0, 0), (.istore 13, 2, 13, 0, [], 0, 0), (.iinc 14 1, 3, 14, 0, [], 1, 0), (.goto (-27), 3, 11, 0, [], 0, 0)] := ⟨trivial, ⟨trivial, ⟨trivial, ⟨trivial, ⟨trivial, ⟨trivial, ⟨trivial, ⟨trivial, ⟨trivial, ⟨trivial, ⟨trivial, ⟨trivial, ⟨trivial, ⟨trivial, ⟨trivial, trivial⟩⟩⟩⟩⟩⟩⟩⟩⟩⟩⟩⟩⟩⟩⟩
set_option maxRecDepth 100000 in
set_option maxHeartbeats 4000000 in
theorem n_X12_spread_12 : en_lkC "EvenStepsModel" false [(.lload 11, 2, 11, 0, [], 0, 0), (.lreturn, 1, 0, 0, [], 0, 0)] := ⟨trivial, ⟨trivial, trivial⟩⟩
set_option maxRecDepth 100000 in
set_option maxHeartbeats 4000000 in
theorem n_X12_spread : en_lkM (⟨"EvenStepsModel", "spread", "(II)J"⟩, prog_14_method_54_code, 15, (some .long), p_X12_spread) := (List.forall_mem_cons.mpr ⟨n_X12_spread_0, (List.forall_mem_cons.mpr ⟨n_X12_spread_1, (List.forall_mem_cons.mpr ⟨n_X12_spread_2, (List.forall_mem_cons.mpr ⟨n_X12_spread_3, (List.forall_mem_cons.mpr ⟨n_X12_spread_4, (List.forall_mem_cons.mpr ⟨n_X12_spread_5, (List.forall_mem_cons.mpr ⟨n_X12_spread_6, (List.forall_mem_cons.mpr ⟨n_X12_spread_7, (List.forall_mem_cons.mpr ⟨n_X12_spread_8, (List.forall_mem_cons.mpr ⟨n_X12_spread_9, (List.forall_mem_cons.mpr ⟨n_X12_spread_10, (List.forall_mem_cons.mpr ⟨n_X12_spread_11, (List.forall_mem_cons.mpr ⟨n_X12_spread_12, (fun _ h => absurd h List.not_mem_nil)⟩)⟩)⟩)⟩)⟩)⟩)⟩)⟩)⟩)⟩)⟩)⟩)⟩)
set_option maxRecDepth 100000 in
set_option maxHeartbeats 4000000 in
theorem k_X12_turning : en_ckM (⟨"EvenStepsModel", "turning", "(JI)I"⟩, prog_14_method_55_code, 7, (some .int), p_X12_turning) = true := by decide +kernel
set_option maxRecDepth 100000 in
set_option maxHeartbeats 4000000 in
theorem n_X12_turning_0 : en_lkC "EvenStepsModel" false [(.iload_n 3, 1, 3, 0, [], 0, 0), (.iconst 1, 1, 0, 0, [], 1, 0), (.bipush 40, 2, 0, 0, [], 40, 0), (.invokestatic 99, 3, 3, 3, [(0, 133)], 0, 0), (.ifCond .ne 5, 3, 1, 0, [], 0, 0), (.iconst (-1), 1, 0, 0, [], (-1), 0), (.ireturn, 1, 0, 0, [], 0, 0)] := ⟨trivial, ⟨trivial, ⟨trivial, ⟨lk_342, ⟨trivial, ⟨trivial, ⟨trivial, trivial⟩⟩⟩⟩⟩⟩⟩
set_option maxRecDepth 100000 in
set_option maxHeartbeats 4000000 in
theorem n_X12_turning_1 : en_lkC "EvenStepsModel" false [(.iconst 0, 1, 0, 0, [], 0, 0), (.istore 4, 2, 4, 0, [], 0, 0), (.iconst 1, 1, 0, 0, [], 1, 0), (.istore 5, 2, 5, 0, [], 0, 0)] := ⟨trivial, ⟨trivial, ⟨trivial, ⟨trivial, trivial⟩⟩⟩⟩
set_option maxRecDepth 100000 in
set_option maxHeartbeats 4000000 in
theorem n_X12_turning_2 : en_lkC "EvenStepsModel" false [(.iload 5, 2, 5, 0, [], 0, 0), (.iload_n 3, 1, 3, 0, [], 0, 0), (.if_icmp .ge 76, 3, 6, 0, [], 0, 0), (.iconst 0, 1, 0, 0, [], 0, 0), (.istore 6, 2, 6, 0, [], 0, 0)] := ⟨trivial, ⟨trivial, ⟨trivial, ⟨trivial, ⟨trivial, trivial⟩⟩⟩⟩⟩
set_option maxRecDepth 100000 in
set_option maxHeartbeats 4000000 in
theorem n_X12_turning_3 : en_lkC "EvenStepsModel" false [(.iload 6, 2, 6, 0, [], 0, 0), (.iload_n 3, 1, 3, 0, [], 0, 0), (.if_icmp .ge 35, 3, 4, 0, [], 0, 0), (.lload_n 1, 1, 1, 0, [], 0, 0), (.iload 5, 2, 5, 0, [], 0, 0), (.iload 6, 2, 6, 0, [], 0, 0), (.iadd, 1, 0, 0, [], 0, 0), (.iload_n 3, 1, 3, 0, [], 0, 0), (.irem, 1, 0, 0, [], 0, 0), (.lshr, 1, 0, 0, [], 0, 0), (.lconst 1, 1, 0, 0, [], 0, 1), (.land, 1, 0, 0, [], 0, 0), (.lload_n 1, 1, 1, 0, [], 0, 0), (.iload 4, 2, 4, 0, [], 0, 0), (.iload 6, 2, 6, 0, [], 0, 0), (.iadd, 1, 0, 0, [], 0, 0), (.iload_n 3, 1, 3, 0, [], 0, 0), (.irem, 1, 0, 0, [], 0, 0), (.lshr, 1, 0, 0, [], 0, 0), (.lconst 1, 1, 0, 0, [], 0, 1), (.land, 1, 0, 0, [], 0, 0), (.lcmp, 1, 0, 0, [], 0, 0), (.ifCond .ne 9, 3, 4, 0, [], 0, 0), (.iinc 6 1, 3, 6, 0, [], 1, 0), (.goto (-35), 3, 3, 0, [], 0, 0)] := ⟨trivial, ⟨trivial, ⟨trivial, ⟨trivial, ⟨trivial, ⟨trivial, ⟨trivial, ⟨trivial, ⟨trivial, ⟨trivial, ⟨trivial, ⟨trivial, ⟨trivial, ⟨trivial, ⟨trivial, ⟨trivial, ⟨trivial, ⟨trivial, ⟨trivial, ⟨trivial, ⟨trivial, ⟨trivial, ⟨trivial, ⟨trivial, ⟨trivial, trivial⟩⟩⟩⟩⟩⟩⟩⟩⟩⟩⟩⟩⟩⟩⟩⟩⟩⟩⟩⟩⟩⟩⟩⟩⟩
set_option maxRecDepth 100000 in
set_option maxHeartbeats 4000000 in
theorem n_X12_turning_4 : en_lkC "EvenStepsModel" false [(.iload 6, 2, 6, 0, [], 0, 0), (.iload_n 3, 1, 3, 0, [], 0, 0), (.if_icmp .ge 23, 3, 5, 0, [], 0, 0), (.lload_n 1, 1, 1, 0, [], 0, 0), (.iload 5, 2, 5, 0, [], 0, 0), (.iload 6, 2, 6, 0, [], 0, 0), (.iadd, 1, 0, 0, [], 0, 0), (.iload_n 3, 1, 3, 0, [], 0, 0), (.irem, 1, 0, 0, [], 0, 0), (.lshr, 1, 0, 0, [], 0, 0), (.lconst 1, 1, 0, 0, [], 0, 1), (.land, 1, 0, 0, [], 0, 0), (.lconst 0, 1, 0, 0, [], 0, 0), (.lcmp, 1, 0, 0, [], 0, 0), (.ifCond .ne 7, 3, 5, 0, [], 0, 0), (.iload 5, 2, 5, 0, [], 0, 0), (.istore 4, 2, 4, 0, [], 0, 0)] := ⟨trivial, ⟨trivial, ⟨trivial, ⟨trivial, ⟨trivial, ⟨trivial, ⟨trivial, ⟨trivial, ⟨trivial, ⟨trivial, ⟨trivial, ⟨trivial, ⟨trivial, ⟨trivial, ⟨trivial, ⟨trivial, ⟨trivial, trivial⟩⟩⟩⟩⟩⟩⟩⟩⟩⟩⟩⟩⟩⟩⟩⟩⟩
set_option maxRecDepth 100000 in
set_option maxHeartbeats 4000000 in
theorem n_X12_turning_5 : en_lkC "EvenStepsModel" false [(.iinc 5 1, 3, 5, 0, [], 1, 0), (.goto (-76), 3, 2, 0, [], 0, 0)] := ⟨trivial, ⟨trivial, trivial⟩⟩
set_option maxRecDepth 100000 in
set_option maxHeartbeats 4000000 in
theorem n_X12_turning_6 : en_lkC "EvenStepsModel" false [(.iload 4, 2, 4, 0, [], 0, 0), (.ireturn, 1, 0, 0, [], 0, 0)] := ⟨trivial, ⟨trivial, trivial⟩⟩
set_option maxRecDepth 100000 in
set_option maxHeartbeats 4000000 in
theorem n_X12_turning : en_lkM (⟨"EvenStepsModel", "turning", "(JI)I"⟩, prog_14_method_55_code, 7, (some .int), p_X12_turning) := (List.forall_mem_cons.mpr ⟨n_X12_turning_0, (List.forall_mem_cons.mpr ⟨n_X12_turning_1, (List.forall_mem_cons.mpr ⟨n_X12_turning_2, (List.forall_mem_cons.mpr ⟨n_X12_turning_3, (List.forall_mem_cons.mpr ⟨n_X12_turning_4, (List.forall_mem_cons.mpr ⟨n_X12_turning_5, (List.forall_mem_cons.mpr ⟨n_X12_turning_6, (fun _ h => absurd h List.not_mem_nil)⟩)⟩)⟩)⟩)⟩)⟩)⟩)
set_option maxRecDepth 100000 in
set_option maxHeartbeats 4000000 in
theorem k_X12_pairs : en_ckM (⟨"EvenStepsModel", "pairs", "()V"⟩, prog_14_method_56_code, 3, none, p_X12_pairs) = true := by decide +kernel
set_option maxRecDepth 100000 in
set_option maxHeartbeats 4000000 in
theorem n_X12_pairs_0 : en_lkC "EvenStepsModel" false [(.aload_n 0, 1, 0, 0, [], 0, 0), (.getfield 211, 3, 32, 3, [(11, 0)], 0, 0), (.ifCond .eq 4, 3, 1, 0, [], 0, 0), (.return_, 1, 0, 0, [], 0, 0)] := ⟨trivial, ⟨lk_401, ⟨trivial, ⟨trivial, trivial⟩⟩⟩⟩
set_option maxRecDepth 100000 in
set_option maxHeartbeats 4000000 in
theorem n_X12_pairs_1 : en_lkC "EvenStepsModel" false [(.aload_n 0, 1, 0, 0, [], 0, 0), (.iconst 1, 1, 0, 0, [], 1, 0), (.putfield 211, 3, 32, 3, [(11, 0)], 0, 0), (.iconst 0, 1, 0, 0, [], 0, 0), (.istore_n 1, 1, 1, 0, [], 0, 0)] := ⟨trivial, ⟨trivial, ⟨lk_402, ⟨trivial, ⟨trivial, trivial⟩⟩⟩⟩⟩
set_option maxRecDepth 100000 in
set_option maxHeartbeats 4000000 in
theorem n_X12_pairs_2 : en_lkC "EvenStepsModel" false [(.iload_n 1, 1, 1, 0, [], 0, 0), (.sipush 2000, 3, 0, 0, [], 2000, 0), (.if_icmp .gt 16, 3, 3, 0, [], 0, 0), (.aload_n 0, 1, 0, 0, [], 0, 0), (.getfield 81, 3, 31, 2, [(11, 0)], 0, 0), (.iload_n 1, 1, 1, 0, [], 0, 0), (.iconst (-1), 1, 0, 0, [], (-1), 0), (.iastore, 1, 0, 0, [], 0, 0), (.iinc 1 1, 3, 1, 0, [], 1, 0), (.goto (-17), 3, 2, 0, [], 0, 0)] := ⟨trivial, ⟨trivial, ⟨trivial, ⟨trivial, ⟨lk_403, ⟨trivial, ⟨trivial, ⟨trivial, ⟨trivial, ⟨trivial, trivial⟩⟩⟩⟩⟩⟩⟩⟩⟩⟩
set_option maxRecDepth 100000 in
set_option maxHeartbeats 4000000 in
theorem n_X12_pairs_3 : en_lkC "EvenStepsModel" false [(.iconst 0, 1, 0, 0, [], 0, 0), (.istore_n 1, 1, 1, 0, [], 0, 0), (.iconst 0, 1, 0, 0, [], 0, 0), (.istore_n 2, 1, 2, 0, [], 0, 0)] := ⟨trivial, ⟨trivial, ⟨trivial, ⟨trivial, trivial⟩⟩⟩⟩
set_option maxRecDepth 100000 in
set_option maxHeartbeats 4000000 in
theorem n_X12_pairs_4 : en_lkC "EvenStepsModel" false [(.iload_n 2, 1, 2, 0, [], 0, 0), (.sipush 2000, 3, 0, 0, [], 2000, 0), (.if_icmp .gt 52, 3, 8, 0, [], 0, 0), (.aload_n 0, 1, 0, 0, [], 0, 0), (.getfield 81, 3, 31, 2, [(11, 0)], 0, 0), (.iload_n 2, 1, 2, 0, [], 0, 0), (.iaload, 1, 0, 0, [], 0, 0), (.iconst (-1), 1, 0, 0, [], (-1), 0), (.if_icmp .eq 6, 3, 5, 0, [], 0, 0), (.goto 33, 3, 7, 0, [], 0, 0)] := ⟨trivial, ⟨trivial, ⟨trivial, ⟨trivial, ⟨lk_403, ⟨trivial, ⟨trivial, ⟨trivial, ⟨trivial, ⟨trivial, trivial⟩⟩⟩⟩⟩⟩⟩⟩⟩⟩
set_option maxRecDepth 100000 in
set_option maxHeartbeats 4000000 in
theorem n_X12_pairs_5 : en_lkC "EvenStepsModel" false [(.aload_n 0, 1, 0, 0, [], 0, 0), (.getfield 81, 3, 31, 2, [(11, 0)], 0, 0), (.iload_n 2, 1, 2, 0, [], 0, 0), (.iload_n 2, 1, 2, 0, [], 0, 0), (.iload_n 1, 1, 1, 0, [], 0, 0), (.iadd, 1, 0, 0, [], 0, 0), (.iastore, 1, 0, 0, [], 0, 0), (.iload_n 2, 1, 2, 0, [], 0, 0), (.iload_n 1, 1, 1, 0, [], 0, 0), (.iadd, 1, 0, 0, [], 0, 0), (.sipush 2000, 3, 0, 0, [], 2000, 0), (.if_icmp .gt 12, 3, 6, 0, [], 0, 0), (.aload_n 0, 1, 0, 0, [], 0, 0), (.getfield 81, 3, 31, 2, [(11, 0)], 0, 0), (.iload_n 2, 1, 2, 0, [], 0, 0), (.iload_n 1, 1, 1, 0, [], 0, 0), (.iadd, 1, 0, 0, [], 0, 0), (.iload_n 2, 1, 2, 0, [], 0, 0), (.iastore, 1, 0, 0, [], 0, 0)] := ⟨trivial, ⟨lk_403, ⟨trivial, ⟨trivial, ⟨trivial, ⟨trivial, ⟨trivial, ⟨trivial, ⟨trivial, ⟨trivial, ⟨trivial, ⟨trivial, ⟨trivial, ⟨lk_403, ⟨trivial, ⟨trivial, ⟨trivial, ⟨trivial, ⟨trivial, trivial⟩⟩⟩⟩⟩⟩⟩⟩⟩⟩⟩⟩⟩⟩⟩⟩⟩⟩⟩
set_option maxRecDepth 100000 in
set_option maxHeartbeats 4000000 in
theorem n_X12_pairs_6 : en_lkC "EvenStepsModel" false [(.iinc 1 1, 3, 1, 0, [], 1, 0)] := ⟨trivial, trivial⟩
set_option maxRecDepth 100000 in
set_option maxHeartbeats 4000000 in
theorem n_X12_pairs_7 : en_lkC "EvenStepsModel" false [(.iinc 2 1, 3, 2, 0, [], 1, 0), (.goto (-53), 3, 4, 0, [], 0, 0)] := ⟨trivial, ⟨trivial, trivial⟩⟩
set_option maxRecDepth 100000 in
set_option maxHeartbeats 4000000 in
theorem n_X12_pairs_8 : en_lkC "EvenStepsModel" false [(.return_, 1, 0, 0, [], 0, 0)] := ⟨trivial, trivial⟩
set_option maxRecDepth 100000 in
set_option maxHeartbeats 4000000 in
theorem n_X12_pairs : en_lkM (⟨"EvenStepsModel", "pairs", "()V"⟩, prog_14_method_56_code, 3, none, p_X12_pairs) := (List.forall_mem_cons.mpr ⟨n_X12_pairs_0, (List.forall_mem_cons.mpr ⟨n_X12_pairs_1, (List.forall_mem_cons.mpr ⟨n_X12_pairs_2, (List.forall_mem_cons.mpr ⟨n_X12_pairs_3, (List.forall_mem_cons.mpr ⟨n_X12_pairs_4, (List.forall_mem_cons.mpr ⟨n_X12_pairs_5, (List.forall_mem_cons.mpr ⟨n_X12_pairs_6, (List.forall_mem_cons.mpr ⟨n_X12_pairs_7, (List.forall_mem_cons.mpr ⟨n_X12_pairs_8, (fun _ h => absurd h List.not_mem_nil)⟩)⟩)⟩)⟩)⟩)⟩)⟩)⟩)⟩)
set_option maxRecDepth 100000 in
set_option maxHeartbeats 4000000 in
theorem k_X12_wins : en_ckM (⟨"EvenStepsModel", "wins", "(II)I"⟩, prog_14_method_57_code, 3, (some .int), p_X12_wins) = true := by decide +kernel
set_option maxRecDepth 100000 in
set_option maxHeartbeats 4000000 in
theorem n_X12_wins_0 : en_lkC "EvenStepsModel" false [(.iload_n 1, 1, 1, 0, [], 0, 0), (.iconst 0, 1, 0, 0, [], 0, 0), (.sipush 2000, 3, 0, 0, [], 2000, 0), (.invokestatic 99, 3, 3, 3, [(0, 133)], 0, 0), (.ifCond .eq 14, 3, 1, 0, [], 0, 0), (.iload_n 2, 1, 2, 0, [], 0, 0), (.iconst 0, 1, 0, 0, [], 0, 0), (.sipush 2000, 3, 0, 0, [], 2000, 0), (.invokestatic 99, 3, 3, 3, [(0, 133)], 0, 0), (.ifCond .ne 5, 3, 2, 0, [], 0, 0)] := ⟨trivial, ⟨trivial, ⟨trivial, ⟨lk_342, ⟨trivial, ⟨trivial, ⟨trivial, ⟨trivial, ⟨lk_342, ⟨trivial, trivial⟩⟩⟩⟩⟩⟩⟩⟩⟩⟩
set_option maxRecDepth 100000 in
set_option maxHeartbeats 4000000 in
theorem n_X12_wins_1 : en_lkC "EvenStepsModel" false [(.iconst (-1), 1, 0, 0, [], (-1), 0), (.ireturn, 1, 0, 0, [], 0, 0)] := ⟨trivial, ⟨trivial, trivial⟩⟩
set_option maxRecDepth 100000 in
set_option maxHeartbeats 4000000 in
theorem n_X12_wins_2 : en_lkC "EvenStepsModel" false [(.aload_n 0, 1, 0, 0, [], 0, 0), (.invokevirtual 215, 3, 0, 4, [(11, 185)], 0, 0), (.aload_n 0, 1, 0, 0, [], 0, 0), (.getfield 81, 3, 31, 2, [(11, 0)], 0, 0), (.iload_n 1, 1, 1, 0, [], 0, 0), (.iaload, 1, 0, 0, [], 0, 0), (.iload_n 2, 1, 2, 0, [], 0, 0), (.if_icmp .ne 7, 3, 3, 0, [], 0, 0), (.iconst 0, 1, 0, 0, [], 0, 0), (.goto 4, 3, 4, 0, [], 0, 0)] := ⟨trivial, ⟨lk_404, ⟨trivial, ⟨lk_403, ⟨trivial, ⟨trivial, ⟨trivial, ⟨trivial, ⟨trivial, ⟨trivial, trivial⟩⟩⟩⟩⟩⟩⟩⟩⟩⟩
set_option maxRecDepth 100000 in
set_option maxHeartbeats 4000000 in
theorem n_X12_wins_3 : en_lkC "EvenStepsModel" false [(.iconst 1, 1, 0, 0, [], 1, 0)] := ⟨trivial, trivial⟩
set_option maxRecDepth 100000 in
set_option maxHeartbeats 4000000 in
theorem n_X12_wins_4 : en_lkC "EvenStepsModel" false [(.ireturn, 1, 0, 0, [], 0, 0)] := ⟨trivial, trivial⟩
set_option maxRecDepth 100000 in
set_option maxHeartbeats 4000000 in
theorem n_X12_wins : en_lkM (⟨"EvenStepsModel", "wins", "(II)I"⟩, prog_14_method_57_code, 3, (some .int), p_X12_wins) := (List.forall_mem_cons.mpr ⟨n_X12_wins_0, (List.forall_mem_cons.mpr ⟨n_X12_wins_1, (List.forall_mem_cons.mpr ⟨n_X12_wins_2, (List.forall_mem_cons.mpr ⟨n_X12_wins_3, (List.forall_mem_cons.mpr ⟨n_X12_wins_4, (fun _ h => absurd h List.not_mem_nil)⟩)⟩)⟩)⟩)⟩)
set_option maxRecDepth 100000 in
set_option maxHeartbeats 4000000 in
theorem k_X12_takes : en_ckM (⟨"EvenStepsModel", "takes", "(II)I"⟩, prog_14_method_58_code, 4, (some .int), p_X12_takes) = true := by decide +kernel
set_option maxRecDepth 100000 in
set_option maxHeartbeats 4000000 in
theorem n_X12_takes_0 : en_lkC "EvenStepsModel" false [(.aload_n 0, 1, 0, 0, [], 0, 0), (.iload_n 1, 1, 1, 0, [], 0, 0), (.iload_n 2, 1, 2, 0, [], 0, 0), (.invokevirtual 218, 3, 2, 0, [(11, 186)], 0, 0), (.iconst 1, 1, 0, 0, [], 1, 0), (.if_icmp .eq 5, 3, 1, 0, [], 0, 0), (.iconst (-1), 1, 0, 0, [], (-1), 0), (.ireturn, 1, 0, 0, [], 0, 0)] := ⟨trivial, ⟨trivial, ⟨trivial, ⟨lk_405, ⟨trivial, ⟨trivial, ⟨trivial, ⟨trivial, trivial⟩⟩⟩⟩⟩⟩⟩⟩
set_option maxRecDepth 100000 in
set_option maxHeartbeats 4000000 in
theorem n_X12_takes_1 : en_lkC "EvenStepsModel" false [(.aload_n 0, 1, 0, 0, [], 0, 0), (.getfield 81, 3, 31, 2, [(11, 0)], 0, 0), (.iload_n 2, 1, 2, 0, [], 0, 0), (.iaload, 1, 0, 0, [], 0, 0), (.iload_n 1, 1, 1, 0, [], 0, 0), (.if_icmp .ge 15, 3, 2, 0, [], 0, 0), (.ldc 221, 2, 0, 0, [], 1000000, 0), (.iload_n 1, 1, 1, 0, [], 0, 0), (.iadd, 1, 0, 0, [], 0, 0), (.aload_n 0, 1, 0, 0, [], 0, 0), (.getfield 81, 3, 31, 2, [(11, 0)], 0, 0), (.iload_n 2, 1, 2, 0, [], 0, 0), (.iaload, 1, 0, 0, [], 0, 0), (.isub, 1, 0, 0, [], 0, 0), (.ireturn, 1, 0, 0, [], 0, 0)] := ⟨trivial, ⟨lk_403, ⟨trivial, ⟨trivial, ⟨trivial, ⟨trivial, ⟨wd_1277, ⟨trivial, ⟨trivial, ⟨trivial, ⟨lk_403, ⟨trivial, ⟨trivial, ⟨trivial, ⟨trivial, trivial⟩⟩⟩⟩⟩⟩⟩⟩⟩⟩⟩⟩⟩⟩⟩
set_option maxRecDepth 100000 in
set_option maxHeartbeats 4000000 in
theorem n_X12_takes_2 : en_lkC "EvenStepsModel" false [(.aload_n 0, 1, 0, 0, [], 0, 0), (.getfield 81, 3, 31, 2, [(11, 0)], 0, 0), (.iload_n 1, 1, 1, 0, [], 0, 0), (.iaload, 1, 0, 0, [], 0, 0), (.iload_n 2, 1, 2, 0, [], 0, 0), (.if_icmp .ge 15, 3, 3, 0, [], 0, 0), (.ldc 222, 2, 0, 0, [], 2000000, 0), (.iload_n 2, 1, 2, 0, [], 0, 0), (.iadd, 1, 0, 0, [], 0, 0), (.aload_n 0, 1, 0, 0, [], 0, 0), (.getfield 81, 3, 31, 2, [(11, 0)], 0, 0), (.iload_n 1, 1, 1, 0, [], 0, 0), (.iaload, 1, 0, 0, [], 0, 0), (.isub, 1, 0, 0, [], 0, 0), (.ireturn, 1, 0, 0, [], 0, 0)] := ⟨trivial, ⟨lk_403, ⟨trivial, ⟨trivial, ⟨trivial, ⟨trivial, ⟨wd_1278, ⟨trivial, ⟨trivial, ⟨trivial, ⟨lk_403, ⟨trivial, ⟨trivial, ⟨trivial, ⟨trivial, trivial⟩⟩⟩⟩⟩⟩⟩⟩⟩⟩⟩⟩⟩⟩⟩
set_option maxRecDepth 100000 in
set_option maxHeartbeats 4000000 in
theorem n_X12_takes_3 : en_lkC "EvenStepsModel" false [(.iconst 1, 1, 0, 0, [], 1, 0), (.istore_n 3, 1, 3, 0, [], 0, 0)] := ⟨trivial, ⟨trivial, trivial⟩⟩
set_option maxRecDepth 100000 in
set_option maxHeartbeats 4000000 in
theorem n_X12_takes_4 : en_lkC "EvenStepsModel" false [(.iload_n 3, 1, 3, 0, [], 0, 0), (.iload_n 1, 1, 1, 0, [], 0, 0), (.if_icmp .gt 33, 3, 6, 0, [], 0, 0), (.iload_n 3, 1, 3, 0, [], 0, 0), (.iload_n 2, 1, 2, 0, [], 0, 0), (.if_icmp .gt 28, 3, 6, 0, [], 0, 0), (.aload_n 0, 1, 0, 0, [], 0, 0), (.getfield 81, 3, 31, 2, [(11, 0)], 0, 0), (.iload_n 1, 1, 1, 0, [], 0, 0), (.iload_n 3, 1, 3, 0, [], 0, 0), (.isub, 1, 0, 0, [], 0, 0), (.iaload, 1, 0, 0, [], 0, 0), (.iload_n 2, 1, 2, 0, [], 0, 0), (.iload_n 3, 1, 3, 0, [], 0, 0), (.isub, 1, 0, 0, [], 0, 0), (.if_icmp .ne 8, 3, 5, 0, [], 0, 0), (.ldc 223, 2, 0, 0, [], 3000000, 0), (.iload_n 3, 1, 3, 0, [], 0, 0), (.iadd, 1, 0, 0, [], 0, 0), (.ireturn, 1, 0, 0, [], 0, 0)] := ⟨trivial, ⟨trivial, ⟨trivial, ⟨trivial, ⟨trivial, ⟨trivial, ⟨trivial, ⟨lk_403, ⟨trivial, ⟨trivial, ⟨trivial, ⟨trivial, ⟨trivial, ⟨trivial, ⟨trivial, ⟨trivial, ⟨wd_1279, ⟨trivial, ⟨trivial, ⟨trivial, trivial⟩⟩⟩⟩⟩⟩⟩⟩⟩⟩⟩⟩⟩⟩⟩⟩⟩⟩⟩⟩
set_option maxRecDepth 100000 in
set_option maxHeartbeats 4000000 in
theorem n_X12_takes_5 : en_lkC "EvenStepsModel" false [(.iinc 3 1, 3, 3, 0, [], 1, 0), (.goto (-32), 3, 4, 0, [], 0, 0)] := ⟨trivial, ⟨trivial, trivial⟩⟩
set_option maxRecDepth 100000 in
set_option maxHeartbeats 4000000 in
theorem n_X12_takes_6 : en_lkC "EvenStepsModel" false [(.iconst (-1), 1, 0, 0, [], (-1), 0), (.ireturn, 1, 0, 0, [], 0, 0)] := ⟨trivial, ⟨trivial, trivial⟩⟩
set_option maxRecDepth 100000 in
set_option maxHeartbeats 4000000 in
theorem n_X12_takes : en_lkM (⟨"EvenStepsModel", "takes", "(II)I"⟩, prog_14_method_58_code, 4, (some .int), p_X12_takes) := (List.forall_mem_cons.mpr ⟨n_X12_takes_0, (List.forall_mem_cons.mpr ⟨n_X12_takes_1, (List.forall_mem_cons.mpr ⟨n_X12_takes_2, (List.forall_mem_cons.mpr ⟨n_X12_takes_3, (List.forall_mem_cons.mpr ⟨n_X12_takes_4, (List.forall_mem_cons.mpr ⟨n_X12_takes_5, (List.forall_mem_cons.mpr ⟨n_X12_takes_6, (fun _ h => absurd h List.not_mem_nil)⟩)⟩)⟩)⟩)⟩)⟩)⟩)
set_option maxRecDepth 100000 in
set_option maxHeartbeats 4000000 in
theorem k_X12_ran : en_ckM (⟨"EvenStepsModel", "ran", "(I)V"⟩, prog_14_method_59_code, 2, none, p_X12_ran) = true := by decide +kernel
set_option maxRecDepth 100000 in
set_option maxHeartbeats 4000000 in
theorem n_X12_ran_0 : en_lkC "EvenStepsModel" false [(.aload_n 0, 1, 0, 0, [], 0, 0), (.getfield 165, 3, 15, 0, [(11, 0)], 0, 0), (.bipush 50, 2, 0, 0, [], 50, 0), (.if_icmp .ge 13, 3, 1, 0, [], 0, 0), (.aload_n 0, 1, 0, 0, [], 0, 0), (.getfield 44, 3, 14, 2, [(11, 0)], 0, 0), (.aload_n 0, 1, 0, 0, [], 0, 0), (.getfield 165, 3, 15, 0, [(11, 0)], 0, 0), (.iload_n 1, 1, 1, 0, [], 0, 0), (.iastore, 1, 0, 0, [], 0, 0)] := ⟨trivial, ⟨lk_379, ⟨trivial, ⟨trivial, ⟨trivial, ⟨lk_409, ⟨trivial, ⟨lk_379, ⟨trivial, ⟨trivial, trivial⟩⟩⟩⟩⟩⟩⟩⟩⟩⟩
set_option maxRecDepth 100000 in
set_option maxHeartbeats 4000000 in
theorem n_X12_ran_1 : en_lkC "EvenStepsModel" false [(.aload_n 0, 1, 0, 0, [], 0, 0), (.dup, 1, 0, 0, [], 0, 0), (.getfield 165, 3, 15, 0, [(11, 0)], 0, 0), (.iconst 1, 1, 0, 0, [], 1, 0), (.iadd, 1, 0, 0, [], 0, 0), (.putfield 165, 3, 15, 0, [(11, 0)], 0, 0), (.return_, 1, 0, 0, [], 0, 0)] := ⟨trivial, ⟨trivial, ⟨lk_379, ⟨trivial, ⟨trivial, ⟨lk_410, ⟨trivial, trivial⟩⟩⟩⟩⟩⟩⟩
set_option maxRecDepth 100000 in
set_option maxHeartbeats 4000000 in
theorem n_X12_ran : en_lkM (⟨"EvenStepsModel", "ran", "(I)V"⟩, prog_14_method_59_code, 2, none, p_X12_ran) := (List.forall_mem_cons.mpr ⟨n_X12_ran_0, (List.forall_mem_cons.mpr ⟨n_X12_ran_1, (fun _ h => absurd h List.not_mem_nil)⟩)⟩)
set_option maxRecDepth 100000 in
set_option maxHeartbeats 4000000 in
theorem k_X12_stepOne : en_ckM (⟨"EvenStepsModel", "stepOne", "(I)I"⟩, prog_14_method_60_code, 2, (some .int), p_X12_stepOne) = true := by decide +kernel
set_option maxRecDepth 100000 in
set_option maxHeartbeats 4000000 in
theorem n_X12_stepOne_0 : en_lkC "EvenStepsModel" false [(.aload_n 0, 1, 0, 0, [], 0, 0), (.getfield 25, 3, 8, 2, [(11, 0)], 0, 0), (.iload_n 1, 1, 1, 0, [], 0, 0), (.iaload, 1, 0, 0, [], 0, 0), (.iconst 1, 1, 0, 0, [], 1, 0), (.if_icmp .le 18, 3, 1, 0, [], 0, 0), (.aload_n 0, 1, 0, 0, [], 0, 0), (.getfield 32, 3, 10, 2, [(11, 0)], 0, 0), (.sipush 10001, 3, 0, 0, [], 10001, 0), (.iload_n 1, 1, 1, 0, [], 0, 0), (.imul, 1, 0, 0, [], 0, 0), (.iconst 1, 1, 0, 0, [], 1, 0), (.iadd, 1, 0, 0, [], 0, 0), (.iaload, 1, 0, 0, [], 0, 0), (.goto 4, 3, 2, 0, [], 0, 0)] := ⟨trivial, ⟨lk_373, ⟨trivial, ⟨trivial, ⟨trivial, ⟨trivial, ⟨trivial, ⟨lk_372, ⟨trivial, ⟨trivial, ⟨trivial, ⟨trivial, ⟨trivial, ⟨trivial, ⟨trivial, trivial⟩⟩⟩⟩⟩⟩⟩⟩⟩⟩⟩⟩⟩⟩⟩
set_option maxRecDepth 100000 in
set_option maxHeartbeats 4000000 in
theorem n_X12_stepOne_1 : en_lkC "EvenStepsModel" false [(.iconst 0, 1, 0, 0, [], 0, 0)] := ⟨trivial, trivial⟩
set_option maxRecDepth 100000 in
set_option maxHeartbeats 4000000 in
theorem n_X12_stepOne_2 : en_lkC "EvenStepsModel" false [(.ireturn, 1, 0, 0, [], 0, 0)] := ⟨trivial, trivial⟩
set_option maxRecDepth 100000 in
set_option maxHeartbeats 4000000 in
theorem n_X12_stepOne : en_lkM (⟨"EvenStepsModel", "stepOne", "(I)I"⟩, prog_14_method_60_code, 2, (some .int), p_X12_stepOne) := (List.forall_mem_cons.mpr ⟨n_X12_stepOne_0, (List.forall_mem_cons.mpr ⟨n_X12_stepOne_1, (List.forall_mem_cons.mpr ⟨n_X12_stepOne_2, (fun _ h => absurd h List.not_mem_nil)⟩)⟩)⟩)
set_option maxRecDepth 100000 in
set_option maxHeartbeats 4000000 in
theorem k_X12_goRow : en_ckM (⟨"EvenStepsModel", "goRow", "(II)I"⟩, prog_14_method_61_code, 3, (some .int), p_X12_goRow) = true := by decide +kernel
set_option maxRecDepth 100000 in
set_option maxHeartbeats 4000000 in
theorem n_X12_goRow_0 : en_lkC "EvenStepsModel" false [(.aload_n 0, 1, 0, 0, [], 0, 0), (.bipush 10, 2, 0, 0, [], 10, 0), (.invokevirtual 224, 3, 1, 4, [(11, 188)], 0, 0), (.iload_n 2, 1, 2, 0, [], 0, 0), (.aload_n 0, 1, 0, 0, [], 0, 0), (.iload_n 1, 1, 1, 0, [], 0, 0), (.invokevirtual 227, 3, 1, 0, [(11, 189)], 0, 0), (.iadd, 1, 0, 0, [], 0, 0), (.ireturn, 1, 0, 0, [], 0, 0)] := ⟨trivial, ⟨trivial, ⟨lk_411, ⟨trivial, ⟨trivial, ⟨trivial, ⟨lk_412, ⟨trivial, ⟨trivial, trivial⟩⟩⟩⟩⟩⟩⟩⟩⟩
set_option maxRecDepth 100000 in
set_option maxHeartbeats 4000000 in
theorem n_X12_goRow : en_lkM (⟨"EvenStepsModel", "goRow", "(II)I"⟩, prog_14_method_61_code, 3, (some .int), p_X12_goRow) := (List.forall_mem_cons.mpr ⟨n_X12_goRow_0, (fun _ h => absurd h List.not_mem_nil)⟩)
set_option maxRecDepth 100000 in
set_option maxHeartbeats 4000000 in
theorem k_X12_goEven : en_ckM (⟨"EvenStepsModel", "goEven", "(II)I"⟩, prog_14_method_62_code, 3, (some .int), p_X12_goEven) = true := by decide +kernel
set_option maxRecDepth 100000 in
set_option maxHeartbeats 4000000 in
theorem n_X12_goEven_0 : en_lkC "EvenStepsModel" false [(.aload_n 0, 1, 0, 0, [], 0, 0), (.bipush 20, 2, 0, 0, [], 20, 0), (.invokevirtual 224, 3, 1, 4, [(11, 188)], 0, 0), (.aload_n 0, 1, 0, 0, [], 0, 0), (.iload_n 1, 1, 1, 0, [], 0, 0), (.iload_n 2, 1, 2, 0, [], 0, 0), (.invokevirtual 230, 3, 2, 0, [(11, 190)], 0, 0), (.iconst 2, 1, 0, 0, [], 2, 0), (.imul, 1, 0, 0, [], 0, 0), (.ireturn, 1, 0, 0, [], 0, 0)] := ⟨trivial, ⟨trivial, ⟨lk_411, ⟨trivial, ⟨trivial, ⟨trivial, ⟨lk_413, ⟨trivial, ⟨trivial, ⟨trivial, trivial⟩⟩⟩⟩⟩⟩⟩⟩⟩⟩
set_option maxRecDepth 100000 in
set_option maxHeartbeats 4000000 in
theorem n_X12_goEven : en_lkM (⟨"EvenStepsModel", "goEven", "(II)I"⟩, prog_14_method_62_code, 3, (some .int), p_X12_goEven) := (List.forall_mem_cons.mpr ⟨n_X12_goEven_0, (fun _ h => absurd h List.not_mem_nil)⟩)
set_option maxRecDepth 100000 in
set_option maxHeartbeats 4000000 in
theorem k_X12_go : en_ckM (⟨"EvenStepsModel", "go", "(II)I"⟩, prog_14_method_63_code, 3, (some .int), p_X12_go) = true := by decide +kernel
set_option maxRecDepth 100000 in
set_option maxHeartbeats 4000000 in
theorem n_X12_go_0 : en_lkC "EvenStepsModel" false [(.aload_n 0, 1, 0, 0, [], 0, 0), (.getfield 22, 3, 7, 2, [(11, 0)], 0, 0), (.iload_n 1, 1, 1, 0, [], 0, 0), (.iaload, 1, 0, 0, [], 0, 0), (.ifCond .ne 10, 3, 1, 0, [], 0, 0), (.aload_n 0, 1, 0, 0, [], 0, 0), (.iload_n 1, 1, 1, 0, [], 0, 0), (.iload_n 2, 1, 2, 0, [], 0, 0), (.invokevirtual 230, 3, 2, 0, [(11, 190)], 0, 0), (.ireturn, 1, 0, 0, [], 0, 0)] := ⟨trivial, ⟨lk_374, ⟨trivial, ⟨trivial, ⟨trivial, ⟨trivial, ⟨trivial, ⟨trivial, ⟨lk_413, ⟨trivial, trivial⟩⟩⟩⟩⟩⟩⟩⟩⟩⟩
set_option maxRecDepth 100000 in
set_option maxHeartbeats 4000000 in
theorem n_X12_go_1 : en_lkC "EvenStepsModel" false [(.aload_n 0, 1, 0, 0, [], 0, 0), (.getfield 22, 3, 7, 2, [(11, 0)], 0, 0), (.iload_n 1, 1, 1, 0, [], 0, 0), (.iaload, 1, 0, 0, [], 0, 0), (.iconst 3, 1, 0, 0, [], 3, 0), (.if_icmp .eq 10, 3, 2, 0, [], 0, 0), (.aload_n 0, 1, 0, 0, [], 0, 0), (.iload_n 1, 1, 1, 0, [], 0, 0), (.iload_n 2, 1, 2, 0, [], 0, 0), (.invokevirtual 233, 3, 2, 0, [(11, 191)], 0, 0), (.ireturn, 1, 0, 0, [], 0, 0)] := ⟨trivial, ⟨lk_374, ⟨trivial, ⟨trivial, ⟨trivial, ⟨trivial, ⟨trivial, ⟨trivial, ⟨trivial, ⟨lk_414, ⟨trivial, trivial⟩⟩⟩⟩⟩⟩⟩⟩⟩⟩⟩
set_option maxRecDepth 100000 in
set_option maxHeartbeats 4000000 in
theorem n_X12_go_2 : en_lkC "EvenStepsModel" false [(.aload_n 0, 1, 0, 0, [], 0, 0), (.bipush 40, 2, 0, 0, [], 40, 0), (.invokevirtual 224, 3, 1, 4, [(11, 188)], 0, 0), (.aload_n 0, 1, 0, 0, [], 0, 0), (.iload_n 1, 1, 1, 0, [], 0, 0), (.iload_n 2, 1, 2, 0, [], 0, 0), (.aload_n 0, 1, 0, 0, [], 0, 0), (.iload_n 1, 1, 1, 0, [], 0, 0), (.invokevirtual 227, 3, 1, 0, [(11, 189)], 0, 0), (.isub, 1, 0, 0, [], 0, 0), (.invokevirtual 230, 3, 2, 0, [(11, 190)], 0, 0), (.ireturn, 1, 0, 0, [], 0, 0)] := ⟨trivial, ⟨trivial, ⟨lk_411, ⟨trivial, ⟨trivial, ⟨trivial, ⟨trivial, ⟨trivial, ⟨lk_412, ⟨trivial, ⟨lk_413, ⟨trivial, trivial⟩⟩⟩⟩⟩⟩⟩⟩⟩⟩⟩⟩
set_option maxRecDepth 100000 in
set_option maxHeartbeats 4000000 in
theorem n_X12_go : en_lkM (⟨"EvenStepsModel", "go", "(II)I"⟩, prog_14_method_63_code, 3, (some .int), p_X12_go) := (List.forall_mem_cons.mpr ⟨n_X12_go_0, (List.forall_mem_cons.mpr ⟨n_X12_go_1, (List.forall_mem_cons.mpr ⟨n_X12_go_2, (fun _ h => absurd h List.not_mem_nil)⟩)⟩)⟩)
set_option maxRecDepth 100000 in
set_option maxHeartbeats 4000000 in
theorem k_X12_gapRow : en_ckM (⟨"EvenStepsModel", "gapRow", "(II)I"⟩, prog_14_method_64_code, 3, (some .int), p_X12_gapRow) = true := by decide +kernel
set_option maxRecDepth 100000 in
set_option maxHeartbeats 4000000 in
theorem n_X12_gapRow_0 : en_lkC "EvenStepsModel" false [(.aload_n 0, 1, 0, 0, [], 0, 0), (.bipush 11, 2, 0, 0, [], 11, 0), (.invokevirtual 224, 3, 1, 4, [(11, 188)], 0, 0), (.aload_n 0, 1, 0, 0, [], 0, 0), (.iload_n 1, 1, 1, 0, [], 0, 0), (.iload_n 2, 1, 2, 0, [], 0, 0), (.invokevirtual 236, 3, 2, 0, [(11, 192)], 0, 0), (.iconst 3, 1, 0, 0, [], 3, 0), (.imul, 1, 0, 0, [], 0, 0), (.ireturn, 1, 0, 0, [], 0, 0)] := ⟨trivial, ⟨trivial, ⟨lk_411, ⟨trivial, ⟨trivial, ⟨trivial, ⟨lk_415, ⟨trivial, ⟨trivial, ⟨trivial, trivial⟩⟩⟩⟩⟩⟩⟩⟩⟩⟩
set_option maxRecDepth 100000 in
set_option maxHeartbeats 4000000 in
theorem n_X12_gapRow : en_lkM (⟨"EvenStepsModel", "gapRow", "(II)I"⟩, prog_14_method_64_code, 3, (some .int), p_X12_gapRow) := (List.forall_mem_cons.mpr ⟨n_X12_gapRow_0, (fun _ h => absurd h List.not_mem_nil)⟩)
set_option maxRecDepth 100000 in
set_option maxHeartbeats 4000000 in
theorem k_X12_gapNow : en_ckM (⟨"EvenStepsModel", "gapNow", "(II)I"⟩, prog_14_method_65_code, 4, (some .int), p_X12_gapNow) = true := by decide +kernel
set_option maxRecDepth 100000 in
set_option maxHeartbeats 4000000 in
theorem n_X12_gapNow_0 : en_lkC "EvenStepsModel" false [(.aload_n 0, 1, 0, 0, [], 0, 0), (.getfield 22, 3, 7, 2, [(11, 0)], 0, 0), (.iload_n 1, 1, 1, 0, [], 0, 0), (.iaload, 1, 0, 0, [], 0, 0), (.iconst 2, 1, 0, 0, [], 2, 0), (.if_icmp .ne 18, 3, 1, 0, [], 0, 0), (.aload_n 0, 1, 0, 0, [], 0, 0), (.bipush 30, 2, 0, 0, [], 30, 0), (.invokevirtual 224, 3, 1, 4, [(11, 188)], 0, 0), (.aload_n 0, 1, 0, 0, [], 0, 0), (.iload_n 1, 1, 1, 0, [], 0, 0), (.iload_n 2, 1, 2, 0, [], 0, 0), (.iconst 1, 1, 0, 0, [], 1, 0), (.iadd, 1, 0, 0, [], 0, 0), (.invokevirtual 239, 3, 2, 0, [(11, 193)], 0, 0), (.ireturn, 1, 0, 0, [], 0, 0)] := ⟨trivial, ⟨lk_374, ⟨trivial, ⟨trivial, ⟨trivial, ⟨trivial, ⟨trivial, ⟨trivial, ⟨lk_411, ⟨trivial, ⟨trivial, ⟨trivial, ⟨trivial, ⟨trivial, ⟨lk_416, ⟨trivial, trivial⟩⟩⟩⟩⟩⟩⟩⟩⟩⟩⟩⟩⟩⟩⟩⟩
set_option maxRecDepth 100000 in
set_option maxHeartbeats 4000000 in
theorem n_X12_gapNow_1 : en_lkC "EvenStepsModel" false [(.aload_n 0, 1, 0, 0, [], 0, 0), (.getfield 22, 3, 7, 2, [(11, 0)], 0, 0), (.iload_n 1, 1, 1, 0, [], 0, 0), (.iaload, 1, 0, 0, [], 0, 0), (.iconst 4, 1, 0, 0, [], 4, 0), (.if_icmp .eq 10, 3, 2, 0, [], 0, 0), (.aload_n 0, 1, 0, 0, [], 0, 0), (.iload_n 1, 1, 1, 0, [], 0, 0), (.iload_n 2, 1, 2, 0, [], 0, 0), (.invokevirtual 239, 3, 2, 0, [(11, 193)], 0, 0), (.ireturn, 1, 0, 0, [], 0, 0)] := ⟨trivial, ⟨lk_374, ⟨trivial, ⟨trivial, ⟨trivial, ⟨trivial, ⟨trivial, ⟨trivial, ⟨trivial, ⟨lk_416, ⟨trivial, trivial⟩⟩⟩⟩⟩⟩⟩⟩⟩⟩⟩
set_option maxRecDepth 100000 in
set_option maxHeartbeats 4000000 in
theorem n_X12_gapNow_2 : en_lkC "EvenStepsModel" false [(.aload_n 0, 1, 0, 0, [], 0, 0), (.bipush 51, 2, 0, 0, [], 51, 0), (.invokevirtual 224, 3, 1, 4, [(11, 188)], 0, 0), (.aload_n 0, 1, 0, 0, [], 0, 0), (.iload_n 1, 1, 1, 0, [], 0, 0), (.iload_n 2, 1, 2, 0, [], 0, 0), (.invokevirtual 239, 3, 2, 0, [(11, 193)], 0, 0), (.istore_n 3, 1, 3, 0, [], 0, 0), (.iload_n 3, 1, 3, 0, [], 0, 0), (.aload_n 0, 1, 0, 0, [], 0, 0), (.iload_n 1, 1, 1, 0, [], 0, 0), (.iload_n 2, 1, 2, 0, [], 0, 0), (.invokevirtual 233, 3, 2, 0, [(11, 191)], 0, 0), (.iadd, 1, 0, 0, [], 0, 0), (.ireturn, 1, 0, 0, [], 0, 0)] := ⟨trivial, ⟨trivial, ⟨lk_411, ⟨trivial, ⟨trivial, ⟨trivial, ⟨lk_416, ⟨trivial, ⟨trivial, ⟨trivial, ⟨trivial, ⟨trivial, ⟨lk_414, ⟨trivial, ⟨trivial, trivial⟩⟩⟩⟩⟩⟩⟩⟩⟩⟩⟩⟩⟩⟩⟩
set_option maxRecDepth 100000 in
set_option maxHeartbeats 4000000 in
theorem n_X12_gapNow : en_lkM (⟨"EvenStepsModel", "gapNow", "(II)I"⟩, prog_14_method_65_code, 4, (some .int), p_X12_gapNow) := (List.forall_mem_cons.mpr ⟨n_X12_gapNow_0, (List.forall_mem_cons.mpr ⟨n_X12_gapNow_1, (List.forall_mem_cons.mpr ⟨n_X12_gapNow_2, (fun _ h => absurd h List.not_mem_nil)⟩)⟩)⟩)
set_option maxRecDepth 100000 in
set_option maxHeartbeats 4000000 in
theorem k_X12_growRow : en_ckM (⟨"EvenStepsModel", "growRow", "(II)I"⟩, prog_14_method_66_code, 3, (some .int), p_X12_growRow) = true := by decide +kernel
set_option maxRecDepth 100000 in
set_option maxHeartbeats 4000000 in
theorem n_X12_growRow_0 : en_lkC "EvenStepsModel" false [(.aload_n 0, 1, 0, 0, [], 0, 0), (.bipush 12, 2, 0, 0, [], 12, 0), (.invokevirtual 224, 3, 1, 4, [(11, 188)], 0, 0), (.iload_n 2, 1, 2, 0, [], 0, 0), (.iload_n 1, 1, 1, 0, [], 0, 0), (.isub, 1, 0, 0, [], 0, 0), (.ireturn, 1, 0, 0, [], 0, 0)] := ⟨trivial, ⟨trivial, ⟨lk_411, ⟨trivial, ⟨trivial, ⟨trivial, ⟨trivial, trivial⟩⟩⟩⟩⟩⟩⟩
set_option maxRecDepth 100000 in
set_option maxHeartbeats 4000000 in
theorem n_X12_growRow : en_lkM (⟨"EvenStepsModel", "growRow", "(II)I"⟩, prog_14_method_66_code, 3, (some .int), p_X12_growRow) := (List.forall_mem_cons.mpr ⟨n_X12_growRow_0, (fun _ h => absurd h List.not_mem_nil)⟩)
set_option maxRecDepth 100000 in
set_option maxHeartbeats 4000000 in
theorem k_X12_growEven : en_ckM (⟨"EvenStepsModel", "growEven", "(II)I"⟩, prog_14_method_67_code, 3, (some .int), p_X12_growEven) = true := by decide +kernel
set_option maxRecDepth 100000 in
set_option maxHeartbeats 4000000 in
theorem n_X12_growEven_0 : en_lkC "EvenStepsModel" false [(.aload_n 0, 1, 0, 0, [], 0, 0), (.bipush 21, 2, 0, 0, [], 21, 0), (.invokevirtual 224, 3, 1, 4, [(11, 188)], 0, 0), (.aload_n 0, 1, 0, 0, [], 0, 0), (.iload_n 1, 1, 1, 0, [], 0, 0), (.iload_n 2, 1, 2, 0, [], 0, 0), (.invokevirtual 242, 3, 2, 0, [(11, 195)], 0, 0), (.bipush 7, 2, 0, 0, [], 7, 0), (.iadd, 1, 0, 0, [], 0, 0), (.ireturn, 1, 0, 0, [], 0, 0)] := ⟨trivial, ⟨trivial, ⟨lk_411, ⟨trivial, ⟨trivial, ⟨trivial, ⟨lk_417, ⟨trivial, ⟨trivial, ⟨trivial, trivial⟩⟩⟩⟩⟩⟩⟩⟩⟩⟩
set_option maxRecDepth 100000 in
set_option maxHeartbeats 4000000 in
theorem n_X12_growEven : en_lkM (⟨"EvenStepsModel", "growEven", "(II)I"⟩, prog_14_method_67_code, 3, (some .int), p_X12_growEven) := (List.forall_mem_cons.mpr ⟨n_X12_growEven_0, (fun _ h => absurd h List.not_mem_nil)⟩)
set_option maxRecDepth 100000 in
set_option maxHeartbeats 4000000 in
theorem k_X12_grow : en_ckM (⟨"EvenStepsModel", "grow", "(II)I"⟩, prog_14_method_68_code, 3, (some .int), p_X12_grow) = true := by decide +kernel
set_option maxRecDepth 100000 in
set_option maxHeartbeats 4000000 in
theorem n_X12_grow_0 : en_lkC "EvenStepsModel" false [(.aload_n 0, 1, 0, 0, [], 0, 0), (.getfield 22, 3, 7, 2, [(11, 0)], 0, 0), (.iload_n 1, 1, 1, 0, [], 0, 0), (.iaload, 1, 0, 0, [], 0, 0), (.ifCond .ne 10, 3, 1, 0, [], 0, 0), (.aload_n 0, 1, 0, 0, [], 0, 0), (.iload_n 1, 1, 1, 0, [], 0, 0), (.iload_n 2, 1, 2, 0, [], 0, 0), (.invokevirtual 242, 3, 2, 0, [(11, 195)], 0, 0), (.ireturn, 1, 0, 0, [], 0, 0)] := ⟨trivial, ⟨lk_374, ⟨trivial, ⟨trivial, ⟨trivial, ⟨trivial, ⟨trivial, ⟨trivial, ⟨lk_417, ⟨trivial, trivial⟩⟩⟩⟩⟩⟩⟩⟩⟩⟩
set_option maxRecDepth 100000 in
set_option maxHeartbeats 4000000 in
theorem n_X12_grow_1 : en_lkC "EvenStepsModel" false [(.aload_n 0, 1, 0, 0, [], 0, 0), (.getfield 22, 3, 7, 2, [(11, 0)], 0, 0), (.iload_n 1, 1, 1, 0, [], 0, 0), (.iaload, 1, 0, 0, [], 0, 0), (.iconst 1, 1, 0, 0, [], 1, 0), (.if_icmp .eq 13, 3, 2, 0, [], 0, 0), (.aload_n 0, 1, 0, 0, [], 0, 0), (.getfield 22, 3, 7, 2, [(11, 0)], 0, 0), (.iload_n 1, 1, 1, 0, [], 0, 0), (.iaload, 1, 0, 0, [], 0, 0), (.iconst 2, 1, 0, 0, [], 2, 0), (.if_icmp .ne 10, 3, 3, 0, [], 0, 0)] := ⟨trivial, ⟨lk_374, ⟨trivial, ⟨trivial, ⟨trivial, ⟨trivial, ⟨trivial, ⟨lk_374, ⟨trivial, ⟨trivial, ⟨trivial, ⟨trivial, trivial⟩⟩⟩⟩⟩⟩⟩⟩⟩⟩⟩⟩
set_option maxRecDepth 100000 in
set_option maxHeartbeats 4000000 in
theorem n_X12_grow_2 : en_lkC "EvenStepsModel" false [(.aload_n 0, 1, 0, 0, [], 0, 0), (.iload_n 1, 1, 1, 0, [], 0, 0), (.iload_n 2, 1, 2, 0, [], 0, 0), (.invokevirtual 245, 3, 2, 0, [(11, 196)], 0, 0), (.ireturn, 1, 0, 0, [], 0, 0)] := ⟨trivial, ⟨trivial, ⟨trivial, ⟨lk_418, ⟨trivial, trivial⟩⟩⟩⟩⟩
set_option maxRecDepth 100000 in
set_option maxHeartbeats 4000000 in
theorem n_X12_grow_3 : en_lkC "EvenStepsModel" false [(.aload_n 0, 1, 0, 0, [], 0, 0), (.getfield 22, 3, 7, 2, [(11, 0)], 0, 0), (.iload_n 1, 1, 1, 0, [], 0, 0), (.iaload, 1, 0, 0, [], 0, 0), (.iconst 3, 1, 0, 0, [], 3, 0), (.if_icmp .ne 18, 3, 4, 0, [], 0, 0), (.aload_n 0, 1, 0, 0, [], 0, 0), (.bipush 41, 2, 0, 0, [], 41, 0), (.invokevirtual 224, 3, 1, 4, [(11, 188)], 0, 0), (.aload_n 0, 1, 0, 0, [], 0, 0), (.iload_n 1, 1, 1, 0, [], 0, 0), (.iload_n 2, 1, 2, 0, [], 0, 0), (.invokevirtual 242, 3, 2, 0, [(11, 195)], 0, 0), (.iconst 5, 1, 0, 0, [], 5, 0), (.imul, 1, 0, 0, [], 0, 0), (.ireturn, 1, 0, 0, [], 0, 0)] := ⟨trivial, ⟨lk_374, ⟨trivial, ⟨trivial, ⟨trivial, ⟨trivial, ⟨trivial, ⟨trivial, ⟨lk_411, ⟨trivial, ⟨trivial, ⟨trivial, ⟨lk_417, ⟨trivial, ⟨trivial, ⟨trivial, trivial⟩⟩⟩⟩⟩⟩⟩⟩⟩⟩⟩⟩⟩⟩⟩⟩
set_option maxRecDepth 100000 in
set_option maxHeartbeats 4000000 in
theorem n_X12_grow_4 : en_lkC "EvenStepsModel" false [(.aload_n 0, 1, 0, 0, [], 0, 0), (.bipush 50, 2, 0, 0, [], 50, 0), (.invokevirtual 224, 3, 1, 4, [(11, 188)], 0, 0), (.aload_n 0, 1, 0, 0, [], 0, 0), (.iload_n 1, 1, 1, 0, [], 0, 0), (.iload_n 2, 1, 2, 0, [], 0, 0), (.invokevirtual 245, 3, 2, 0, [(11, 196)], 0, 0), (.bipush 9, 2, 0, 0, [], 9, 0), (.ixor, 1, 0, 0, [], 0, 0), (.ireturn, 1, 0, 0, [], 0, 0)] := ⟨trivial, ⟨trivial, ⟨lk_411, ⟨trivial, ⟨trivial, ⟨trivial, ⟨lk_418, ⟨trivial, ⟨trivial, ⟨trivial, trivial⟩⟩⟩⟩⟩⟩⟩⟩⟩⟩
set_option maxRecDepth 100000 in
set_option maxHeartbeats 4000000 in
theorem n_X12_grow : en_lkM (⟨"EvenStepsModel", "grow", "(II)I"⟩, prog_14_method_68_code, 3, (some .int), p_X12_grow) := (List.forall_mem_cons.mpr ⟨n_X12_grow_0, (List.forall_mem_cons.mpr ⟨n_X12_grow_1, (List.forall_mem_cons.mpr ⟨n_X12_grow_2, (List.forall_mem_cons.mpr ⟨n_X12_grow_3, (List.forall_mem_cons.mpr ⟨n_X12_grow_4, (fun _ h => absurd h List.not_mem_nil)⟩)⟩)⟩)⟩)⟩)
set_option maxRecDepth 100000 in
set_option maxHeartbeats 4000000 in
theorem k_X12_tellRow : en_ckM (⟨"EvenStepsModel", "tellRow", "(II)I"⟩, prog_14_method_69_code, 4, (some .int), p_X12_tellRow) = true := by decide +kernel
set_option maxRecDepth 100000 in
set_option maxHeartbeats 4000000 in
theorem n_X12_tellRow_0 : en_lkC "EvenStepsModel" false [(.aload_n 0, 1, 0, 0, [], 0, 0), (.bipush 13, 2, 0, 0, [], 13, 0), (.invokevirtual 224, 3, 1, 4, [(11, 188)], 0, 0), (.aload_n 0, 1, 0, 0, [], 0, 0), (.iload_n 1, 1, 1, 0, [], 0, 0), (.iload_n 2, 1, 2, 0, [], 0, 0), (.invokevirtual 248, 3, 2, 0, [(11, 194)], 0, 0), (.istore_n 3, 1, 3, 0, [], 0, 0), (.iload_n 3, 1, 3, 0, [], 0, 0), (.aload_n 0, 1, 0, 0, [], 0, 0), (.iload_n 1, 1, 1, 0, [], 0, 0), (.iload_n 2, 1, 2, 0, [], 0, 0), (.invokevirtual 251, 3, 2, 0, [(11, 197)], 0, 0), (.ixor, 1, 0, 0, [], 0, 0), (.ireturn, 1, 0, 0, [], 0, 0)] := ⟨trivial, ⟨trivial, ⟨lk_411, ⟨trivial, ⟨trivial, ⟨trivial, ⟨lk_419, ⟨trivial, ⟨trivial, ⟨trivial, ⟨trivial, ⟨trivial, ⟨lk_420, ⟨trivial, ⟨trivial, trivial⟩⟩⟩⟩⟩⟩⟩⟩⟩⟩⟩⟩⟩⟩⟩
set_option maxRecDepth 100000 in
set_option maxHeartbeats 4000000 in
theorem n_X12_tellRow : en_lkM (⟨"EvenStepsModel", "tellRow", "(II)I"⟩, prog_14_method_69_code, 4, (some .int), p_X12_tellRow) := (List.forall_mem_cons.mpr ⟨n_X12_tellRow_0, (fun _ h => absurd h List.not_mem_nil)⟩)
set_option maxRecDepth 100000 in
set_option maxHeartbeats 4000000 in
theorem k_X12_tell : en_ckM (⟨"EvenStepsModel", "tell", "(II)I"⟩, prog_14_method_70_code, 4, (some .int), p_X12_tell) = true := by decide +kernel
set_option maxRecDepth 100000 in
set_option maxHeartbeats 4000000 in
theorem n_X12_tell_0 : en_lkC "EvenStepsModel" false [(.aload_n 0, 1, 0, 0, [], 0, 0), (.getfield 22, 3, 7, 2, [(11, 0)], 0, 0), (.iload_n 1, 1, 1, 0, [], 0, 0), (.iaload, 1, 0, 0, [], 0, 0), (.iconst 2, 1, 0, 0, [], 2, 0), (.if_icmp .eq 10, 3, 1, 0, [], 0, 0), (.aload_n 0, 1, 0, 0, [], 0, 0), (.iload_n 1, 1, 1, 0, [], 0, 0), (.iload_n 2, 1, 2, 0, [], 0, 0), (.invokevirtual 254, 3, 2, 0, [(11, 198)], 0, 0), (.ireturn, 1, 0, 0, [], 0, 0)] := ⟨trivial, ⟨lk_374, ⟨trivial, ⟨trivial, ⟨trivial, ⟨trivial, ⟨trivial, ⟨trivial, ⟨trivial, ⟨lk_421, ⟨trivial, trivial⟩⟩⟩⟩⟩⟩⟩⟩⟩⟩⟩
set_option maxRecDepth 100000 in
set_option maxHeartbeats 4000000 in
theorem n_X12_tell_1 : en_lkC "EvenStepsModel" false [(.aload_n 0, 1, 0, 0, [], 0, 0), (.bipush 31, 2, 0, 0, [], 31, 0), (.invokevirtual 224, 3, 1, 4, [(11, 188)], 0, 0), (.aload_n 0, 1, 0, 0, [], 0, 0), (.iload_n 1, 1, 1, 0, [], 0, 0), (.iload_n 2, 1, 2, 0, [], 0, 0), (.invokevirtual 254, 3, 2, 0, [(11, 198)], 0, 0), (.istore_n 3, 1, 3, 0, [], 0, 0), (.iload_n 3, 1, 3, 0, [], 0, 0), (.aload_n 0, 1, 0, 0, [], 0, 0), (.iload_n 1, 1, 1, 0, [], 0, 0), (.iload_n 2, 1, 2, 0, [], 0, 0), (.invokevirtual 251, 3, 2, 0, [(11, 197)], 0, 0), (.isub, 1, 0, 0, [], 0, 0), (.ireturn, 1, 0, 0, [], 0, 0)] := ⟨trivial, ⟨trivial, ⟨lk_411, ⟨trivial, ⟨trivial, ⟨trivial, ⟨lk_421, ⟨trivial, ⟨trivial, ⟨trivial, ⟨trivial, ⟨trivial, ⟨lk_420, ⟨trivial, ⟨trivial, trivial⟩⟩⟩⟩⟩⟩⟩⟩⟩⟩⟩⟩⟩⟩⟩
set_option maxRecDepth 100000 in
set_option maxHeartbeats 4000000 in
theorem n_X12_tell : en_lkM (⟨"EvenStepsModel", "tell", "(II)I"⟩, prog_14_method_70_code, 4, (some .int), p_X12_tell) := (List.forall_mem_cons.mpr ⟨n_X12_tell_0, (List.forall_mem_cons.mpr ⟨n_X12_tell_1, (fun _ h => absurd h List.not_mem_nil)⟩)⟩)
set_option maxRecDepth 100000 in
set_option maxHeartbeats 4000000 in
theorem k_X12_act : en_ckM (⟨"EvenStepsModel", "act", "(III)I"⟩, prog_14_method_71_code, 4, (some .int), p_X12_act) = true := by decide +kernel
set_option maxRecDepth 100000 in
set_option maxHeartbeats 4000000 in
theorem n_X12_act_0 : en_lkC "EvenStepsModel" false [(.aload_n 0, 1, 0, 0, [], 0, 0), (.iload_n 1, 1, 1, 0, [], 0, 0), (.invokevirtual 162, 3, 1, 3, [(11, 152)], 0, 0), (.ifCond .eq 12, 3, 1, 0, [], 0, 0), (.iload_n 2, 1, 2, 0, [], 0, 0), (.iconst 0, 1, 0, 0, [], 0, 0), (.iconst 3, 1, 0, 0, [], 3, 0), (.invokestatic 99, 3, 3, 3, [(0, 133)], 0, 0), (.ifCond .ne 9, 3, 2, 0, [], 0, 0)] := ⟨trivial, ⟨trivial, ⟨lk_378, ⟨trivial, ⟨trivial, ⟨trivial, ⟨trivial, ⟨lk_342, ⟨trivial, trivial⟩⟩⟩⟩⟩⟩⟩⟩⟩
set_option maxRecDepth 100000 in
set_option maxHeartbeats 4000000 in
theorem n_X12_act_1 : en_lkC "EvenStepsModel" false [(.aload_n 0, 1, 0, 0, [], 0, 0), (.iconst 1, 1, 0, 0, [], 1, 0), (.invokevirtual 103, 3, 1, 0, [(11, 131)], 0, 0), (.ireturn, 1, 0, 0, [], 0, 0)] := ⟨trivial, ⟨trivial, ⟨lk_343, ⟨trivial, trivial⟩⟩⟩⟩
set_option maxRecDepth 100000 in
set_option maxHeartbeats 4000000 in
theorem n_X12_act_2 : en_lkC "EvenStepsModel" false [(.aload_n 0, 1, 0, 0, [], 0, 0), (.iconst 0, 1, 0, 0, [], 0, 0), (.putfield 165, 3, 15, 0, [(11, 0)], 0, 0), (.aload_n 0, 1, 0, 0, [], 0, 0), (.iload_n 2, 1, 2, 0, [], 0, 0), (.ifCond .ne 12, 3, 3, 0, [], 0, 0), (.aload_n 0, 1, 0, 0, [], 0, 0), (.iload_n 1, 1, 1, 0, [], 0, 0), (.iload_n 3, 1, 3, 0, [], 0, 0), (.invokevirtual 236, 3, 2, 0, [(11, 192)], 0, 0), (.goto 37, 3, 6, 0, [], 0, 0)] := ⟨trivial, ⟨trivial, ⟨lk_410, ⟨trivial, ⟨trivial, ⟨trivial, ⟨trivial, ⟨trivial, ⟨trivial, ⟨lk_415, ⟨trivial, trivial⟩⟩⟩⟩⟩⟩⟩⟩⟩⟩⟩
set_option maxRecDepth 100000 in
set_option maxHeartbeats 4000000 in
theorem n_X12_act_3 : en_lkC "EvenStepsModel" false [(.iload_n 2, 1, 2, 0, [], 0, 0), (.iconst 1, 1, 0, 0, [], 1, 0), (.if_icmp .ne 12, 3, 4, 0, [], 0, 0), (.aload_n 0, 1, 0, 0, [], 0, 0), (.iload_n 1, 1, 1, 0, [], 0, 0), (.iload_n 3, 1, 3, 0, [], 0, 0), (.invokevirtual 248, 3, 2, 0, [(11, 194)], 0, 0), (.goto 23, 3, 6, 0, [], 0, 0)] := ⟨trivial, ⟨trivial, ⟨trivial, ⟨trivial, ⟨trivial, ⟨trivial, ⟨lk_419, ⟨trivial, trivial⟩⟩⟩⟩⟩⟩⟩⟩
set_option maxRecDepth 100000 in
set_option maxHeartbeats 4000000 in
theorem n_X12_act_4 : en_lkC "EvenStepsModel" false [(.iload_n 2, 1, 2, 0, [], 0, 0), (.iconst 2, 1, 0, 0, [], 2, 0), (.if_icmp .ne 12, 3, 5, 0, [], 0, 0), (.aload_n 0, 1, 0, 0, [], 0, 0), (.iload_n 1, 1, 1, 0, [], 0, 0), (.iload_n 3, 1, 3, 0, [], 0, 0), (.invokevirtual 251, 3, 2, 0, [(11, 197)], 0, 0), (.goto 9, 3, 6, 0, [], 0, 0)] := ⟨trivial, ⟨trivial, ⟨trivial, ⟨trivial, ⟨trivial, ⟨trivial, ⟨lk_420, ⟨trivial, trivial⟩⟩⟩⟩⟩⟩⟩⟩
set_option maxRecDepth 100000 in
set_option maxHeartbeats 4000000 in
theorem n_X12_act_5 : en_lkC "EvenStepsModel" false [(.aload_n 0, 1, 0, 0, [], 0, 0), (.iload_n 1, 1, 1, 0, [], 0, 0), (.iload_n 3, 1, 3, 0, [], 0, 0), (.invokevirtual 257, 3, 2, 0, [(11, 199)], 0, 0)] := ⟨trivial, ⟨trivial, ⟨trivial, ⟨lk_422, trivial⟩⟩⟩⟩
set_option maxRecDepth 100000 in
set_option maxHeartbeats 4000000 in
theorem n_X12_act_6 : en_lkC "EvenStepsModel" false [(.invokevirtual 111, 3, 1, 0, [(11, 132)], 0, 0), (.ireturn, 1, 0, 0, [], 0, 0)] := ⟨lk_346, ⟨trivial, trivial⟩⟩
set_option maxRecDepth 100000 in
set_option maxHeartbeats 4000000 in
theorem n_X12_act : en_lkM (⟨"EvenStepsModel", "act", "(III)I"⟩, prog_14_method_71_code, 4, (some .int), p_X12_act) := (List.forall_mem_cons.mpr ⟨n_X12_act_0, (List.forall_mem_cons.mpr ⟨n_X12_act_1, (List.forall_mem_cons.mpr ⟨n_X12_act_2, (List.forall_mem_cons.mpr ⟨n_X12_act_3, (List.forall_mem_cons.mpr ⟨n_X12_act_4, (List.forall_mem_cons.mpr ⟨n_X12_act_5, (List.forall_mem_cons.mpr ⟨n_X12_act_6, (fun _ h => absurd h List.not_mem_nil)⟩)⟩)⟩)⟩)⟩)⟩)⟩)
set_option maxRecDepth 100000 in
set_option maxHeartbeats 4000000 in
theorem k_X12_trace : en_ckM (⟨"EvenStepsModel", "trace", "(I)I"⟩, prog_14_method_72_code, 2, (some .int), p_X12_trace) = true := by decide +kernel
set_option maxRecDepth 100000 in
set_option maxHeartbeats 4000000 in
theorem n_X12_trace_0 : en_lkC "EvenStepsModel" false [(.iload_n 1, 1, 1, 0, [], 0, 0), (.iconst 0, 1, 0, 0, [], 0, 0), (.aload_n 0, 1, 0, 0, [], 0, 0), (.getfield 165, 3, 15, 0, [(11, 0)], 0, 0), (.iconst 1, 1, 0, 0, [], 1, 0), (.isub, 1, 0, 0, [], 0, 0), (.invokestatic 99, 3, 3, 3, [(0, 133)], 0, 0), (.ifCond .eq 18, 3, 1, 0, [], 0, 0), (.iload_n 1, 1, 1, 0, [], 0, 0), (.bipush 50, 2, 0, 0, [], 50, 0), (.if_icmp .ge 12, 3, 1, 0, [], 0, 0), (.aload_n 0, 1, 0, 0, [], 0, 0), (.getfield 44, 3, 14, 2, [(11, 0)], 0, 0), (.iload_n 1, 1, 1, 0, [], 0, 0), (.iaload, 1, 0, 0, [], 0, 0), (.goto 4, 3, 2, 0, [], 0, 0)] := ⟨trivial, ⟨trivial, ⟨trivial, ⟨lk_379, ⟨trivial, ⟨trivial, ⟨lk_342, ⟨trivial, ⟨trivial, ⟨trivial, ⟨trivial, ⟨trivial, ⟨lk_409, ⟨trivial, ⟨trivial, ⟨trivial, trivial⟩⟩⟩⟩⟩⟩⟩⟩⟩⟩⟩⟩⟩⟩⟩⟩
set_option maxRecDepth 100000 in
set_option maxHeartbeats 4000000 in
theorem n_X12_trace_1 : en_lkC "EvenStepsModel" false [(.iconst (-1), 1, 0, 0, [], (-1), 0)] := ⟨trivial, trivial⟩
set_option maxRecDepth 100000 in
set_option maxHeartbeats 4000000 in
theorem n_X12_trace_2 : en_lkC "EvenStepsModel" false [(.ireturn, 1, 0, 0, [], 0, 0)] := ⟨trivial, trivial⟩
set_option maxRecDepth 100000 in
set_option maxHeartbeats 4000000 in
theorem n_X12_trace : en_lkM (⟨"EvenStepsModel", "trace", "(I)I"⟩, prog_14_method_72_code, 2, (some .int), p_X12_trace) := (List.forall_mem_cons.mpr ⟨n_X12_trace_0, (List.forall_mem_cons.mpr ⟨n_X12_trace_1, (List.forall_mem_cons.mpr ⟨n_X12_trace_2, (fun _ h => absurd h List.not_mem_nil)⟩)⟩)⟩)
set_option maxRecDepth 100000 in
set_option maxHeartbeats 4000000 in
theorem k_X12_sheet : en_ckM (⟨"EvenStepsModel", "sheet", "(III)I"⟩, prog_14_method_73_code, 5, (some .int), p_X12_sheet) = true := by decide +kernel
set_option maxRecDepth 100000 in
set_option maxHeartbeats 4000000 in
theorem n_X12_sheet_0 : en_lkC "EvenStepsModel" false [(.iload_n 1, 1, 1, 0, [], 0, 0), (.iconst 0, 1, 0, 0, [], 0, 0), (.iconst 3, 1, 0, 0, [], 3, 0), (.invokestatic 99, 3, 3, 3, [(0, 133)], 0, 0), (.ifCond .eq 27, 3, 1, 0, [], 0, 0), (.iload_n 2, 1, 2, 0, [], 0, 0), (.iconst (-1), 1, 0, 0, [], (-1), 0), (.iconst 2, 1, 0, 0, [], 2, 0), (.invokestatic 99, 3, 3, 3, [(0, 133)], 0, 0), (.ifCond .eq 18, 3, 1, 0, [], 0, 0), (.iload_n 2, 1, 2, 0, [], 0, 0), (.iconst (-1), 1, 0, 0, [], (-1), 0), (.if_icmp .eq 19, 3, 2, 0, [], 0, 0), (.iload_n 3, 1, 3, 0, [], 0, 0), (.iconst 0, 1, 0, 0, [], 0, 0), (.bipush 40, 2, 0, 0, [], 40, 0), (.invokestatic 99, 3, 3, 3, [(0, 133)], 0, 0), (.ifCond .ne 9, 3, 2, 0, [], 0, 0)] := ⟨trivial, ⟨trivial, ⟨trivial, ⟨lk_342, ⟨trivial, ⟨trivial, ⟨trivial, ⟨trivial, ⟨lk_342, ⟨trivial, ⟨trivial, ⟨trivial, ⟨trivial, ⟨trivial, ⟨trivial, ⟨trivial, ⟨lk_342, ⟨trivial, trivial⟩⟩⟩⟩⟩⟩⟩⟩⟩⟩⟩⟩⟩⟩⟩⟩⟩⟩
set_option maxRecDepth 100000 in
set_option maxHeartbeats 4000000 in
theorem n_X12_sheet_1 : en_lkC "EvenStepsModel" false [(.aload_n 0, 1, 0, 0, [], 0, 0), (.iconst 1, 1, 0, 0, [], 1, 0), (.invokevirtual 103, 3, 1, 0, [(11, 131)], 0, 0), (.ireturn, 1, 0, 0, [], 0, 0)] := ⟨trivial, ⟨trivial, ⟨lk_343, ⟨trivial, trivial⟩⟩⟩⟩
set_option maxRecDepth 100000 in
set_option maxHeartbeats 4000000 in
theorem n_X12_sheet_2 : en_lkC "EvenStepsModel" false [(.aload_n 0, 1, 0, 0, [], 0, 0), (.getfield 35, 3, 11, 2, [(11, 0)], 0, 0), (.iload_n 1, 1, 1, 0, [], 0, 0), (.iload_n 2, 1, 2, 0, [], 0, 0), (.iastore, 1, 0, 0, [], 0, 0), (.aload_n 0, 1, 0, 0, [], 0, 0), (.getfield 38, 3, 12, 2, [(11, 0)], 0, 0), (.iload_n 1, 1, 1, 0, [], 0, 0), (.iload_n 2, 1, 2, 0, [], 0, 0), (.iconst (-1), 1, 0, 0, [], (-1), 0), (.if_icmp .ne 7, 3, 3, 0, [], 0, 0), (.iconst 0, 1, 0, 0, [], 0, 0), (.goto 4, 3, 4, 0, [], 0, 0)] := ⟨trivial, ⟨lk_369, ⟨trivial, ⟨trivial, ⟨trivial, ⟨trivial, ⟨lk_370, ⟨trivial, ⟨trivial, ⟨trivial, ⟨trivial, ⟨trivial, ⟨trivial, trivial⟩⟩⟩⟩⟩⟩⟩⟩⟩⟩⟩⟩⟩
set_option maxRecDepth 100000 in
set_option maxHeartbeats 4000000 in
theorem n_X12_sheet_3 : en_lkC "EvenStepsModel" false [(.iload_n 3, 1, 3, 0, [], 0, 0)] := ⟨trivial, trivial⟩
set_option maxRecDepth 100000 in
set_option maxHeartbeats 4000000 in
theorem n_X12_sheet_4 : en_lkC "EvenStepsModel" false [(.iastore, 1, 0, 0, [], 0, 0), (.iconst 0, 1, 0, 0, [], 0, 0), (.istore 4, 2, 4, 0, [], 0, 0)] := ⟨trivial, ⟨trivial, ⟨trivial, trivial⟩⟩⟩
set_option maxRecDepth 100000 in
set_option maxHeartbeats 4000000 in
theorem n_X12_sheet_5 : en_lkC "EvenStepsModel" false [(.iload 4, 2, 4, 0, [], 0, 0), (.bipush 40, 2, 0, 0, [], 40, 0), (.if_icmp .ge 22, 3, 6, 0, [], 0, 0), (.aload_n 0, 1, 0, 0, [], 0, 0), (.getfield 41, 3, 13, 2, [(11, 0)], 0, 0), (.bipush 40, 2, 0, 0, [], 40, 0), (.iload_n 1, 1, 1, 0, [], 0, 0), (.imul, 1, 0, 0, [], 0, 0), (.iload 4, 2, 4, 0, [], 0, 0), (.iadd, 1, 0, 0, [], 0, 0), (.iconst 0, 1, 0, 0, [], 0, 0), (.iastore, 1, 0, 0, [], 0, 0), (.iinc 4 1, 3, 4, 0, [], 1, 0), (.goto (-23), 3, 5, 0, [], 0, 0)] := ⟨trivial, ⟨trivial, ⟨trivial, ⟨trivial, ⟨lk_371, ⟨trivial, ⟨trivial, ⟨trivial, ⟨trivial, ⟨trivial, ⟨trivial, ⟨trivial, ⟨trivial, ⟨trivial, trivial⟩⟩⟩⟩⟩⟩⟩⟩⟩⟩⟩⟩⟩⟩
set_option maxRecDepth 100000 in
set_option maxHeartbeats 4000000 in
theorem n_X12_sheet_6 : en_lkC "EvenStepsModel" false [(.aload_n 0, 1, 0, 0, [], 0, 0), (.iconst 1, 1, 0, 0, [], 1, 0), (.invokevirtual 111, 3, 1, 0, [(11, 132)], 0, 0), (.ireturn, 1, 0, 0, [], 0, 0)] := ⟨trivial, ⟨trivial, ⟨lk_346, ⟨trivial, trivial⟩⟩⟩⟩
set_option maxRecDepth 100000 in
set_option maxHeartbeats 4000000 in
theorem n_X12_sheet : en_lkM (⟨"EvenStepsModel", "sheet", "(III)I"⟩, prog_14_method_73_code, 5, (some .int), p_X12_sheet) := (List.forall_mem_cons.mpr ⟨n_X12_sheet_0, (List.forall_mem_cons.mpr ⟨n_X12_sheet_1, (List.forall_mem_cons.mpr ⟨n_X12_sheet_2, (List.forall_mem_cons.mpr ⟨n_X12_sheet_3, (List.forall_mem_cons.mpr ⟨n_X12_sheet_4, (List.forall_mem_cons.mpr ⟨n_X12_sheet_5, (List.forall_mem_cons.mpr ⟨n_X12_sheet_6, (fun _ h => absurd h List.not_mem_nil)⟩)⟩)⟩)⟩)⟩)⟩)⟩)
set_option maxRecDepth 100000 in
set_option maxHeartbeats 4000000 in
theorem k_X12_cell : en_ckM (⟨"EvenStepsModel", "cell", "(III)I"⟩, prog_14_method_74_code, 4, (some .int), p_X12_cell) = true := by decide +kernel
set_option maxRecDepth 100000 in
set_option maxHeartbeats 4000000 in
theorem n_X12_cell_0 : en_lkC "EvenStepsModel" false [(.iload_n 1, 1, 1, 0, [], 0, 0), (.iconst 0, 1, 0, 0, [], 0, 0), (.iconst 3, 1, 0, 0, [], 3, 0), (.invokestatic 99, 3, 3, 3, [(0, 133)], 0, 0), (.ifCond .eq 14, 3, 1, 0, [], 0, 0), (.iload_n 3, 1, 3, 0, [], 0, 0), (.bipush (-100), 2, 0, 0, [], (-100), 0), (.bipush 100, 2, 0, 0, [], 100, 0), (.invokestatic 99, 3, 3, 3, [(0, 133)], 0, 0), (.ifCond .ne 9, 3, 2, 0, [], 0, 0)] := ⟨trivial, ⟨trivial, ⟨trivial, ⟨lk_342, ⟨trivial, ⟨trivial, ⟨trivial, ⟨trivial, ⟨lk_342, ⟨trivial, trivial⟩⟩⟩⟩⟩⟩⟩⟩⟩⟩
set_option maxRecDepth 100000 in
set_option maxHeartbeats 4000000 in
theorem n_X12_cell_1 : en_lkC "EvenStepsModel" false [(.aload_n 0, 1, 0, 0, [], 0, 0), (.iconst 1, 1, 0, 0, [], 1, 0), (.invokevirtual 103, 3, 1, 0, [(11, 131)], 0, 0), (.ireturn, 1, 0, 0, [], 0, 0)] := ⟨trivial, ⟨trivial, ⟨lk_343, ⟨trivial, trivial⟩⟩⟩⟩
set_option maxRecDepth 100000 in
set_option maxHeartbeats 4000000 in
theorem n_X12_cell_2 : en_lkC "EvenStepsModel" false [(.aload_n 0, 1, 0, 0, [], 0, 0), (.getfield 35, 3, 11, 2, [(11, 0)], 0, 0), (.iload_n 1, 1, 1, 0, [], 0, 0), (.iaload, 1, 0, 0, [], 0, 0), (.iconst (-1), 1, 0, 0, [], (-1), 0), (.if_icmp .ne 10, 3, 3, 0, [], 0, 0), (.aload_n 0, 1, 0, 0, [], 0, 0), (.bipush 10, 2, 0, 0, [], 10, 0), (.invokevirtual 103, 3, 1, 0, [(11, 131)], 0, 0), (.ireturn, 1, 0, 0, [], 0, 0)] := ⟨trivial, ⟨lk_369, ⟨trivial, ⟨trivial, ⟨trivial, ⟨trivial, ⟨trivial, ⟨trivial, ⟨lk_343, ⟨trivial, trivial⟩⟩⟩⟩⟩⟩⟩⟩⟩⟩
set_option maxRecDepth 100000 in
set_option maxHeartbeats 4000000 in
theorem n_X12_cell_3 : en_lkC "EvenStepsModel" false [(.iload_n 2, 1, 2, 0, [], 0, 0), (.iconst 0, 1, 0, 0, [], 0, 0), (.aload_n 0, 1, 0, 0, [], 0, 0), (.getfield 38, 3, 12, 2, [(11, 0)], 0, 0), (.iload_n 1, 1, 1, 0, [], 0, 0), (.iaload, 1, 0, 0, [], 0, 0), (.iconst 1, 1, 0, 0, [], 1, 0), (.isub, 1, 0, 0, [], 0, 0), (.invokestatic 99, 3, 3, 3, [(0, 133)], 0, 0), (.ifCond .ne 10, 3, 4, 0, [], 0, 0), (.aload_n 0, 1, 0, 0, [], 0, 0), (.bipush 12, 2, 0, 0, [], 12, 0), (.invokevirtual 103, 3, 1, 0, [(11, 131)], 0, 0), (.ireturn, 1, 0, 0, [], 0, 0)] := ⟨trivial, ⟨trivial, ⟨trivial, ⟨lk_370, ⟨trivial, ⟨trivial, ⟨trivial, ⟨trivial, ⟨lk_342, ⟨trivial, ⟨trivial, ⟨trivial, ⟨lk_343, ⟨trivial, trivial⟩⟩⟩⟩⟩⟩⟩⟩⟩⟩⟩⟩⟩⟩
set_option maxRecDepth 100000 in
set_option maxHeartbeats 4000000 in
theorem n_X12_cell_4 : en_lkC "EvenStepsModel" false [(.aload_n 0, 1, 0, 0, [], 0, 0), (.getfield 41, 3, 13, 2, [(11, 0)], 0, 0), (.bipush 40, 2, 0, 0, [], 40, 0), (.iload_n 1, 1, 1, 0, [], 0, 0), (.imul, 1, 0, 0, [], 0, 0), (.iload_n 2, 1, 2, 0, [], 0, 0), (.iadd, 1, 0, 0, [], 0, 0), (.iload_n 3, 1, 3, 0, [], 0, 0), (.iastore, 1, 0, 0, [], 0, 0), (.aload_n 0, 1, 0, 0, [], 0, 0), (.iconst 1, 1, 0, 0, [], 1, 0), (.invokevirtual 111, 3, 1, 0, [(11, 132)], 0, 0), (.ireturn, 1, 0, 0, [], 0, 0)] := ⟨trivial, ⟨lk_371, ⟨trivial, ⟨trivial, ⟨trivial, ⟨trivial, ⟨trivial, ⟨trivial, ⟨trivial, ⟨trivial, ⟨trivial, ⟨lk_346, ⟨trivial, trivial⟩⟩⟩⟩⟩⟩⟩⟩⟩⟩⟩⟩⟩
set_option maxRecDepth 100000 in
set_option maxHeartbeats 4000000 in
theorem n_X12_cell : en_lkM (⟨"EvenStepsModel", "cell", "(III)I"⟩, prog_14_method_74_code, 4, (some .int), p_X12_cell) := (List.forall_mem_cons.mpr ⟨n_X12_cell_0, (List.forall_mem_cons.mpr ⟨n_X12_cell_1, (List.forall_mem_cons.mpr ⟨n_X12_cell_2, (List.forall_mem_cons.mpr ⟨n_X12_cell_3, (List.forall_mem_cons.mpr ⟨n_X12_cell_4, (fun _ h => absurd h List.not_mem_nil)⟩)⟩)⟩)⟩)⟩)
set_option maxRecDepth 100000 in
set_option maxHeartbeats 4000000 in
theorem k_X12_modulo : en_ckM (⟨"EvenStepsModel", "modulo", "(II)I"⟩, prog_14_method_75_code, 3, (some .int), p_X12_modulo) = true := by decide +kernel
set_option maxRecDepth 100000 in
set_option maxHeartbeats 4000000 in
theorem n_X12_modulo_0 : en_lkC "EvenStepsModel" false [(.iload_n 0, 1, 0, 0, [], 0, 0), (.iload_n 1, 1, 1, 0, [], 0, 0), (.irem, 1, 0, 0, [], 0, 0), (.istore_n 2, 1, 2, 0, [], 0, 0), (.iload_n 2, 1, 2, 0, [], 0, 0), (.ifCond .ge 9, 3, 1, 0, [], 0, 0), (.iload_n 2, 1, 2, 0, [], 0, 0), (.iload_n 1, 1, 1, 0, [], 0, 0), (.iadd, 1, 0, 0, [], 0, 0), (.goto 4, 3, 2, 0, [], 0, 0)] := ⟨trivial, ⟨trivial, ⟨trivial, ⟨trivial, ⟨trivial, ⟨trivial, ⟨trivial, ⟨trivial, ⟨trivial, ⟨trivial, trivial⟩⟩⟩⟩⟩⟩⟩⟩⟩⟩
set_option maxRecDepth 100000 in
set_option maxHeartbeats 4000000 in
theorem n_X12_modulo_1 : en_lkC "EvenStepsModel" false [(.iload_n 2, 1, 2, 0, [], 0, 0)] := ⟨trivial, trivial⟩
set_option maxRecDepth 100000 in
set_option maxHeartbeats 4000000 in
theorem n_X12_modulo_2 : en_lkC "EvenStepsModel" false [(.ireturn, 1, 0, 0, [], 0, 0)] := ⟨trivial, trivial⟩
set_option maxRecDepth 100000 in
set_option maxHeartbeats 4000000 in
theorem n_X12_modulo : en_lkM (⟨"EvenStepsModel", "modulo", "(II)I"⟩, prog_14_method_75_code, 3, (some .int), p_X12_modulo) := (List.forall_mem_cons.mpr ⟨n_X12_modulo_0, (List.forall_mem_cons.mpr ⟨n_X12_modulo_1, (List.forall_mem_cons.mpr ⟨n_X12_modulo_2, (fun _ h => absurd h List.not_mem_nil)⟩)⟩)⟩)
set_option maxRecDepth 100000 in
set_option maxHeartbeats 4000000 in
theorem k_X12_isUnder : en_ckM (⟨"EvenStepsModel", "isUnder", "(II)Z"⟩, prog_14_method_76_code, 2, (some .boolean), p_X12_isUnder) = true := by decide +kernel
set_option maxRecDepth 100000 in
set_option maxHeartbeats 4000000 in
theorem n_X12_isUnder_0 : en_lkC "EvenStepsModel" false [(.iload_n 1, 1, 1, 0, [], 0, 0), (.ifCond .eq 23, 3, 1, 0, [], 0, 0), (.iload_n 0, 1, 0, 0, [], 0, 0), (.iload_n 1, 1, 1, 0, [], 0, 0), (.if_icmp .eq 18, 3, 1, 0, [], 0, 0), (.iload_n 1, 1, 1, 0, [], 0, 0), (.iconst 1, 1, 0, 0, [], 1, 0), (.if_icmp .ne 17, 3, 2, 0, [], 0, 0), (.iload_n 0, 1, 0, 0, [], 0, 0), (.iconst 2, 1, 0, 0, [], 2, 0), (.if_icmp .eq 8, 3, 1, 0, [], 0, 0), (.iload_n 0, 1, 0, 0, [], 0, 0), (.iconst 4, 1, 0, 0, [], 4, 0), (.if_icmp .ne 7, 3, 2, 0, [], 0, 0)] := ⟨trivial, ⟨trivial, ⟨trivial, ⟨trivial, ⟨trivial, ⟨trivial, ⟨trivial, ⟨trivial, ⟨trivial, ⟨trivial, ⟨trivial, ⟨trivial, ⟨trivial, ⟨trivial, trivial⟩⟩⟩⟩⟩⟩⟩⟩⟩⟩⟩⟩⟩⟩
set_option maxRecDepth 100000 in
set_option maxHeartbeats 4000000 in
theorem n_X12_isUnder_1 : en_lkC "EvenStepsModel" false [(.iconst 1, 1, 0, 0, [], 1, 0), (.goto 4, 3, 3, 0, [], 0, 0)] := ⟨trivial, ⟨trivial, trivial⟩⟩
set_option maxRecDepth 100000 in
set_option maxHeartbeats 4000000 in
theorem n_X12_isUnder_2 : en_lkC "EvenStepsModel" false [(.iconst 0, 1, 0, 0, [], 0, 0)] := ⟨trivial, trivial⟩
set_option maxRecDepth 100000 in
set_option maxHeartbeats 4000000 in
theorem n_X12_isUnder_3 : en_lkC "EvenStepsModel" false [(.ireturn, 1, 0, 3, [], 0, 0)] := ⟨trivial, trivial⟩
set_option maxRecDepth 100000 in
set_option maxHeartbeats 4000000 in
theorem n_X12_isUnder : en_lkM (⟨"EvenStepsModel", "isUnder", "(II)Z"⟩, prog_14_method_76_code, 2, (some .boolean), p_X12_isUnder) := (List.forall_mem_cons.mpr ⟨n_X12_isUnder_0, (List.forall_mem_cons.mpr ⟨n_X12_isUnder_1, (List.forall_mem_cons.mpr ⟨n_X12_isUnder_2, (List.forall_mem_cons.mpr ⟨n_X12_isUnder_3, (fun _ h => absurd h List.not_mem_nil)⟩)⟩)⟩)⟩)
set_option maxRecDepth 100000 in
set_option maxHeartbeats 4000000 in
theorem k_X12_forge : en_ckM (⟨"EvenStepsModel", "forge", "(III)I"⟩, prog_14_method_77_code, 8, (some .int), p_X12_forge) = true := by decide +kernel
set_option maxRecDepth 100000 in
set_option maxHeartbeats 4000000 in
theorem n_X12_forge_0 : en_lkC "EvenStepsModel" false [(.iload_n 1, 1, 1, 0, [], 0, 0), (.iconst 0, 1, 0, 0, [], 0, 0), (.bipush 6, 2, 0, 0, [], 6, 0), (.invokestatic 99, 3, 3, 3, [(0, 133)], 0, 0), (.ifCond .eq 25, 3, 1, 0, [], 0, 0), (.iload_n 2, 1, 2, 0, [], 0, 0), (.bipush (-100), 2, 0, 0, [], (-100), 0), (.bipush 100, 2, 0, 0, [], 100, 0), (.invokestatic 99, 3, 3, 3, [(0, 133)], 0, 0), (.ifCond .eq 14, 3, 1, 0, [], 0, 0), (.iload_n 3, 1, 3, 0, [], 0, 0), (.bipush (-100), 2, 0, 0, [], (-100), 0), (.bipush 100, 2, 0, 0, [], 100, 0), (.invokestatic 99, 3, 3, 3, [(0, 133)], 0, 0), (.ifCond .ne 9, 3, 2, 0, [], 0, 0)] := ⟨trivial, ⟨trivial, ⟨trivial, ⟨lk_342, ⟨trivial, ⟨trivial, ⟨trivial, ⟨trivial, ⟨lk_342, ⟨trivial, ⟨trivial, ⟨trivial, ⟨trivial, ⟨lk_342, ⟨trivial, trivial⟩⟩⟩⟩⟩⟩⟩⟩⟩⟩⟩⟩⟩⟩⟩
set_option maxRecDepth 100000 in
set_option maxHeartbeats 4000000 in
theorem n_X12_forge_1 : en_lkC "EvenStepsModel" false [(.aload_n 0, 1, 0, 0, [], 0, 0), (.iconst 1, 1, 0, 0, [], 1, 0), (.invokevirtual 103, 3, 1, 0, [(11, 131)], 0, 0), (.ireturn, 1, 0, 0, [], 0, 0)] := ⟨trivial, ⟨trivial, ⟨lk_343, ⟨trivial, trivial⟩⟩⟩⟩
set_option maxRecDepth 100000 in
set_option maxHeartbeats 4000000 in
theorem n_X12_forge_2 : en_lkC "EvenStepsModel" false [(.iload_n 3, 1, 3, 0, [], 0, 0), (.bipush 10, 2, 0, 0, [], 10, 0), (.invokestatic 260, 3, 2, 0, [(0, 204)], 0, 0), (.istore 4, 2, 4, 0, [], 0, 0), (.iload_n 3, 1, 3, 0, [], 0, 0), (.iconst 4, 1, 0, 0, [], 4, 0), (.invokestatic 260, 3, 2, 0, [(0, 204)], 0, 0), (.istore 5, 2, 5, 0, [], 0, 0), (.iload_n 1, 1, 1, 0, [], 0, 0), (.tableswitch 374 0 5 #[38, 93, 112, 191, 301, 351], 38, 29, 0, [(0, 3), (1, 7), (2, 10), (3, 15), (4, 22), (5, 26)], 0, 0)] := ⟨trivial, ⟨trivial, ⟨lk_423, ⟨trivial, ⟨trivial, ⟨trivial, ⟨lk_423, ⟨trivial, ⟨trivial, ⟨trivial, trivial⟩⟩⟩⟩⟩⟩⟩⟩⟩⟩
set_option maxRecDepth 100000 in
set_option maxHeartbeats 4000000 in
theorem n_X12_forge_3 : en_lkC "EvenStepsModel" false [(.aload_n 0, 1, 0, 0, [], 0, 0), (.iload 4, 2, 4, 0, [], 0, 0), (.invokevirtual 162, 3, 1, 3, [(11, 152)], 0, 0), (.ifCond .ne 10, 3, 4, 0, [], 0, 0), (.aload_n 0, 1, 0, 0, [], 0, 0), (.bipush 10, 2, 0, 0, [], 10, 0), (.invokevirtual 103, 3, 1, 0, [(11, 131)], 0, 0), (.ireturn, 1, 0, 0, [], 0, 0)] := ⟨trivial, ⟨trivial, ⟨lk_378, ⟨trivial, ⟨trivial, ⟨trivial, ⟨lk_343, ⟨trivial, trivial⟩⟩⟩⟩⟩⟩⟩⟩
set_option maxRecDepth 100000 in
set_option maxHeartbeats 4000000 in
theorem n_X12_forge_4 : en_lkC "EvenStepsModel" false [(.aload_n 0, 1, 0, 0, [], 0, 0), (.getfield 22, 3, 7, 2, [(11, 0)], 0, 0), (.iload 4, 2, 4, 0, [], 0, 0), (.iaload, 1, 0, 0, [], 0, 0), (.iload_n 2, 1, 2, 0, [], 0, 0), (.iconst 5, 1, 0, 0, [], 5, 0), (.invokestatic 260, 3, 2, 0, [(0, 204)], 0, 0), (.invokestatic 263, 3, 2, 3, [(0, 205)], 0, 0), (.ifCond .eq 17, 3, 5, 0, [], 0, 0), (.aload_n 0, 1, 0, 0, [], 0, 0), (.aload_n 0, 1, 0, 0, [], 0, 0), (.getfield 22, 3, 7, 2, [(11, 0)], 0, 0), (.iload 4, 2, 4, 0, [], 0, 0), (.iaload, 1, 0, 0, [], 0, 0), (.invokevirtual 111, 3, 1, 0, [(11, 132)], 0, 0), (.goto 9, 3, 6, 0, [], 0, 0)] := ⟨trivial, ⟨lk_374, ⟨trivial, ⟨trivial, ⟨trivial, ⟨trivial, ⟨lk_423, ⟨lk_424, ⟨trivial, ⟨trivial, ⟨trivial, ⟨lk_374, ⟨trivial, ⟨trivial, ⟨lk_346, ⟨trivial, trivial⟩⟩⟩⟩⟩⟩⟩⟩⟩⟩⟩⟩⟩⟩⟩⟩
set_option maxRecDepth 100000 in
set_option maxHeartbeats 4000000 in
theorem n_X12_forge_5 : en_lkC "EvenStepsModel" false [(.aload_n 0, 1, 0, 0, [], 0, 0), (.bipush 11, 2, 0, 0, [], 11, 0), (.invokevirtual 103, 3, 1, 0, [(11, 131)], 0, 0)] := ⟨trivial, ⟨trivial, ⟨lk_343, trivial⟩⟩⟩
set_option maxRecDepth 100000 in
set_option maxHeartbeats 4000000 in
theorem n_X12_forge_6 : en_lkC "EvenStepsModel" false [(.ireturn, 1, 0, 0, [], 0, 0)] := ⟨trivial, trivial⟩
set_option maxRecDepth 100000 in
set_option maxHeartbeats 4000000 in
theorem n_X12_forge_7 : en_lkC "EvenStepsModel" false [(.iload_n 2, 1, 2, 0, [], 0, 0), (.ifCond .ge 12, 3, 8, 0, [], 0, 0), (.aload_n 0, 1, 0, 0, [], 0, 0), (.bipush 13, 2, 0, 0, [], 13, 0), (.invokevirtual 103, 3, 1, 0, [(11, 131)], 0, 0), (.goto 8, 3, 9, 0, [], 0, 0)] := ⟨trivial, ⟨trivial, ⟨trivial, ⟨trivial, ⟨lk_343, ⟨trivial, trivial⟩⟩⟩⟩⟩⟩
set_option maxRecDepth 100000 in
set_option maxHeartbeats 4000000 in
theorem n_X12_forge_8 : en_lkC "EvenStepsModel" false [(.aload_n 0, 1, 0, 0, [], 0, 0), (.iload_n 2, 1, 2, 0, [], 0, 0), (.invokevirtual 111, 3, 1, 0, [(11, 132)], 0, 0)] := ⟨trivial, ⟨trivial, ⟨lk_346, trivial⟩⟩⟩
set_option maxRecDepth 100000 in
set_option maxHeartbeats 4000000 in
theorem n_X12_forge_9 : en_lkC "EvenStepsModel" false [(.ireturn, 1, 0, 0, [], 0, 0)] := ⟨trivial, trivial⟩
set_option maxRecDepth 100000 in
set_option maxHeartbeats 4000000 in
theorem n_X12_forge_10 : en_lkC "EvenStepsModel" false [(.aload_n 0, 1, 0, 0, [], 0, 0), (.getfield 35, 3, 11, 2, [(11, 0)], 0, 0), (.iload 5, 2, 5, 0, [], 0, 0), (.iaload, 1, 0, 0, [], 0, 0), (.iconst (-1), 1, 0, 0, [], (-1), 0), (.if_icmp .ne 10, 3, 11, 0, [], 0, 0), (.aload_n 0, 1, 0, 0, [], 0, 0), (.bipush 10, 2, 0, 0, [], 10, 0), (.invokevirtual 103, 3, 1, 0, [(11, 131)], 0, 0), (.ireturn, 1, 0, 0, [], 0, 0)] := ⟨trivial, ⟨lk_369, ⟨trivial, ⟨trivial, ⟨trivial, ⟨trivial, ⟨trivial, ⟨trivial, ⟨lk_343, ⟨trivial, trivial⟩⟩⟩⟩⟩⟩⟩⟩⟩⟩
set_option maxRecDepth 100000 in
set_option maxHeartbeats 4000000 in
theorem n_X12_forge_11 : en_lkC "EvenStepsModel" false [(.aload_n 0, 1, 0, 0, [], 0, 0), (.getfield 35, 3, 11, 2, [(11, 0)], 0, 0), (.iload 5, 2, 5, 0, [], 0, 0), (.iaload, 1, 0, 0, [], 0, 0), (.iconst 1, 1, 0, 0, [], 1, 0), (.if_icmp .eq 10, 3, 12, 0, [], 0, 0), (.aload_n 0, 1, 0, 0, [], 0, 0), (.bipush 11, 2, 0, 0, [], 11, 0), (.invokevirtual 103, 3, 1, 0, [(11, 131)], 0, 0), (.ireturn, 1, 0, 0, [], 0, 0)] := ⟨trivial, ⟨lk_369, ⟨trivial, ⟨trivial, ⟨trivial, ⟨trivial, ⟨trivial, ⟨trivial, ⟨lk_343, ⟨trivial, trivial⟩⟩⟩⟩⟩⟩⟩⟩⟩⟩
set_option maxRecDepth 100000 in
set_option maxHeartbeats 4000000 in
theorem n_X12_forge_12 : en_lkC "EvenStepsModel" false [(.iload_n 2, 1, 2, 0, [], 0, 0), (.iconst 0, 1, 0, 0, [], 0, 0), (.aload_n 0, 1, 0, 0, [], 0, 0), (.getfield 38, 3, 12, 2, [(11, 0)], 0, 0), (.iload 5, 2, 5, 0, [], 0, 0), (.iaload, 1, 0, 0, [], 0, 0), (.iconst 1, 1, 0, 0, [], 1, 0), (.isub, 1, 0, 0, [], 0, 0), (.invokestatic 99, 3, 3, 3, [(0, 133)], 0, 0), (.ifCond .eq 22, 3, 13, 0, [], 0, 0), (.aload_n 0, 1, 0, 0, [], 0, 0), (.aload_n 0, 1, 0, 0, [], 0, 0), (.getfield 41, 3, 13, 2, [(11, 0)], 0, 0), (.bipush 40, 2, 0, 0, [], 40, 0), (.iload 5, 2, 5, 0, [], 0, 0), (.imul, 1, 0, 0, [], 0, 0), (.iload_n 2, 1, 2, 0, [], 0, 0), (.iadd, 1, 0, 0, [], 0, 0), (.iaload, 1, 0, 0, [], 0, 0), (.invokevirtual 111, 3, 1, 0, [(11, 132)], 0, 0), (.goto 9, 3, 14, 0, [], 0, 0)] := ⟨trivial, ⟨trivial, ⟨trivial, ⟨lk_370, ⟨trivial, ⟨trivial, ⟨trivial, ⟨trivial, ⟨lk_342, ⟨trivial, ⟨trivial, ⟨trivial, ⟨lk_371, ⟨trivial, ⟨trivial, ⟨trivial, ⟨trivial, ⟨trivial, ⟨trivial, ⟨lk_346, ⟨trivial, trivial⟩⟩⟩⟩⟩⟩⟩⟩⟩⟩⟩⟩⟩⟩⟩⟩⟩⟩⟩⟩⟩
set_option maxRecDepth 100000 in
set_option maxHeartbeats 4000000 in
theorem n_X12_forge_13 : en_lkC "EvenStepsModel" false [(.aload_n 0, 1, 0, 0, [], 0, 0), (.bipush 12, 2, 0, 0, [], 12, 0), (.invokevirtual 103, 3, 1, 0, [(11, 131)], 0, 0)] := ⟨trivial, ⟨trivial, ⟨lk_343, trivial⟩⟩⟩
set_option maxRecDepth 100000 in
set_option maxHeartbeats 4000000 in
theorem n_X12_forge_14 : en_lkC "EvenStepsModel" false [(.ireturn, 1, 0, 0, [], 0, 0)] := ⟨trivial, trivial⟩
set_option maxRecDepth 100000 in
set_option maxHeartbeats 4000000 in
theorem n_X12_forge_15 : en_lkC "EvenStepsModel" false [(.aload_n 0, 1, 0, 0, [], 0, 0), (.getfield 35, 3, 11, 2, [(11, 0)], 0, 0), (.iload 5, 2, 5, 0, [], 0, 0), (.iaload, 1, 0, 0, [], 0, 0), (.iconst (-1), 1, 0, 0, [], (-1), 0), (.if_icmp .ne 10, 3, 16, 0, [], 0, 0), (.aload_n 0, 1, 0, 0, [], 0, 0), (.bipush 10, 2, 0, 0, [], 10, 0), (.invokevirtual 103, 3, 1, 0, [(11, 131)], 0, 0), (.ireturn, 1, 0, 0, [], 0, 0)] := ⟨trivial, ⟨lk_369, ⟨trivial, ⟨trivial, ⟨trivial, ⟨trivial, ⟨trivial, ⟨trivial, ⟨lk_343, ⟨trivial, trivial⟩⟩⟩⟩⟩⟩⟩⟩⟩⟩
set_option maxRecDepth 100000 in
set_option maxHeartbeats 4000000 in
theorem n_X12_forge_16 : en_lkC "EvenStepsModel" false [(.aload_n 0, 1, 0, 0, [], 0, 0), (.getfield 35, 3, 11, 2, [(11, 0)], 0, 0), (.iload 5, 2, 5, 0, [], 0, 0), (.iaload, 1, 0, 0, [], 0, 0), (.ifCond .eq 10, 3, 17, 0, [], 0, 0), (.aload_n 0, 1, 0, 0, [], 0, 0), (.bipush 11, 2, 0, 0, [], 11, 0), (.invokevirtual 103, 3, 1, 0, [(11, 131)], 0, 0), (.ireturn, 1, 0, 0, [], 0, 0)] := ⟨trivial, ⟨lk_369, ⟨trivial, ⟨trivial, ⟨trivial, ⟨trivial, ⟨trivial, ⟨lk_343, ⟨trivial, trivial⟩⟩⟩⟩⟩⟩⟩⟩⟩
set_option maxRecDepth 100000 in
set_option maxHeartbeats 4000000 in
theorem n_X12_forge_17 : en_lkC "EvenStepsModel" false [(.iload_n 2, 1, 2, 0, [], 0, 0), (.ifCond .lt 24, 3, 18, 0, [], 0, 0), (.iconst 1, 1, 0, 0, [], 1, 0), (.iload_n 2, 1, 2, 0, [], 0, 0), (.iadd, 1, 0, 0, [], 0, 0), (.aload_n 0, 1, 0, 0, [], 0, 0), (.getfield 38, 3, 12, 2, [(11, 0)], 0, 0), (.iload 5, 2, 5, 0, [], 0, 0), (.iaload, 1, 0, 0, [], 0, 0), (.if_icmp .gt 11, 3, 18, 0, [], 0, 0), (.iload_n 2, 1, 2, 0, [], 0, 0), (.iload_n 2, 1, 2, 0, [], 0, 0), (.iadd, 1, 0, 0, [], 0, 0), (.bipush 6, 2, 0, 0, [], 6, 0), (.if_icmp .le 10, 3, 19, 0, [], 0, 0)] := ⟨trivial, ⟨trivial, ⟨trivial, ⟨trivial, ⟨trivial, ⟨trivial, ⟨lk_370, ⟨trivial, ⟨trivial, ⟨trivial, ⟨trivial, ⟨trivial, ⟨trivial, ⟨trivial, ⟨trivial, trivial⟩⟩⟩⟩⟩⟩⟩⟩⟩⟩⟩⟩⟩⟩⟩
set_option maxRecDepth 100000 in
set_option maxHeartbeats 4000000 in
theorem n_X12_forge_18 : en_lkC "EvenStepsModel" false [(.aload_n 0, 1, 0, 0, [], 0, 0), (.bipush 12, 2, 0, 0, [], 12, 0), (.invokevirtual 103, 3, 1, 0, [(11, 131)], 0, 0), (.ireturn, 1, 0, 0, [], 0, 0)] := ⟨trivial, ⟨trivial, ⟨lk_343, ⟨trivial, trivial⟩⟩⟩⟩
set_option maxRecDepth 100000 in
set_option maxHeartbeats 4000000 in
theorem n_X12_forge_19 : en_lkC "EvenStepsModel" false [(.iconst 0, 1, 0, 0, [], 0, 0), (.istore 6, 2, 6, 0, [], 0, 0), (.iconst 1, 1, 0, 0, [], 1, 0), (.istore 7, 2, 7, 0, [], 0, 0)] := ⟨trivial, ⟨trivial, ⟨trivial, ⟨trivial, trivial⟩⟩⟩⟩
set_option maxRecDepth 100000 in
set_option maxHeartbeats 4000000 in
theorem n_X12_forge_20 : en_lkC "EvenStepsModel" false [(.iload 7, 2, 7, 0, [], 0, 0), (.iload_n 2, 1, 2, 0, [], 0, 0), (.if_icmp .gt 27, 3, 21, 0, [], 0, 0), (.iload 6, 2, 6, 0, [], 0, 0), (.aload_n 0, 1, 0, 0, [], 0, 0), (.getfield 41, 3, 13, 2, [(11, 0)], 0, 0), (.bipush 40, 2, 0, 0, [], 40, 0), (.iload 5, 2, 5, 0, [], 0, 0), (.imul, 1, 0, 0, [], 0, 0), (.iload 7, 2, 7, 0, [], 0, 0), (.iadd, 1, 0, 0, [], 0, 0), (.iaload, 1, 0, 0, [], 0, 0), (.iadd, 1, 0, 0, [], 0, 0), (.istore 6, 2, 6, 0, [], 0, 0), (.iinc 7 1, 3, 7, 0, [], 1, 0), (.goto (-27), 3, 20, 0, [], 0, 0)] := ⟨trivial, ⟨trivial, ⟨trivial, ⟨trivial, ⟨trivial, ⟨lk_371, ⟨trivial, ⟨trivial, ⟨trivial, ⟨trivial, ⟨trivial, ⟨trivial, ⟨trivial, ⟨trivial, ⟨trivial, ⟨trivial, trivial⟩⟩⟩⟩⟩⟩⟩⟩⟩⟩⟩⟩⟩⟩⟩⟩
set_option maxRecDepth 100000 in
set_option maxHeartbeats 4000000 in
theorem n_X12_forge_21 : en_lkC "EvenStepsModel" false [(.aload_n 0, 1, 0, 0, [], 0, 0), (.iload 6, 2, 6, 0, [], 0, 0), (.invokevirtual 111, 3, 1, 0, [(11, 132)], 0, 0), (.ireturn, 1, 0, 0, [], 0, 0)] := ⟨trivial, ⟨trivial, ⟨lk_346, ⟨trivial, trivial⟩⟩⟩⟩
set_option maxRecDepth 100000 in
set_option maxHeartbeats 4000000 in
theorem n_X12_forge_22 : en_lkC "EvenStepsModel" false [(.aload_n 0, 1, 0, 0, [], 0, 0), (.iload 4, 2, 4, 0, [], 0, 0), (.invokevirtual 162, 3, 1, 3, [(11, 152)], 0, 0), (.ifCond .ne 9, 3, 23, 0, [], 0, 0), (.aload_n 0, 1, 0, 0, [], 0, 0), (.iconst 0, 1, 0, 0, [], 0, 0), (.invokevirtual 111, 3, 1, 0, [(11, 132)], 0, 0), (.ireturn, 1, 0, 0, [], 0, 0)] := ⟨trivial, ⟨trivial, ⟨lk_378, ⟨trivial, ⟨trivial, ⟨trivial, ⟨lk_346, ⟨trivial, trivial⟩⟩⟩⟩⟩⟩⟩⟩
set_option maxRecDepth 100000 in
set_option maxHeartbeats 4000000 in
theorem n_X12_forge_23 : en_lkC "EvenStepsModel" false [(.aload_n 0, 1, 0, 0, [], 0, 0), (.getfield 22, 3, 7, 2, [(11, 0)], 0, 0), (.iload 4, 2, 4, 0, [], 0, 0), (.iaload, 1, 0, 0, [], 0, 0), (.iconst 1, 1, 0, 0, [], 1, 0), (.invokestatic 263, 3, 2, 3, [(0, 205)], 0, 0), (.ifCond .eq 17, 3, 24, 0, [], 0, 0), (.aload_n 0, 1, 0, 0, [], 0, 0), (.aload_n 0, 1, 0, 0, [], 0, 0), (.getfield 22, 3, 7, 2, [(11, 0)], 0, 0), (.iload 4, 2, 4, 0, [], 0, 0), (.iaload, 1, 0, 0, [], 0, 0), (.invokevirtual 111, 3, 1, 0, [(11, 132)], 0, 0), (.goto 9, 3, 25, 0, [], 0, 0)] := ⟨trivial, ⟨lk_374, ⟨trivial, ⟨trivial, ⟨trivial, ⟨lk_424, ⟨trivial, ⟨trivial, ⟨trivial, ⟨lk_374, ⟨trivial, ⟨trivial, ⟨lk_346, ⟨trivial, trivial⟩⟩⟩⟩⟩⟩⟩⟩⟩⟩⟩⟩⟩⟩
set_option maxRecDepth 100000 in
set_option maxHeartbeats 4000000 in
theorem n_X12_forge_24 : en_lkC "EvenStepsModel" false [(.aload_n 0, 1, 0, 0, [], 0, 0), (.bipush 14, 2, 0, 0, [], 14, 0), (.invokevirtual 103, 3, 1, 0, [(11, 131)], 0, 0)] := ⟨trivial, ⟨trivial, ⟨lk_343, trivial⟩⟩⟩
set_option maxRecDepth 100000 in
set_option maxHeartbeats 4000000 in
theorem n_X12_forge_25 : en_lkC "EvenStepsModel" false [(.ireturn, 1, 0, 0, [], 0, 0)] := ⟨trivial, trivial⟩
set_option maxRecDepth 100000 in
set_option maxHeartbeats 4000000 in
theorem n_X12_forge_26 : en_lkC "EvenStepsModel" false [(.iload_n 2, 1, 2, 0, [], 0, 0), (.ifCond .ne 12, 3, 27, 0, [], 0, 0), (.aload_n 0, 1, 0, 0, [], 0, 0), (.bipush 15, 2, 0, 0, [], 15, 0), (.invokevirtual 103, 3, 1, 0, [(11, 131)], 0, 0), (.goto 12, 3, 28, 0, [], 0, 0)] := ⟨trivial, ⟨trivial, ⟨trivial, ⟨trivial, ⟨lk_343, ⟨trivial, trivial⟩⟩⟩⟩⟩⟩
set_option maxRecDepth 100000 in
set_option maxHeartbeats 4000000 in
theorem n_X12_forge_27 : en_lkC "EvenStepsModel" false [(.aload_n 0, 1, 0, 0, [], 0, 0), (.sipush 1000, 3, 0, 0, [], 1000, 0), (.iload_n 2, 1, 2, 0, [], 0, 0), (.idiv, 1, 0, 0, [], 0, 0), (.invokevirtual 111, 3, 1, 0, [(11, 132)], 0, 0)] := ⟨trivial, ⟨trivial, ⟨trivial, ⟨trivial, ⟨lk_346, trivial⟩⟩⟩⟩⟩
set_option maxRecDepth 100000 in
set_option maxHeartbeats 4000000 in
theorem n_X12_forge_28 : en_lkC "EvenStepsModel" false [(.ireturn, 1, 0, 0, [], 0, 0)] := ⟨trivial, trivial⟩
set_option maxRecDepth 100000 in
set_option maxHeartbeats 4000000 in
theorem n_X12_forge_29 : en_lkC "EvenStepsModel" false [(.iload_n 2, 1, 2, 0, [], 0, 0), (.iconst 2, 1, 0, 0, [], 2, 0), (.irem, 1, 0, 0, [], 0, 0), (.ifCond .ne 12, 3, 30, 0, [], 0, 0), (.aload_n 0, 1, 0, 0, [], 0, 0), (.bipush 10, 2, 0, 0, [], 10, 0), (.invokevirtual 103, 3, 1, 0, [(11, 131)], 0, 0), (.goto 8, 3, 31, 0, [], 0, 0)] := ⟨trivial, ⟨trivial, ⟨trivial, ⟨trivial, ⟨trivial, ⟨trivial, ⟨lk_343, ⟨trivial, trivial⟩⟩⟩⟩⟩⟩⟩⟩
set_option maxRecDepth 100000 in
set_option maxHeartbeats 4000000 in
theorem n_X12_forge_30 : en_lkC "EvenStepsModel" false [(.aload_n 0, 1, 0, 0, [], 0, 0), (.iconst 1, 1, 0, 0, [], 1, 0), (.invokevirtual 111, 3, 1, 0, [(11, 132)], 0, 0)] := ⟨trivial, ⟨trivial, ⟨lk_346, trivial⟩⟩⟩
set_option maxRecDepth 100000 in
set_option maxHeartbeats 4000000 in
theorem n_X12_forge_31 : en_lkC "EvenStepsModel" false [(.ireturn, 1, 0, 0, [], 0, 0)] := ⟨trivial, trivial⟩
set_option maxRecDepth 100000 in
set_option maxHeartbeats 4000000 in
theorem n_X12_forge : en_lkM (⟨"EvenStepsModel", "forge", "(III)I"⟩, prog_14_method_77_code, 8, (some .int), p_X12_forge) := (List.forall_mem_cons.mpr ⟨n_X12_forge_0, (List.forall_mem_cons.mpr ⟨n_X12_forge_1, (List.forall_mem_cons.mpr ⟨n_X12_forge_2, (List.forall_mem_cons.mpr ⟨n_X12_forge_3, (List.forall_mem_cons.mpr ⟨n_X12_forge_4, (List.forall_mem_cons.mpr ⟨n_X12_forge_5, (List.forall_mem_cons.mpr ⟨n_X12_forge_6, (List.forall_mem_cons.mpr ⟨n_X12_forge_7, (List.forall_mem_cons.mpr ⟨n_X12_forge_8, (List.forall_mem_cons.mpr ⟨n_X12_forge_9, (List.forall_mem_cons.mpr ⟨n_X12_forge_10, (List.forall_mem_cons.mpr ⟨n_X12_forge_11, (List.forall_mem_cons.mpr ⟨n_X12_forge_12, (List.forall_mem_cons.mpr ⟨n_X12_forge_13, (List.forall_mem_cons.mpr ⟨n_X12_forge_14, (List.forall_mem_cons.mpr ⟨n_X12_forge_15, (List.forall_mem_cons.mpr ⟨n_X12_forge_16, (List.forall_mem_cons.mpr ⟨n_X12_forge_17, (List.forall_mem_cons.mpr ⟨n_X12_forge_18, (List.forall_mem_cons.mpr ⟨n_X12_forge_19, (List.forall_mem_cons.mpr ⟨n_X12_forge_20, (List.forall_mem_cons.mpr ⟨n_X12_forge_21, (List.forall_mem_cons.mpr ⟨n_X12_forge_22, (List.forall_mem_cons.mpr ⟨n_X12_forge_23, (List.forall_mem_cons.mpr ⟨n_X12_forge_24, (List.forall_mem_cons.mpr ⟨n_X12_forge_25, (List.forall_mem_cons.mpr ⟨n_X12_forge_26, (List.forall_mem_cons.mpr ⟨n_X12_forge_27, (List.forall_mem_cons.mpr ⟨n_X12_forge_28, (List.forall_mem_cons.mpr ⟨n_X12_forge_29, (List.forall_mem_cons.mpr ⟨n_X12_forge_30, (List.forall_mem_cons.mpr ⟨n_X12_forge_31, (fun _ h => absurd h List.not_mem_nil)⟩)⟩)⟩)⟩)⟩)⟩)⟩)⟩)⟩)⟩)⟩)⟩)⟩)⟩)⟩)⟩)⟩)⟩)⟩)⟩)⟩)⟩)⟩)⟩)⟩)⟩)⟩)⟩)⟩)⟩)⟩)⟩)
set_option maxRecDepth 100000 in
set_option maxHeartbeats 4000000 in
theorem k_X12_status : en_ckM (⟨"EvenStepsModel", "status", "()I"⟩, prog_14_method_78_code, 1, (some .int), p_X12_status) = true := by decide +kernel
set_option maxRecDepth 100000 in
set_option maxHeartbeats 4000000 in
theorem n_X12_status_0 : en_lkC "EvenStepsModel" false [(.aload_n 0, 1, 0, 0, [], 0, 0), (.getfield 84, 3, 2, 0, [(11, 0)], 0, 0), (.ireturn, 1, 0, 0, [], 0, 0)] := ⟨trivial, ⟨lk_425, ⟨trivial, trivial⟩⟩⟩
set_option maxRecDepth 100000 in
set_option maxHeartbeats 4000000 in
theorem n_X12_status : en_lkM (⟨"EvenStepsModel", "status", "()I"⟩, prog_14_method_78_code, 1, (some .int), p_X12_status) := (List.forall_mem_cons.mpr ⟨n_X12_status_0, (fun _ h => absurd h List.not_mem_nil)⟩)
set_option maxRecDepth 100000 in
set_option maxHeartbeats 4000000 in
theorem k_J6_numberOfLeadingZeros_0f7a4 : en_ckM (⟨"java/lang/Integer", "numberOfLeadingZeros", "(I)I"⟩, prog_15_method_47_code, 2, (some .int), p_J6_numberOfLeadingZeros_0f7a4) = true := by decide +kernel
set_option maxRecDepth 100000 in
set_option maxHeartbeats 4000000 in
theorem n_J6_numberOfLeadingZeros_0f7a4_0 : en_lkC "java/lang/Integer" false [(.iload_n 0, 1, 0, 0, [], 0, 0), (.ifCond .gt 14, 3, 3, 0, [], 0, 0), (.iload_n 0, 1, 0, 0, [], 0, 0), (.ifCond .ne 8, 3, 1, 0, [], 0, 0), (.bipush 32, 2, 0, 0, [], 32, 0), (.goto 4, 3, 2, 0, [], 0, 0)] := ⟨trivial, ⟨trivial, ⟨trivial, ⟨trivial, ⟨trivial, ⟨trivial, trivial⟩⟩⟩⟩⟩⟩
set_option maxRecDepth 100000 in
set_option maxHeartbeats 4000000 in
theorem n_J6_numberOfLeadingZeros_0f7a4_1 : en_lkC "java/lang/Integer" false [(.iconst 0, 1, 0, 0, [], 0, 0)] := ⟨trivial, trivial⟩
set_option maxRecDepth 100000 in
set_option maxHeartbeats 4000000 in
theorem n_J6_numberOfLeadingZeros_0f7a4_2 : en_lkC "java/lang/Integer" false [(.ireturn, 1, 0, 0, [], 0, 0)] := ⟨trivial, trivial⟩
set_option maxRecDepth 100000 in
set_option maxHeartbeats 4000000 in
theorem n_J6_numberOfLeadingZeros_0f7a4_3 : en_lkC "java/lang/Integer" false [(.bipush 31, 2, 0, 0, [], 31, 0), (.istore_n 1, 1, 1, 0, [], 0, 0), (.iload_n 0, 1, 0, 0, [], 0, 0), (.ldc_w 264, 3, 0, 0, [], 65536, 0), (.if_icmp .lt 11, 3, 4, 0, [], 0, 0), (.iinc 1 (-16), 3, 1, 0, [], (-16), 0), (.iload_n 0, 1, 0, 0, [], 0, 0), (.bipush 16, 2, 0, 0, [], 16, 0), (.iushr, 1, 0, 0, [], 0, 0), (.istore_n 0, 1, 0, 0, [], 0, 0)] := ⟨trivial, ⟨trivial, ⟨trivial, ⟨wd_264, ⟨trivial, ⟨trivial, ⟨trivial, ⟨trivial, ⟨trivial, ⟨trivial, trivial⟩⟩⟩⟩⟩⟩⟩⟩⟩⟩
set_option maxRecDepth 100000 in
set_option maxHeartbeats 4000000 in
theorem n_J6_numberOfLeadingZeros_0f7a4_4 : en_lkC "java/lang/Integer" false [(.iload_n 0, 1, 0, 0, [], 0, 0), (.sipush 256, 3, 0, 0, [], 256, 0), (.if_icmp .lt 11, 3, 5, 0, [], 0, 0), (.iinc 1 (-8), 3, 1, 0, [], (-8), 0), (.iload_n 0, 1, 0, 0, [], 0, 0), (.bipush 8, 2, 0, 0, [], 8, 0), (.iushr, 1, 0, 0, [], 0, 0), (.istore_n 0, 1, 0, 0, [], 0, 0)] := ⟨trivial, ⟨trivial, ⟨trivial, ⟨trivial, ⟨trivial, ⟨trivial, ⟨trivial, ⟨trivial, trivial⟩⟩⟩⟩⟩⟩⟩⟩
set_option maxRecDepth 100000 in
set_option maxHeartbeats 4000000 in
theorem n_J6_numberOfLeadingZeros_0f7a4_5 : en_lkC "java/lang/Integer" false [(.iload_n 0, 1, 0, 0, [], 0, 0), (.bipush 16, 2, 0, 0, [], 16, 0), (.if_icmp .lt 10, 3, 6, 0, [], 0, 0), (.iinc 1 (-4), 3, 1, 0, [], (-4), 0), (.iload_n 0, 1, 0, 0, [], 0, 0), (.iconst 4, 1, 0, 0, [], 4, 0), (.iushr, 1, 0, 0, [], 0, 0), (.istore_n 0, 1, 0, 0, [], 0, 0)] := ⟨trivial, ⟨trivial, ⟨trivial, ⟨trivial, ⟨trivial, ⟨trivial, ⟨trivial, ⟨trivial, trivial⟩⟩⟩⟩⟩⟩⟩⟩
set_option maxRecDepth 100000 in
set_option maxHeartbeats 4000000 in
theorem n_J6_numberOfLeadingZeros_0f7a4_6 : en_lkC "java/lang/Integer" false [(.iload_n 0, 1, 0, 0, [], 0, 0), (.iconst 4, 1, 0, 0, [], 4, 0), (.if_icmp .lt 10, 3, 7, 0, [], 0, 0), (.iinc 1 (-2), 3, 1, 0, [], (-2), 0), (.iload_n 0, 1, 0, 0, [], 0, 0), (.iconst 2, 1, 0, 0, [], 2, 0), (.iushr, 1, 0, 0, [], 0, 0), (.istore_n 0, 1, 0, 0, [], 0, 0)] := ⟨trivial, ⟨trivial, ⟨trivial, ⟨trivial, ⟨trivial, ⟨trivial, ⟨trivial, ⟨trivial, trivial⟩⟩⟩⟩⟩⟩⟩⟩
set_option maxRecDepth 100000 in
set_option maxHeartbeats 4000000 in
theorem n_J6_numberOfLeadingZeros_0f7a4_7 : en_lkC "java/lang/Integer" false [(.iload_n 1, 1, 1, 0, [], 0, 0), (.iload_n 0, 1, 0, 0, [], 0, 0), (.iconst 1, 1, 0, 0, [], 1, 0), (.iushr, 1, 0, 0, [], 0, 0), (.isub, 1, 0, 0, [], 0, 0), (.ireturn, 1, 0, 0, [], 0, 0)] := ⟨trivial, ⟨trivial, ⟨trivial, ⟨trivial, ⟨trivial, ⟨trivial, trivial⟩⟩⟩⟩⟩⟩
set_option maxRecDepth 100000 in
set_option maxHeartbeats 4000000 in
theorem n_J6_numberOfLeadingZeros_0f7a4 : en_lkM (⟨"java/lang/Integer", "numberOfLeadingZeros", "(I)I"⟩, prog_15_method_47_code, 2, (some .int), p_J6_numberOfLeadingZeros_0f7a4) := (List.forall_mem_cons.mpr ⟨n_J6_numberOfLeadingZeros_0f7a4_0, (List.forall_mem_cons.mpr ⟨n_J6_numberOfLeadingZeros_0f7a4_1, (List.forall_mem_cons.mpr ⟨n_J6_numberOfLeadingZeros_0f7a4_2, (List.forall_mem_cons.mpr ⟨n_J6_numberOfLeadingZeros_0f7a4_3, (List.forall_mem_cons.mpr ⟨n_J6_numberOfLeadingZeros_0f7a4_4, (List.forall_mem_cons.mpr ⟨n_J6_numberOfLeadingZeros_0f7a4_5, (List.forall_mem_cons.mpr ⟨n_J6_numberOfLeadingZeros_0f7a4_6, (List.forall_mem_cons.mpr ⟨n_J6_numberOfLeadingZeros_0f7a4_7, (fun _ h => absurd h List.not_mem_nil)⟩)⟩)⟩)⟩)⟩)⟩)⟩)⟩)
set_option maxRecDepth 100000 in
set_option maxHeartbeats 4000000 in
theorem k_J13_numberOfLeadingZeros_95d88 : en_ckM (⟨"java/lang/Long", "numberOfLeadingZeros", "(J)I"⟩, prog_16_method_48_code, 3, (some .int), p_J13_numberOfLeadingZeros_95d88) = true := by decide +kernel
set_option maxRecDepth 100000 in
set_option maxHeartbeats 4000000 in
theorem n_J13_numberOfLeadingZeros_95d88_0 : en_lkC "java/lang/Long" false [(.lload_n 0, 1, 0, 0, [], 0, 0), (.bipush 32, 2, 0, 0, [], 32, 0), (.lushr, 1, 0, 0, [], 0, 0), (.l2i, 1, 0, 0, [], 0, 0), (.istore_n 2, 1, 2, 0, [], 0, 0), (.iload_n 2, 1, 2, 0, [], 0, 0), (.ifCond .ne 14, 3, 1, 0, [], 0, 0), (.bipush 32, 2, 0, 0, [], 32, 0), (.lload_n 0, 1, 0, 0, [], 0, 0), (.l2i, 1, 0, 0, [], 0, 0), (.invokestatic 308, 3, 1, 0, [(0, 208)], 0, 0), (.iadd, 1, 0, 0, [], 0, 0), (.goto 7, 3, 2, 0, [], 0, 0)] := ⟨trivial, ⟨trivial, ⟨trivial, ⟨trivial, ⟨trivial, ⟨trivial, ⟨trivial, ⟨trivial, ⟨trivial, ⟨trivial, ⟨lk_427, ⟨trivial, ⟨trivial, trivial⟩⟩⟩⟩⟩⟩⟩⟩⟩⟩⟩⟩⟩
set_option maxRecDepth 100000 in
set_option maxHeartbeats 4000000 in
theorem n_J13_numberOfLeadingZeros_95d88_1 : en_lkC "java/lang/Long" false [(.iload_n 2, 1, 2, 0, [], 0, 0), (.invokestatic 308, 3, 1, 0, [(0, 208)], 0, 0)] := ⟨trivial, ⟨lk_427, trivial⟩⟩
set_option maxRecDepth 100000 in
set_option maxHeartbeats 4000000 in
theorem n_J13_numberOfLeadingZeros_95d88_2 : en_lkC "java/lang/Long" false [(.ireturn, 1, 0, 0, [], 0, 0)] := ⟨trivial, trivial⟩
set_option maxRecDepth 100000 in
set_option maxHeartbeats 4000000 in
theorem n_J13_numberOfLeadingZeros_95d88 : en_lkM (⟨"java/lang/Long", "numberOfLeadingZeros", "(J)I"⟩, prog_16_method_48_code, 3, (some .int), p_J13_numberOfLeadingZeros_95d88) := (List.forall_mem_cons.mpr ⟨n_J13_numberOfLeadingZeros_95d88_0, (List.forall_mem_cons.mpr ⟨n_J13_numberOfLeadingZeros_95d88_1, (List.forall_mem_cons.mpr ⟨n_J13_numberOfLeadingZeros_95d88_2, (fun _ h => absurd h List.not_mem_nil)⟩)⟩)⟩)
set_option maxRecDepth 100000 in
set_option maxHeartbeats 4000000 in
theorem k_J13_bitCount_95d88 : en_ckM (⟨"java/lang/Long", "bitCount", "(J)I"⟩, prog_16_method_50_code, 2, (some .int), p_J13_bitCount_95d88) = true := by decide +kernel
set_option maxRecDepth 100000 in
set_option maxHeartbeats 4000000 in
theorem n_J13_bitCount_95d88_0 : en_lkC "java/lang/Long" false [(.lload_n 0, 1, 0, 0, [], 0, 0), (.lload_n 0, 1, 0, 0, [], 0, 0), (.iconst 1, 1, 0, 0, [], 1, 0), (.lushr, 1, 0, 0, [], 0, 0), (.ldc2_w 314, 3, 0, 0, [], 0, 6148914691236517205), (.land, 1, 0, 0, [], 0, 0), (.lsub, 1, 0, 0, [], 0, 0), (.lstore_n 0, 1, 0, 0, [], 0, 0), (.lload_n 0, 1, 0, 0, [], 0, 0), (.ldc2_w 316, 3, 0, 0, [], 0, 3689348814741910323), (.land, 1, 0, 0, [], 0, 0), (.lload_n 0, 1, 0, 0, [], 0, 0), (.iconst 2, 1, 0, 0, [], 2, 0), (.lushr, 1, 0, 0, [], 0, 0), (.ldc2_w 316, 3, 0, 0, [], 0, 3689348814741910323), (.land, 1, 0, 0, [], 0, 0), (.ladd, 1, 0, 0, [], 0, 0), (.lstore_n 0, 1, 0, 0, [], 0, 0), (.lload_n 0, 1, 0, 0, [], 0, 0), (.lload_n 0, 1, 0, 0, [], 0, 0), (.iconst 4, 1, 0, 0, [], 4, 0), (.lushr, 1, 0, 0, [], 0, 0), (.ladd, 1, 0, 0, [], 0, 0), (.ldc2_w 318, 3, 0, 0, [], 0, 1085102592571150095), (.land, 1, 0, 0, [], 0, 0), (.lstore_n 0, 1, 0, 0, [], 0, 0), (.lload_n 0, 1, 0, 0, [], 0, 0), (.lload_n 0, 1, 0, 0, [], 0, 0), (.bipush 8, 2, 0, 0, [], 8, 0), (.lushr, 1, 0, 0, [], 0, 0), (.ladd, 1, 0, 0, [], 0, 0), (.lstore_n 0, 1, 0, 0, [], 0, 0), (.lload_n 0, 1, 0, 0, [], 0, 0), (.lload_n 0, 1, 0, 0, [], 0, 0), (.bipush 16, 2, 0, 0, [], 16, 0), (.lushr, 1, 0, 0, [], 0, 0), (.ladd, 1, 0, 0, [], 0, 0), (.lstore_n 0, 1, 0, 0, [], 0, 0), (.lload_n 0, 1, 0, 0, [], 0, 0), (.lload_n 0, 1, 0, 0, [], 0, 0), (.bipush 32, 2, 0, 0, [], 32, 0), (.lushr, 1, 0, 0, [], 0, 0), (.ladd, 1, 0, 0, [], 0, 0), (.lstore_n 0, 1, 0, 0, [], 0, 0), (.lload_n 0, 1, 0, 0, [], 0, 0), (.l2i, 1, 0, 0, [], 0, 0), (.bipush 127, 2, 0, 0, [], 127, 0), (.iand, 1, 0, 0, [], 0, 0), (.ireturn, 1, 0, 0, [], 0, 0)] := ⟨trivial, ⟨trivial, ⟨trivial, ⟨trivial, ⟨wd_650, ⟨trivial, ⟨trivial, ⟨trivial, ⟨trivial, ⟨wd_651, ⟨trivial, ⟨trivial, ⟨trivial, ⟨trivial, ⟨wd_651, ⟨trivial, ⟨trivial, ⟨trivial, ⟨trivial, ⟨trivial, ⟨trivial, ⟨trivial, ⟨trivial, ⟨wd_652, ⟨trivial, ⟨trivial, ⟨trivial, ⟨trivial, ⟨trivial, ⟨trivial, ⟨trivial, ⟨trivial, ⟨trivial, ⟨trivial, ⟨trivial, ⟨trivial, ⟨trivial, ⟨trivial, ⟨trivial, ⟨trivial, ⟨trivial, ⟨trivial, ⟨trivial, ⟨trivial, ⟨trivial, ⟨trivial, ⟨trivial, ⟨trivial, ⟨trivial, trivial⟩⟩⟩⟩⟩⟩⟩⟩⟩⟩⟩⟩⟩⟩⟩⟩⟩⟩⟩⟩⟩⟩⟩⟩⟩⟩⟩⟩⟩⟩⟩⟩⟩⟩⟩⟩⟩⟩⟩⟩⟩⟩⟩⟩⟩⟩⟩⟩⟩
set_option maxRecDepth 100000 in
set_option maxHeartbeats 4000000 in
theorem n_J13_bitCount_95d88 : en_lkM (⟨"java/lang/Long", "bitCount", "(J)I"⟩, prog_16_method_50_code, 2, (some .int), p_J13_bitCount_95d88) := (List.forall_mem_cons.mpr ⟨n_J13_bitCount_95d88_0, (fun _ h => absurd h List.not_mem_nil)⟩)
set_option maxRecDepth 100000 in
set_option maxHeartbeats 4000000 in
theorem k_J9_floorDiv_7cf53 : en_ckM (⟨"java/lang/Math", "floorDiv", "(II)I"⟩, prog_17_method_47_code, 3, (some .int), p_J9_floorDiv_7cf53) = true := by decide +kernel
set_option maxRecDepth 100000 in
set_option maxHeartbeats 4000000 in
theorem n_J9_floorDiv_7cf53_0 : en_lkC "java/lang/Math" false [(.iload_n 0, 1, 0, 0, [], 0, 0), (.iload_n 1, 1, 1, 0, [], 0, 0), (.idiv, 1, 0, 0, [], 0, 0), (.istore_n 2, 1, 2, 0, [], 0, 0), (.iload_n 0, 1, 0, 0, [], 0, 0), (.iload_n 1, 1, 1, 0, [], 0, 0), (.ixor, 1, 0, 0, [], 0, 0), (.ifCond .ge 14, 3, 1, 0, [], 0, 0), (.iload_n 2, 1, 2, 0, [], 0, 0), (.iload_n 1, 1, 1, 0, [], 0, 0), (.imul, 1, 0, 0, [], 0, 0), (.iload_n 0, 1, 0, 0, [], 0, 0), (.if_icmp .eq 7, 3, 1, 0, [], 0, 0), (.iload_n 2, 1, 2, 0, [], 0, 0), (.iconst 1, 1, 0, 0, [], 1, 0), (.isub, 1, 0, 0, [], 0, 0), (.ireturn, 1, 0, 0, [], 0, 0)] := ⟨trivial, ⟨trivial, ⟨trivial, ⟨trivial, ⟨trivial, ⟨trivial, ⟨trivial, ⟨trivial, ⟨trivial, ⟨trivial, ⟨trivial, ⟨trivial, ⟨trivial, ⟨trivial, ⟨trivial, ⟨trivial, ⟨trivial, trivial⟩⟩⟩⟩⟩⟩⟩⟩⟩⟩⟩⟩⟩⟩⟩⟩⟩
set_option maxRecDepth 100000 in
set_option maxHeartbeats 4000000 in
theorem n_J9_floorDiv_7cf53_1 : en_lkC "java/lang/Math" false [(.iload_n 2, 1, 2, 0, [], 0, 0), (.ireturn, 1, 0, 0, [], 0, 0)] := ⟨trivial, ⟨trivial, trivial⟩⟩
set_option maxRecDepth 100000 in
set_option maxHeartbeats 4000000 in
theorem n_J9_floorDiv_7cf53 : en_lkM (⟨"java/lang/Math", "floorDiv", "(II)I"⟩, prog_17_method_47_code, 3, (some .int), p_J9_floorDiv_7cf53) := (List.forall_mem_cons.mpr ⟨n_J9_floorDiv_7cf53_0, (List.forall_mem_cons.mpr ⟨n_J9_floorDiv_7cf53_1, (fun _ h => absurd h List.not_mem_nil)⟩)⟩)
set_option maxRecDepth 100000 in
set_option maxHeartbeats 4000000 in
theorem k_J9_floorDiv_f86c9 : en_ckM (⟨"java/lang/Math", "floorDiv", "(JJ)J"⟩, prog_17_method_49_code, 6, (some .long), p_J9_floorDiv_f86c9) = true := by decide +kernel
set_option maxRecDepth 100000 in
set_option maxHeartbeats 4000000 in
theorem n_J9_floorDiv_f86c9_0 : en_lkC "java/lang/Math" false [(.lload_n 0, 1, 0, 0, [], 0, 0), (.lload_n 2, 1, 2, 0, [], 0, 0), (.ldiv, 1, 0, 0, [], 0, 0), (.lstore 4, 2, 4, 0, [], 0, 0), (.lload_n 0, 1, 0, 0, [], 0, 0), (.lload_n 2, 1, 2, 0, [], 0, 0), (.lxor, 1, 0, 0, [], 0, 0), (.lconst 0, 1, 0, 0, [], 0, 0), (.lcmp, 1, 0, 0, [], 0, 0), (.ifCond .ge 17, 3, 1, 0, [], 0, 0), (.lload 4, 2, 4, 0, [], 0, 0), (.lload_n 2, 1, 2, 0, [], 0, 0), (.lmul, 1, 0, 0, [], 0, 0), (.lload_n 0, 1, 0, 0, [], 0, 0), (.lcmp, 1, 0, 0, [], 0, 0), (.ifCond .eq 8, 3, 1, 0, [], 0, 0), (.lload 4, 2, 4, 0, [], 0, 0), (.lconst 1, 1, 0, 0, [], 0, 1), (.lsub, 1, 0, 0, [], 0, 0), (.lreturn, 1, 0, 0, [], 0, 0)] := ⟨trivial, ⟨trivial, ⟨trivial, ⟨trivial, ⟨trivial, ⟨trivial, ⟨trivial, ⟨trivial, ⟨trivial, ⟨trivial, ⟨trivial, ⟨trivial, ⟨trivial, ⟨trivial, ⟨trivial, ⟨trivial, ⟨trivial, ⟨trivial, ⟨trivial, ⟨trivial, trivial⟩⟩⟩⟩⟩⟩⟩⟩⟩⟩⟩⟩⟩⟩⟩⟩⟩⟩⟩⟩
set_option maxRecDepth 100000 in
set_option maxHeartbeats 4000000 in
theorem n_J9_floorDiv_f86c9_1 : en_lkC "java/lang/Math" false [(.lload 4, 2, 4, 0, [], 0, 0), (.lreturn, 1, 0, 0, [], 0, 0)] := ⟨trivial, ⟨trivial, trivial⟩⟩
set_option maxRecDepth 100000 in
set_option maxHeartbeats 4000000 in
theorem n_J9_floorDiv_f86c9 : en_lkM (⟨"java/lang/Math", "floorDiv", "(JJ)J"⟩, prog_17_method_49_code, 6, (some .long), p_J9_floorDiv_f86c9) := (List.forall_mem_cons.mpr ⟨n_J9_floorDiv_f86c9_0, (List.forall_mem_cons.mpr ⟨n_J9_floorDiv_f86c9_1, (fun _ h => absurd h List.not_mem_nil)⟩)⟩)
set_option maxRecDepth 100000 in
set_option maxHeartbeats 4000000 in
theorem k_J9_floorMod_7cf53 : en_ckM (⟨"java/lang/Math", "floorMod", "(II)I"⟩, prog_17_method_50_code, 3, (some .int), p_J9_floorMod_7cf53) = true := by decide +kernel
set_option maxRecDepth 100000 in
set_option maxHeartbeats 4000000 in
theorem n_J9_floorMod_7cf53_0 : en_lkC "java/lang/Math" false [(.iload_n 0, 1, 0, 0, [], 0, 0), (.iload_n 1, 1, 1, 0, [], 0, 0), (.irem, 1, 0, 0, [], 0, 0), (.istore_n 2, 1, 2, 0, [], 0, 0), (.iload_n 0, 1, 0, 0, [], 0, 0), (.iload_n 1, 1, 1, 0, [], 0, 0), (.ixor, 1, 0, 0, [], 0, 0), (.ifCond .ge 11, 3, 1, 0, [], 0, 0), (.iload_n 2, 1, 2, 0, [], 0, 0), (.ifCond .eq 7, 3, 1, 0, [], 0, 0), (.iload_n 2, 1, 2, 0, [], 0, 0), (.iload_n 1, 1, 1, 0, [], 0, 0), (.iadd, 1, 0, 0, [], 0, 0), (.ireturn, 1, 0, 0, [], 0, 0)] := ⟨trivial, ⟨trivial, ⟨trivial, ⟨trivial, ⟨trivial, ⟨trivial, ⟨trivial, ⟨trivial, ⟨trivial, ⟨trivial, ⟨trivial, ⟨trivial, ⟨trivial, ⟨trivial, trivial⟩⟩⟩⟩⟩⟩⟩⟩⟩⟩⟩⟩⟩⟩
set_option maxRecDepth 100000 in
set_option maxHeartbeats 4000000 in
theorem n_J9_floorMod_7cf53_1 : en_lkC "java/lang/Math" false [(.iload_n 2, 1, 2, 0, [], 0, 0), (.ireturn, 1, 0, 0, [], 0, 0)] := ⟨trivial, ⟨trivial, trivial⟩⟩
set_option maxRecDepth 100000 in
set_option maxHeartbeats 4000000 in
theorem n_J9_floorMod_7cf53 : en_lkM (⟨"java/lang/Math", "floorMod", "(II)I"⟩, prog_17_method_50_code, 3, (some .int), p_J9_floorMod_7cf53) := (List.forall_mem_cons.mpr ⟨n_J9_floorMod_7cf53_0, (List.forall_mem_cons.mpr ⟨n_J9_floorMod_7cf53_1, (fun _ h => absurd h List.not_mem_nil)⟩)⟩)
set_option maxRecDepth 100000 in
set_option maxHeartbeats 4000000 in
theorem k_J9_floorMod_f86c9 : en_ckM (⟨"java/lang/Math", "floorMod", "(JJ)J"⟩, prog_17_method_52_code, 6, (some .long), p_J9_floorMod_f86c9) = true := by decide +kernel
set_option maxRecDepth 100000 in
set_option maxHeartbeats 4000000 in
theorem n_J9_floorMod_f86c9_0 : en_lkC "java/lang/Math" false [(.lload_n 0, 1, 0, 0, [], 0, 0), (.lload_n 2, 1, 2, 0, [], 0, 0), (.lrem, 1, 0, 0, [], 0, 0), (.lstore 4, 2, 4, 0, [], 0, 0), (.lload_n 0, 1, 0, 0, [], 0, 0), (.lload_n 2, 1, 2, 0, [], 0, 0), (.lxor, 1, 0, 0, [], 0, 0), (.lconst 0, 1, 0, 0, [], 0, 0), (.lcmp, 1, 0, 0, [], 0, 0), (.ifCond .ge 15, 3, 1, 0, [], 0, 0), (.lload 4, 2, 4, 0, [], 0, 0), (.lconst 0, 1, 0, 0, [], 0, 0), (.lcmp, 1, 0, 0, [], 0, 0), (.ifCond .eq 8, 3, 1, 0, [], 0, 0), (.lload 4, 2, 4, 0, [], 0, 0), (.lload_n 2, 1, 2, 0, [], 0, 0), (.ladd, 1, 0, 0, [], 0, 0), (.lreturn, 1, 0, 0, [], 0, 0)] := ⟨trivial, ⟨trivial, ⟨trivial, ⟨trivial, ⟨trivial, ⟨trivial, ⟨trivial, ⟨trivial, ⟨trivial, ⟨trivial, ⟨trivial, ⟨trivial, ⟨trivial, ⟨trivial, ⟨trivial, ⟨trivial, ⟨trivial, ⟨trivial, trivial⟩⟩⟩⟩⟩⟩⟩⟩⟩⟩⟩⟩⟩⟩⟩⟩⟩⟩
set_option maxRecDepth 100000 in
set_option maxHeartbeats 4000000 in
theorem n_J9_floorMod_f86c9_1 : en_lkC "java/lang/Math" false [(.lload 4, 2, 4, 0, [], 0, 0), (.lreturn, 1, 0, 0, [], 0, 0)] := ⟨trivial, ⟨trivial, trivial⟩⟩
set_option maxRecDepth 100000 in
set_option maxHeartbeats 4000000 in
theorem n_J9_floorMod_f86c9 : en_lkM (⟨"java/lang/Math", "floorMod", "(JJ)J"⟩, prog_17_method_52_code, 6, (some .long), p_J9_floorMod_f86c9) := (List.forall_mem_cons.mpr ⟨n_J9_floorMod_f86c9_0, (List.forall_mem_cons.mpr ⟨n_J9_floorMod_f86c9_1, (fun _ h => absurd h List.not_mem_nil)⟩)⟩)
set_option maxRecDepth 100000 in
set_option maxHeartbeats 4000000 in
theorem k_J9_abs_0f7a4 : en_ckM (⟨"java/lang/Math", "abs", "(I)I"⟩, prog_17_method_59_code, 1, (some .int), p_J9_abs_0f7a4) = true := by decide +kernel
set_option maxRecDepth 100000 in
set_option maxHeartbeats 4000000 in
theorem n_J9_abs_0f7a4_0 : en_lkC "java/lang/Math" false [(.iload_n 0, 1, 0, 0, [], 0, 0), (.ifCond .ge 8, 3, 1, 0, [], 0, 0), (.iload_n 0, 1, 0, 0, [], 0, 0), (.ineg, 1, 0, 0, [], 0, 0), (.goto 4, 3, 2, 0, [], 0, 0)] := ⟨trivial, ⟨trivial, ⟨trivial, ⟨trivial, ⟨trivial, trivial⟩⟩⟩⟩⟩
set_option maxRecDepth 100000 in
set_option maxHeartbeats 4000000 in
theorem n_J9_abs_0f7a4_1 : en_lkC "java/lang/Math" false [(.iload_n 0, 1, 0, 0, [], 0, 0)] := ⟨trivial, trivial⟩
set_option maxRecDepth 100000 in
set_option maxHeartbeats 4000000 in
theorem n_J9_abs_0f7a4_2 : en_lkC "java/lang/Math" false [(.ireturn, 1, 0, 0, [], 0, 0)] := ⟨trivial, trivial⟩
set_option maxRecDepth 100000 in
set_option maxHeartbeats 4000000 in
theorem n_J9_abs_0f7a4 : en_lkM (⟨"java/lang/Math", "abs", "(I)I"⟩, prog_17_method_59_code, 1, (some .int), p_J9_abs_0f7a4) := (List.forall_mem_cons.mpr ⟨n_J9_abs_0f7a4_0, (List.forall_mem_cons.mpr ⟨n_J9_abs_0f7a4_1, (List.forall_mem_cons.mpr ⟨n_J9_abs_0f7a4_2, (fun _ h => absurd h List.not_mem_nil)⟩)⟩)⟩)
set_option maxRecDepth 100000 in
set_option maxHeartbeats 4000000 in
theorem k_J9_abs_067f4 : en_ckM (⟨"java/lang/Math", "abs", "(J)J"⟩, prog_17_method_61_code, 2, (some .long), p_J9_abs_067f4) = true := by decide +kernel
set_option maxRecDepth 100000 in
set_option maxHeartbeats 4000000 in
theorem n_J9_abs_067f4_0 : en_lkC "java/lang/Math" false [(.lload_n 0, 1, 0, 0, [], 0, 0), (.lconst 0, 1, 0, 0, [], 0, 0), (.lcmp, 1, 0, 0, [], 0, 0), (.ifCond .ge 8, 3, 1, 0, [], 0, 0), (.lload_n 0, 1, 0, 0, [], 0, 0), (.lneg, 1, 0, 0, [], 0, 0), (.goto 4, 3, 2, 0, [], 0, 0)] := ⟨trivial, ⟨trivial, ⟨trivial, ⟨trivial, ⟨trivial, ⟨trivial, ⟨trivial, trivial⟩⟩⟩⟩⟩⟩⟩
set_option maxRecDepth 100000 in
set_option maxHeartbeats 4000000 in
theorem n_J9_abs_067f4_1 : en_lkC "java/lang/Math" false [(.lload_n 0, 1, 0, 0, [], 0, 0)] := ⟨trivial, trivial⟩
set_option maxRecDepth 100000 in
set_option maxHeartbeats 4000000 in
theorem n_J9_abs_067f4_2 : en_lkC "java/lang/Math" false [(.lreturn, 1, 0, 0, [], 0, 0)] := ⟨trivial, trivial⟩
set_option maxRecDepth 100000 in
set_option maxHeartbeats 4000000 in
theorem n_J9_abs_067f4 : en_lkM (⟨"java/lang/Math", "abs", "(J)J"⟩, prog_17_method_61_code, 2, (some .long), p_J9_abs_067f4) := (List.forall_mem_cons.mpr ⟨n_J9_abs_067f4_0, (List.forall_mem_cons.mpr ⟨n_J9_abs_067f4_1, (List.forall_mem_cons.mpr ⟨n_J9_abs_067f4_2, (fun _ h => absurd h List.not_mem_nil)⟩)⟩)⟩)
set_option maxRecDepth 100000 in
set_option maxHeartbeats 4000000 in
theorem k_J9_max_7cf53 : en_ckM (⟨"java/lang/Math", "max", "(II)I"⟩, prog_17_method_65_code, 2, (some .int), p_J9_max_7cf53) = true := by decide +kernel
set_option maxRecDepth 100000 in
set_option maxHeartbeats 4000000 in
theorem n_J9_max_7cf53_0 : en_lkC "java/lang/Math" false [(.iload_n 0, 1, 0, 0, [], 0, 0), (.iload_n 1, 1, 1, 0, [], 0, 0), (.if_icmp .lt 7, 3, 1, 0, [], 0, 0), (.iload_n 0, 1, 0, 0, [], 0, 0), (.goto 4, 3, 2, 0, [], 0, 0)] := ⟨trivial, ⟨trivial, ⟨trivial, ⟨trivial, ⟨trivial, trivial⟩⟩⟩⟩⟩
set_option maxRecDepth 100000 in
set_option maxHeartbeats 4000000 in
theorem n_J9_max_7cf53_1 : en_lkC "java/lang/Math" false [(.iload_n 1, 1, 1, 0, [], 0, 0)] := ⟨trivial, trivial⟩
set_option maxRecDepth 100000 in
set_option maxHeartbeats 4000000 in
theorem n_J9_max_7cf53_2 : en_lkC "java/lang/Math" false [(.ireturn, 1, 0, 0, [], 0, 0)] := ⟨trivial, trivial⟩
set_option maxRecDepth 100000 in
set_option maxHeartbeats 4000000 in
theorem n_J9_max_7cf53 : en_lkM (⟨"java/lang/Math", "max", "(II)I"⟩, prog_17_method_65_code, 2, (some .int), p_J9_max_7cf53) := (List.forall_mem_cons.mpr ⟨n_J9_max_7cf53_0, (List.forall_mem_cons.mpr ⟨n_J9_max_7cf53_1, (List.forall_mem_cons.mpr ⟨n_J9_max_7cf53_2, (fun _ h => absurd h List.not_mem_nil)⟩)⟩)⟩)
set_option maxRecDepth 100000 in
set_option maxHeartbeats 4000000 in
theorem k_J9_max_f86c9 : en_ckM (⟨"java/lang/Math", "max", "(JJ)J"⟩, prog_17_method_66_code, 4, (some .long), p_J9_max_f86c9) = true := by decide +kernel
set_option maxRecDepth 100000 in
set_option maxHeartbeats 4000000 in
theorem n_J9_max_f86c9_0 : en_lkC "java/lang/Math" false [(.lload_n 0, 1, 0, 0, [], 0, 0), (.lload_n 2, 1, 2, 0, [], 0, 0), (.lcmp, 1, 0, 0, [], 0, 0), (.ifCond .lt 7, 3, 1, 0, [], 0, 0), (.lload_n 0, 1, 0, 0, [], 0, 0), (.goto 4, 3, 2, 0, [], 0, 0)] := ⟨trivial, ⟨trivial, ⟨trivial, ⟨trivial, ⟨trivial, ⟨trivial, trivial⟩⟩⟩⟩⟩⟩
set_option maxRecDepth 100000 in
set_option maxHeartbeats 4000000 in
theorem n_J9_max_f86c9_1 : en_lkC "java/lang/Math" false [(.lload_n 2, 1, 2, 0, [], 0, 0)] := ⟨trivial, trivial⟩
set_option maxRecDepth 100000 in
set_option maxHeartbeats 4000000 in
theorem n_J9_max_f86c9_2 : en_lkC "java/lang/Math" false [(.lreturn, 1, 0, 0, [], 0, 0)] := ⟨trivial, trivial⟩
set_option maxRecDepth 100000 in
set_option maxHeartbeats 4000000 in
theorem n_J9_max_f86c9 : en_lkM (⟨"java/lang/Math", "max", "(JJ)J"⟩, prog_17_method_66_code, 4, (some .long), p_J9_max_f86c9) := (List.forall_mem_cons.mpr ⟨n_J9_max_f86c9_0, (List.forall_mem_cons.mpr ⟨n_J9_max_f86c9_1, (List.forall_mem_cons.mpr ⟨n_J9_max_f86c9_2, (fun _ h => absurd h List.not_mem_nil)⟩)⟩)⟩)
set_option maxRecDepth 100000 in
set_option maxHeartbeats 4000000 in
theorem k_J9_min_7cf53 : en_ckM (⟨"java/lang/Math", "min", "(II)I"⟩, prog_17_method_69_code, 2, (some .int), p_J9_min_7cf53) = true := by decide +kernel
set_option maxRecDepth 100000 in
set_option maxHeartbeats 4000000 in
theorem n_J9_min_7cf53_0 : en_lkC "java/lang/Math" false [(.iload_n 0, 1, 0, 0, [], 0, 0), (.iload_n 1, 1, 1, 0, [], 0, 0), (.if_icmp .gt 7, 3, 1, 0, [], 0, 0), (.iload_n 0, 1, 0, 0, [], 0, 0), (.goto 4, 3, 2, 0, [], 0, 0)] := ⟨trivial, ⟨trivial, ⟨trivial, ⟨trivial, ⟨trivial, trivial⟩⟩⟩⟩⟩
set_option maxRecDepth 100000 in
set_option maxHeartbeats 4000000 in
theorem n_J9_min_7cf53_1 : en_lkC "java/lang/Math" false [(.iload_n 1, 1, 1, 0, [], 0, 0)] := ⟨trivial, trivial⟩
set_option maxRecDepth 100000 in
set_option maxHeartbeats 4000000 in
theorem n_J9_min_7cf53_2 : en_lkC "java/lang/Math" false [(.ireturn, 1, 0, 0, [], 0, 0)] := ⟨trivial, trivial⟩
set_option maxRecDepth 100000 in
set_option maxHeartbeats 4000000 in
theorem n_J9_min_7cf53 : en_lkM (⟨"java/lang/Math", "min", "(II)I"⟩, prog_17_method_69_code, 2, (some .int), p_J9_min_7cf53) := (List.forall_mem_cons.mpr ⟨n_J9_min_7cf53_0, (List.forall_mem_cons.mpr ⟨n_J9_min_7cf53_1, (List.forall_mem_cons.mpr ⟨n_J9_min_7cf53_2, (fun _ h => absurd h List.not_mem_nil)⟩)⟩)⟩)
set_option maxRecDepth 100000 in
set_option maxHeartbeats 4000000 in
theorem n_L_law_0 : en_lkC "EvenStepsLaw" false [(.new 7, 3, 10, 0, [], 0, 0), (.dup, 1, 0, 0, [], 0, 0), (.invokespecial 9, 3, 0, 4, [(10, 61)], 0, 0), (.astore_n 1, 1, 1, 0, [], 0, 0), (.new 10, 3, 11, 0, [], 0, 0), (.dup, 1, 0, 0, [], 0, 0), (.invokespecial 12, 3, 0, 4, [(11, 130)], 0, 0), (.astore_n 2, 1, 2, 0, [], 0, 0), (.iconst 0, 1, 0, 0, [], 0, 0), (.istore_n 3, 1, 3, 0, [], 0, 0)] := ⟨⟨"EvenSteps", en_T10, 11, rfl, wd_79⟩, ⟨trivial, ⟨(Or.inr ⟨by decide, Or.inl lk_432⟩), ⟨trivial, ⟨⟨"EvenStepsModel", en_T11, 33, rfl, wd_940⟩, ⟨trivial, ⟨(Or.inr ⟨by decide, Or.inl lk_434⟩), ⟨trivial, ⟨trivial, ⟨trivial, trivial⟩⟩⟩⟩⟩⟩⟩⟩⟩⟩
set_option maxRecDepth 100000 in
set_option maxHeartbeats 4000000 in
theorem n_L_law_1 : en_lkC "EvenStepsLaw" false [(.iload_n 3, 1, 3, 0, [], 0, 0), (.aload_n 0, 1, 0, 0, [], 0, 0), (.arraylength, 1, 0, 0, [], 0, 0), (.bipush 6, 2, 0, 0, [], 6, 0), (.isub, 1, 0, 0, [], 0, 0), (.if_icmp .gt 1563, 3, 39, 0, [], 0, 0), (.aload_n 0, 1, 0, 0, [], 0, 0), (.iload_n 3, 1, 3, 0, [], 0, 0), (.iaload, 1, 0, 0, [], 0, 0), (.bipush 63, 2, 0, 0, [], 63, 0), (.iand, 1, 0, 0, [], 0, 0), (.tableswitch 1548 0 35 #[159, 212, 255, 298, 331, 394, 417, 440, 463, 496, 539, 572, 605, 658, 701, 734, 757, 790, 823, 866, 919, 972, 1015, 1048, 1101, 1144, 1177, 1211, 1274, 1307, 1340, 1383, 1406, 1449, 1492, 1535], 159, 38, 0, [(0, 2), (1, 3), (2, 4), (3, 5), (4, 6), (5, 7), (6, 8), (7, 9), (8, 10), (9, 11), (10, 12), (11, 13), (12, 14), (13, 15), (14, 16), (15, 17), (16, 18), (17, 19), (18, 20), (19, 21), (20, 22), (21, 23), (22, 24), (23, 25), (24, 26), (25, 27), (26, 28), (27, 29), (28, 30), (29, 31), (30, 32), (31, 33), (32, 34), (33, 35), (34, 36), (35, 37)], 0, 0)] := ⟨trivial, ⟨trivial, ⟨trivial, ⟨trivial, ⟨trivial, ⟨trivial, ⟨trivial, ⟨trivial, ⟨trivial, ⟨trivial, ⟨trivial, ⟨trivial, trivial⟩⟩⟩⟩⟩⟩⟩⟩⟩⟩⟩⟩
set_option maxRecDepth 100000 in
set_option maxHeartbeats 4000000 in
theorem n_L_law_2 : en_lkC "EvenStepsLaw" false [(.aload_n 1, 1, 1, 0, [], 0, 0), (.aload_n 0, 1, 0, 0, [], 0, 0), (.iload_n 3, 1, 3, 0, [], 0, 0), (.iconst 1, 1, 0, 0, [], 1, 0), (.iadd, 1, 0, 0, [], 0, 0), (.iaload, 1, 0, 0, [], 0, 0), (.aload_n 0, 1, 0, 0, [], 0, 0), (.iload_n 3, 1, 3, 0, [], 0, 0), (.iconst 2, 1, 0, 0, [], 2, 0), (.iadd, 1, 0, 0, [], 0, 0), (.iaload, 1, 0, 0, [], 0, 0), (.aload_n 0, 1, 0, 0, [], 0, 0), (.iload_n 3, 1, 3, 0, [], 0, 0), (.iconst 3, 1, 0, 0, [], 3, 0), (.iadd, 1, 0, 0, [], 0, 0), (.iaload, 1, 0, 0, [], 0, 0), (.aload_n 0, 1, 0, 0, [], 0, 0), (.iload_n 3, 1, 3, 0, [], 0, 0), (.iconst 4, 1, 0, 0, [], 4, 0), (.iadd, 1, 0, 0, [], 0, 0), (.iaload, 1, 0, 0, [], 0, 0), (.invokevirtual 13, 3, 4, 0, [(10, 62)], 0, 0), (.aload_n 2, 1, 2, 0, [], 0, 0), (.aload_n 0, 1, 0, 0, [], 0, 0), (.iload_n 3, 1, 3, 0, [], 0, 0), (.iconst 1, 1, 0, 0, [], 1, 0), (.iadd, 1, 0, 0, [], 0, 0), (.iaload, 1, 0, 0, [], 0, 0), (.aload_n 0, 1, 0, 0, [], 0, 0), (.iload_n 3, 1, 3, 0, [], 0, 0), (.iconst 2, 1, 0, 0, [], 2, 0), (.iadd, 1, 0, 0, [], 0, 0), (.iaload, 1, 0, 0, [], 0, 0), (.aload_n 0, 1, 0, 0, [], 0, 0), (.iload_n 3, 1, 3, 0, [], 0, 0), (.iconst 3, 1, 0, 0, [], 3, 0), (.iadd, 1, 0, 0, [], 0, 0), (.iaload, 1, 0, 0, [], 0, 0), (.aload_n 0, 1, 0, 0, [], 0, 0), (.iload_n 3, 1, 3, 0, [], 0, 0), (.iconst 4, 1, 0, 0, [], 4, 0), (.iadd, 1, 0, 0, [], 0, 0), (.iaload, 1, 0, 0, [], 0, 0), (.invokevirtual 17, 3, 4, 0, [(11, 139)], 0, 0), (.if_icmp .eq 1341, 3, 38, 0, [], 0, 0), (.iconst 0, 1, 0, 0, [], 0, 0), (.ireturn, 1, 0, 3, [], 0, 0)] := ⟨trivial, ⟨trivial, ⟨trivial, ⟨trivial, ⟨trivial, ⟨trivial, ⟨trivial, ⟨trivial, ⟨trivial, ⟨trivial, ⟨trivial, ⟨trivial, ⟨trivial, ⟨trivial, ⟨trivial, ⟨trivial, ⟨trivial, ⟨trivial, ⟨trivial, ⟨trivial, ⟨trivial, ⟨lk_435, ⟨trivial, ⟨trivial, ⟨trivial, ⟨trivial, ⟨trivial, ⟨trivial, ⟨trivial, ⟨trivial, ⟨trivial, ⟨trivial, ⟨trivial, ⟨trivial, ⟨trivial, ⟨trivial, ⟨trivial, ⟨trivial, ⟨trivial, ⟨trivial, ⟨trivial, ⟨trivial, ⟨trivial, ⟨lk_436, ⟨trivial, ⟨trivial, ⟨trivial, trivial⟩⟩⟩⟩⟩⟩⟩⟩⟩⟩⟩⟩⟩⟩⟩⟩⟩⟩⟩⟩⟩⟩⟩⟩⟩⟩⟩⟩⟩⟩⟩⟩⟩⟩⟩⟩⟩⟩⟩⟩⟩⟩⟩⟩⟩⟩⟩
set_option maxRecDepth 100000 in
set_option maxHeartbeats 4000000 in
theorem n_L_law_3 : en_lkC "EvenStepsLaw" false [(.aload_n 1, 1, 1, 0, [], 0, 0), (.aload_n 0, 1, 0, 0, [], 0, 0), (.iload_n 3, 1, 3, 0, [], 0, 0), (.iconst 1, 1, 0, 0, [], 1, 0), (.iadd, 1, 0, 0, [], 0, 0), (.iaload, 1, 0, 0, [], 0, 0), (.aload_n 0, 1, 0, 0, [], 0, 0), (.iload_n 3, 1, 3, 0, [], 0, 0), (.iconst 2, 1, 0, 0, [], 2, 0), (.iadd, 1, 0, 0, [], 0, 0), (.iaload, 1, 0, 0, [], 0, 0), (.aload_n 0, 1, 0, 0, [], 0, 0), (.iload_n 3, 1, 3, 0, [], 0, 0), (.iconst 3, 1, 0, 0, [], 3, 0), (.iadd, 1, 0, 0, [], 0, 0), (.iaload, 1, 0, 0, [], 0, 0), (.invokevirtual 18, 3, 3, 0, [(10, 63)], 0, 0), (.aload_n 2, 1, 2, 0, [], 0, 0), (.aload_n 0, 1, 0, 0, [], 0, 0), (.iload_n 3, 1, 3, 0, [], 0, 0), (.iconst 1, 1, 0, 0, [], 1, 0), (.iadd, 1, 0, 0, [], 0, 0), (.iaload, 1, 0, 0, [], 0, 0), (.aload_n 0, 1, 0, 0, [], 0, 0), (.iload_n 3, 1, 3, 0, [], 0, 0), (.iconst 2, 1, 0, 0, [], 2, 0), (.iadd, 1, 0, 0, [], 0, 0), (.iaload, 1, 0, 0, [], 0, 0), (.aload_n 0, 1, 0, 0, [], 0, 0), (.iload_n 3, 1, 3, 0, [], 0, 0), (.iconst 3, 1, 0, 0, [], 3, 0), (.iadd, 1, 0, 0, [], 0, 0), (.iaload, 1, 0, 0, [], 0, 0), (.invokevirtual 22, 3, 3, 0, [(11, 153)], 0, 0), (.if_icmp .eq 1298, 3, 38, 0, [], 0, 0), (.iconst 0, 1, 0, 0, [], 0, 0), (.ireturn, 1, 0, 3, [], 0, 0)] := ⟨trivial, ⟨trivial, ⟨trivial, ⟨trivial, ⟨trivial, ⟨trivial, ⟨trivial, ⟨trivial, ⟨trivial, ⟨trivial, ⟨trivial, ⟨trivial, ⟨trivial, ⟨trivial, ⟨trivial, ⟨trivial, ⟨lk_437, ⟨trivial, ⟨trivial, ⟨trivial, ⟨trivial, ⟨trivial, ⟨trivial, ⟨trivial, ⟨trivial, ⟨trivial, ⟨trivial, ⟨trivial, ⟨trivial, ⟨trivial, ⟨trivial, ⟨trivial, ⟨trivial, ⟨lk_438, ⟨trivial, ⟨trivial, ⟨trivial, trivial⟩⟩⟩⟩⟩⟩⟩⟩⟩⟩⟩⟩⟩⟩⟩⟩⟩⟩⟩⟩⟩⟩⟩⟩⟩⟩⟩⟩⟩⟩⟩⟩⟩⟩⟩⟩⟩
set_option maxRecDepth 100000 in
set_option maxHeartbeats 4000000 in
theorem n_L_law_4 : en_lkC "EvenStepsLaw" false [(.aload_n 1, 1, 1, 0, [], 0, 0), (.aload_n 0, 1, 0, 0, [], 0, 0), (.iload_n 3, 1, 3, 0, [], 0, 0), (.iconst 1, 1, 0, 0, [], 1, 0), (.iadd, 1, 0, 0, [], 0, 0), (.iaload, 1, 0, 0, [], 0, 0), (.aload_n 0, 1, 0, 0, [], 0, 0), (.iload_n 3, 1, 3, 0, [], 0, 0), (.iconst 2, 1, 0, 0, [], 2, 0), (.iadd, 1, 0, 0, [], 0, 0), (.iaload, 1, 0, 0, [], 0, 0), (.aload_n 0, 1, 0, 0, [], 0, 0), (.iload_n 3, 1, 3, 0, [], 0, 0), (.iconst 3, 1, 0, 0, [], 3, 0), (.iadd, 1, 0, 0, [], 0, 0), (.iaload, 1, 0, 0, [], 0, 0), (.invokevirtual 23, 3, 3, 0, [(10, 64)], 0, 0), (.aload_n 2, 1, 2, 0, [], 0, 0), (.aload_n 0, 1, 0, 0, [], 0, 0), (.iload_n 3, 1, 3, 0, [], 0, 0), (.iconst 1, 1, 0, 0, [], 1, 0), (.iadd, 1, 0, 0, [], 0, 0), (.iaload, 1, 0, 0, [], 0, 0), (.aload_n 0, 1, 0, 0, [], 0, 0), (.iload_n 3, 1, 3, 0, [], 0, 0), (.iconst 2, 1, 0, 0, [], 2, 0), (.iadd, 1, 0, 0, [], 0, 0), (.iaload, 1, 0, 0, [], 0, 0), (.aload_n 0, 1, 0, 0, [], 0, 0), (.iload_n 3, 1, 3, 0, [], 0, 0), (.iconst 3, 1, 0, 0, [], 3, 0), (.iadd, 1, 0, 0, [], 0, 0), (.iaload, 1, 0, 0, [], 0, 0), (.invokevirtual 26, 3, 3, 0, [(11, 155)], 0, 0), (.if_icmp .eq 1255, 3, 38, 0, [], 0, 0), (.iconst 0, 1, 0, 0, [], 0, 0), (.ireturn, 1, 0, 3, [], 0, 0)] := ⟨trivial, ⟨trivial, ⟨trivial, ⟨trivial, ⟨trivial, ⟨trivial, ⟨trivial, ⟨trivial, ⟨trivial, ⟨trivial, ⟨trivial, ⟨trivial, ⟨trivial, ⟨trivial, ⟨trivial, ⟨trivial, ⟨lk_439, ⟨trivial, ⟨trivial, ⟨trivial, ⟨trivial, ⟨trivial, ⟨trivial, ⟨trivial, ⟨trivial, ⟨trivial, ⟨trivial, ⟨trivial, ⟨trivial, ⟨trivial, ⟨trivial, ⟨trivial, ⟨trivial, ⟨lk_440, ⟨trivial, ⟨trivial, ⟨trivial, trivial⟩⟩⟩⟩⟩⟩⟩⟩⟩⟩⟩⟩⟩⟩⟩⟩⟩⟩⟩⟩⟩⟩⟩⟩⟩⟩⟩⟩⟩⟩⟩⟩⟩⟩⟩⟩⟩
set_option maxRecDepth 100000 in
set_option maxHeartbeats 4000000 in
theorem n_L_law_5 : en_lkC "EvenStepsLaw" false [(.aload_n 1, 1, 1, 0, [], 0, 0), (.aload_n 0, 1, 0, 0, [], 0, 0), (.iload_n 3, 1, 3, 0, [], 0, 0), (.iconst 1, 1, 0, 0, [], 1, 0), (.iadd, 1, 0, 0, [], 0, 0), (.iaload, 1, 0, 0, [], 0, 0), (.aload_n 0, 1, 0, 0, [], 0, 0), (.iload_n 3, 1, 3, 0, [], 0, 0), (.iconst 2, 1, 0, 0, [], 2, 0), (.iadd, 1, 0, 0, [], 0, 0), (.iaload, 1, 0, 0, [], 0, 0), (.invokevirtual 27, 3, 2, 0, [(10, 65)], 0, 0), (.aload_n 2, 1, 2, 0, [], 0, 0), (.aload_n 0, 1, 0, 0, [], 0, 0), (.iload_n 3, 1, 3, 0, [], 0, 0), (.iconst 1, 1, 0, 0, [], 1, 0), (.iadd, 1, 0, 0, [], 0, 0), (.iaload, 1, 0, 0, [], 0, 0), (.aload_n 0, 1, 0, 0, [], 0, 0), (.iload_n 3, 1, 3, 0, [], 0, 0), (.iconst 2, 1, 0, 0, [], 2, 0), (.iadd, 1, 0, 0, [], 0, 0), (.iaload, 1, 0, 0, [], 0, 0), (.invokevirtual 31, 3, 2, 0, [(11, 156)], 0, 0), (.if_icmp .eq 1222, 3, 38, 0, [], 0, 0), (.iconst 0, 1, 0, 0, [], 0, 0), (.ireturn, 1, 0, 3, [], 0, 0)] := ⟨trivial, ⟨trivial, ⟨trivial, ⟨trivial, ⟨trivial, ⟨trivial, ⟨trivial, ⟨trivial, ⟨trivial, ⟨trivial, ⟨trivial, ⟨lk_441, ⟨trivial, ⟨trivial, ⟨trivial, ⟨trivial, ⟨trivial, ⟨trivial, ⟨trivial, ⟨trivial, ⟨trivial, ⟨trivial, ⟨trivial, ⟨lk_442, ⟨trivial, ⟨trivial, ⟨trivial, trivial⟩⟩⟩⟩⟩⟩⟩⟩⟩⟩⟩⟩⟩⟩⟩⟩⟩⟩⟩⟩⟩⟩⟩⟩⟩⟩⟩
set_option maxRecDepth 100000 in
set_option maxHeartbeats 4000000 in
theorem n_L_law_6 : en_lkC "EvenStepsLaw" false [(.aload_n 1, 1, 1, 0, [], 0, 0), (.aload_n 0, 1, 0, 0, [], 0, 0), (.iload_n 3, 1, 3, 0, [], 0, 0), (.iconst 1, 1, 0, 0, [], 1, 0), (.iadd, 1, 0, 0, [], 0, 0), (.iaload, 1, 0, 0, [], 0, 0), (.aload_n 0, 1, 0, 0, [], 0, 0), (.iload_n 3, 1, 3, 0, [], 0, 0), (.iconst 2, 1, 0, 0, [], 2, 0), (.iadd, 1, 0, 0, [], 0, 0), (.iaload, 1, 0, 0, [], 0, 0), (.aload_n 0, 1, 0, 0, [], 0, 0), (.iload_n 3, 1, 3, 0, [], 0, 0), (.iconst 3, 1, 0, 0, [], 3, 0), (.iadd, 1, 0, 0, [], 0, 0), (.iaload, 1, 0, 0, [], 0, 0), (.aload_n 0, 1, 0, 0, [], 0, 0), (.iload_n 3, 1, 3, 0, [], 0, 0), (.iconst 4, 1, 0, 0, [], 4, 0), (.iadd, 1, 0, 0, [], 0, 0), (.iaload, 1, 0, 0, [], 0, 0), (.aload_n 0, 1, 0, 0, [], 0, 0), (.iload_n 3, 1, 3, 0, [], 0, 0), (.iconst 5, 1, 0, 0, [], 5, 0), (.iadd, 1, 0, 0, [], 0, 0), (.iaload, 1, 0, 0, [], 0, 0), (.invokevirtual 32, 3, 5, 0, [(10, 66)], 0, 0), (.aload_n 2, 1, 2, 0, [], 0, 0), (.aload_n 0, 1, 0, 0, [], 0, 0), (.iload_n 3, 1, 3, 0, [], 0, 0), (.iconst 1, 1, 0, 0, [], 1, 0), (.iadd, 1, 0, 0, [], 0, 0), (.iaload, 1, 0, 0, [], 0, 0), (.aload_n 0, 1, 0, 0, [], 0, 0), (.iload_n 3, 1, 3, 0, [], 0, 0), (.iconst 2, 1, 0, 0, [], 2, 0), (.iadd, 1, 0, 0, [], 0, 0), (.iaload, 1, 0, 0, [], 0, 0), (.aload_n 0, 1, 0, 0, [], 0, 0), (.iload_n 3, 1, 3, 0, [], 0, 0), (.iconst 3, 1, 0, 0, [], 3, 0), (.iadd, 1, 0, 0, [], 0, 0), (.iaload, 1, 0, 0, [], 0, 0), (.aload_n 0, 1, 0, 0, [], 0, 0), (.iload_n 3, 1, 3, 0, [], 0, 0), (.iconst 4, 1, 0, 0, [], 4, 0), (.iadd, 1, 0, 0, [], 0, 0), (.iaload, 1, 0, 0, [], 0, 0), (.aload_n 0, 1, 0, 0, [], 0, 0), (.iload_n 3, 1, 3, 0, [], 0, 0), (.iconst 5, 1, 0, 0, [], 5, 0), (.iadd, 1, 0, 0, [], 0, 0), (.iaload, 1, 0, 0, [], 0, 0), (.invokevirtual 36, 3, 5, 0, [(11, 157)], 0, 0), (.if_icmp .eq 1159, 3, 38, 0, [], 0, 0), (.iconst 0, 1, 0, 0, [], 0, 0), (.ireturn, 1, 0, 3, [], 0, 0)] := ⟨trivial, ⟨trivial, ⟨trivial, ⟨trivial, ⟨trivial, ⟨trivial, ⟨trivial, ⟨trivial, ⟨trivial, ⟨trivial, ⟨trivial, ⟨trivial, ⟨trivial, ⟨trivial, ⟨trivial, ⟨trivial, ⟨trivial, ⟨trivial, ⟨trivial, ⟨trivial, ⟨trivial, ⟨trivial, ⟨trivial, ⟨trivial, ⟨trivial, ⟨trivial, ⟨lk_443, ⟨trivial, ⟨trivial, ⟨trivial, ⟨trivial, ⟨trivial, ⟨trivial, ⟨trivial, ⟨trivial, ⟨trivial, ⟨trivial, ⟨trivial, ⟨trivial, ⟨trivial, ⟨trivial, ⟨trivial, ⟨trivial, ⟨trivial, ⟨trivial, ⟨trivial, ⟨trivial, ⟨trivial, ⟨trivial, ⟨trivial, ⟨trivial, ⟨trivial, ⟨trivial, ⟨lk_444, ⟨trivial, ⟨trivial, ⟨trivial, trivial⟩⟩⟩⟩⟩⟩⟩⟩⟩⟩⟩⟩⟩⟩⟩⟩⟩⟩⟩⟩⟩⟩⟩⟩⟩⟩⟩⟩⟩⟩⟩⟩⟩⟩⟩⟩⟩⟩⟩⟩⟩⟩⟩⟩⟩⟩⟩⟩⟩⟩⟩⟩⟩⟩⟩⟩⟩
set_option maxRecDepth 100000 in
set_option maxHeartbeats 4000000 in
theorem n_L_law_7 : en_lkC "EvenStepsLaw" false [(.aload_n 1, 1, 1, 0, [], 0, 0), (.aload_n 0, 1, 0, 0, [], 0, 0), (.iload_n 3, 1, 3, 0, [], 0, 0), (.iconst 1, 1, 0, 0, [], 1, 0), (.iadd, 1, 0, 0, [], 0, 0), (.iaload, 1, 0, 0, [], 0, 0), (.invokevirtual 37, 3, 1, 0, [(10, 67)], 0, 0), (.aload_n 2, 1, 2, 0, [], 0, 0), (.aload_n 0, 1, 0, 0, [], 0, 0), (.iload_n 3, 1, 3, 0, [], 0, 0), (.iconst 1, 1, 0, 0, [], 1, 0), (.iadd, 1, 0, 0, [], 0, 0), (.iaload, 1, 0, 0, [], 0, 0), (.invokevirtual 41, 3, 1, 0, [(11, 158)], 0, 0), (.if_icmp .eq 1136, 3, 38, 0, [], 0, 0), (.iconst 0, 1, 0, 0, [], 0, 0), (.ireturn, 1, 0, 3, [], 0, 0)] := ⟨trivial, ⟨trivial, ⟨trivial, ⟨trivial, ⟨trivial, ⟨trivial, ⟨lk_445, ⟨trivial, ⟨trivial, ⟨trivial, ⟨trivial, ⟨trivial, ⟨trivial, ⟨lk_446, ⟨trivial, ⟨trivial, ⟨trivial, trivial⟩⟩⟩⟩⟩⟩⟩⟩⟩⟩⟩⟩⟩⟩⟩⟩⟩
set_option maxRecDepth 100000 in
set_option maxHeartbeats 4000000 in
theorem n_L_law_8 : en_lkC "EvenStepsLaw" false [(.aload_n 1, 1, 1, 0, [], 0, 0), (.aload_n 0, 1, 0, 0, [], 0, 0), (.iload_n 3, 1, 3, 0, [], 0, 0), (.iconst 1, 1, 0, 0, [], 1, 0), (.iadd, 1, 0, 0, [], 0, 0), (.iaload, 1, 0, 0, [], 0, 0), (.invokevirtual 42, 3, 1, 0, [(10, 68)], 0, 0), (.aload_n 2, 1, 2, 0, [], 0, 0), (.aload_n 0, 1, 0, 0, [], 0, 0), (.iload_n 3, 1, 3, 0, [], 0, 0), (.iconst 1, 1, 0, 0, [], 1, 0), (.iadd, 1, 0, 0, [], 0, 0), (.iaload, 1, 0, 0, [], 0, 0), (.invokevirtual 45, 3, 1, 0, [(11, 159)], 0, 0), (.if_icmp .eq 1113, 3, 38, 0, [], 0, 0), (.iconst 0, 1, 0, 0, [], 0, 0), (.ireturn, 1, 0, 3, [], 0, 0)] := ⟨trivial, ⟨trivial, ⟨trivial, ⟨trivial, ⟨trivial, ⟨trivial, ⟨lk_447, ⟨trivial, ⟨trivial, ⟨trivial, ⟨trivial, ⟨trivial, ⟨trivial, ⟨lk_448, ⟨trivial, ⟨trivial, ⟨trivial, trivial⟩⟩⟩⟩⟩⟩⟩⟩⟩⟩⟩⟩⟩⟩⟩⟩⟩
set_option maxRecDepth 100000 in
set_option maxHeartbeats 4000000 in
theorem n_L_law_9 : en_lkC "EvenStepsLaw" false [(.aload_n 1, 1, 1, 0, [], 0, 0), (.aload_n 0, 1, 0, 0, [], 0, 0), (.iload_n 3, 1, 3, 0, [], 0, 0), (.iconst 1, 1, 0, 0, [], 1, 0), (.iadd, 1, 0, 0, [], 0, 0), (.iaload, 1, 0, 0, [], 0, 0), (.invokevirtual 46, 3, 1, 0, [(10, 72)], 0, 0), (.aload_n 2, 1, 2, 0, [], 0, 0), (.aload_n 0, 1, 0, 0, [], 0, 0), (.iload_n 3, 1, 3, 0, [], 0, 0), (.iconst 1, 1, 0, 0, [], 1, 0), (.iadd, 1, 0, 0, [], 0, 0), (.iaload, 1, 0, 0, [], 0, 0), (.invokevirtual 49, 3, 1, 0, [(11, 160)], 0, 0), (.if_icmp .eq 1090, 3, 38, 0, [], 0, 0), (.iconst 0, 1, 0, 0, [], 0, 0), (.ireturn, 1, 0, 3, [], 0, 0)] := ⟨trivial, ⟨trivial, ⟨trivial, ⟨trivial, ⟨trivial, ⟨trivial, ⟨lk_449, ⟨trivial, ⟨trivial, ⟨trivial, ⟨trivial, ⟨trivial, ⟨trivial, ⟨lk_450, ⟨trivial, ⟨trivial, ⟨trivial, trivial⟩⟩⟩⟩⟩⟩⟩⟩⟩⟩⟩⟩⟩⟩⟩⟩⟩
set_option maxRecDepth 100000 in
set_option maxHeartbeats 4000000 in
theorem n_L_law_10 : en_lkC "EvenStepsLaw" false [(.aload_n 1, 1, 1, 0, [], 0, 0), (.aload_n 0, 1, 0, 0, [], 0, 0), (.iload_n 3, 1, 3, 0, [], 0, 0), (.iconst 1, 1, 0, 0, [], 1, 0), (.iadd, 1, 0, 0, [], 0, 0), (.iaload, 1, 0, 0, [], 0, 0), (.aload_n 0, 1, 0, 0, [], 0, 0), (.iload_n 3, 1, 3, 0, [], 0, 0), (.iconst 2, 1, 0, 0, [], 2, 0), (.iadd, 1, 0, 0, [], 0, 0), (.iaload, 1, 0, 0, [], 0, 0), (.invokevirtual 50, 3, 2, 0, [(10, 73)], 0, 0), (.aload_n 2, 1, 2, 0, [], 0, 0), (.aload_n 0, 1, 0, 0, [], 0, 0), (.iload_n 3, 1, 3, 0, [], 0, 0), (.iconst 1, 1, 0, 0, [], 1, 0), (.iadd, 1, 0, 0, [], 0, 0), (.iaload, 1, 0, 0, [], 0, 0), (.aload_n 0, 1, 0, 0, [], 0, 0), (.iload_n 3, 1, 3, 0, [], 0, 0), (.iconst 2, 1, 0, 0, [], 2, 0), (.iadd, 1, 0, 0, [], 0, 0), (.iaload, 1, 0, 0, [], 0, 0), (.invokevirtual 53, 3, 2, 0, [(11, 140)], 0, 0), (.if_icmp .eq 1057, 3, 38, 0, [], 0, 0), (.iconst 0, 1, 0, 0, [], 0, 0), (.ireturn, 1, 0, 3, [], 0, 0)] := ⟨trivial, ⟨trivial, ⟨trivial, ⟨trivial, ⟨trivial, ⟨trivial, ⟨trivial, ⟨trivial, ⟨trivial, ⟨trivial, ⟨trivial, ⟨lk_451, ⟨trivial, ⟨trivial, ⟨trivial, ⟨trivial, ⟨trivial, ⟨trivial, ⟨trivial, ⟨trivial, ⟨trivial, ⟨trivial, ⟨trivial, ⟨lk_452, ⟨trivial, ⟨trivial, ⟨trivial, trivial⟩⟩⟩⟩⟩⟩⟩⟩⟩⟩⟩⟩⟩⟩⟩⟩⟩⟩⟩⟩⟩⟩⟩⟩⟩⟩⟩
set_option maxRecDepth 100000 in
set_option maxHeartbeats 4000000 in
theorem n_L_law_11 : en_lkC "EvenStepsLaw" false [(.aload_n 1, 1, 1, 0, [], 0, 0), (.aload_n 0, 1, 0, 0, [], 0, 0), (.iload_n 3, 1, 3, 0, [], 0, 0), (.iconst 1, 1, 0, 0, [], 1, 0), (.iadd, 1, 0, 0, [], 0, 0), (.iaload, 1, 0, 0, [], 0, 0), (.aload_n 0, 1, 0, 0, [], 0, 0), (.iload_n 3, 1, 3, 0, [], 0, 0), (.iconst 2, 1, 0, 0, [], 2, 0), (.iadd, 1, 0, 0, [], 0, 0), (.iaload, 1, 0, 0, [], 0, 0), (.aload_n 0, 1, 0, 0, [], 0, 0), (.iload_n 3, 1, 3, 0, [], 0, 0), (.iconst 3, 1, 0, 0, [], 3, 0), (.iadd, 1, 0, 0, [], 0, 0), (.iaload, 1, 0, 0, [], 0, 0), (.invokevirtual 54, 3, 3, 0, [(10, 74)], 0, 0), (.aload_n 2, 1, 2, 0, [], 0, 0), (.aload_n 0, 1, 0, 0, [], 0, 0), (.iload_n 3, 1, 3, 0, [], 0, 0), (.iconst 1, 1, 0, 0, [], 1, 0), (.iadd, 1, 0, 0, [], 0, 0), (.iaload, 1, 0, 0, [], 0, 0), (.aload_n 0, 1, 0, 0, [], 0, 0), (.iload_n 3, 1, 3, 0, [], 0, 0), (.iconst 2, 1, 0, 0, [], 2, 0), (.iadd, 1, 0, 0, [], 0, 0), (.iaload, 1, 0, 0, [], 0, 0), (.aload_n 0, 1, 0, 0, [], 0, 0), (.iload_n 3, 1, 3, 0, [], 0, 0), (.iconst 3, 1, 0, 0, [], 3, 0), (.iadd, 1, 0, 0, [], 0, 0), (.iaload, 1, 0, 0, [], 0, 0), (.invokevirtual 57, 3, 3, 0, [(11, 141)], 0, 0), (.if_icmp .eq 1014, 3, 38, 0, [], 0, 0), (.iconst 0, 1, 0, 0, [], 0, 0), (.ireturn, 1, 0, 3, [], 0, 0)] := ⟨trivial, ⟨trivial, ⟨trivial, ⟨trivial, ⟨trivial, ⟨trivial, ⟨trivial, ⟨trivial, ⟨trivial, ⟨trivial, ⟨trivial, ⟨trivial, ⟨trivial, ⟨trivial, ⟨trivial, ⟨trivial, ⟨lk_453, ⟨trivial, ⟨trivial, ⟨trivial, ⟨trivial, ⟨trivial, ⟨trivial, ⟨trivial, ⟨trivial, ⟨trivial, ⟨trivial, ⟨trivial, ⟨trivial, ⟨trivial, ⟨trivial, ⟨trivial, ⟨trivial, ⟨lk_454, ⟨trivial, ⟨trivial, ⟨trivial, trivial⟩⟩⟩⟩⟩⟩⟩⟩⟩⟩⟩⟩⟩⟩⟩⟩⟩⟩⟩⟩⟩⟩⟩⟩⟩⟩⟩⟩⟩⟩⟩⟩⟩⟩⟩⟩⟩
set_option maxRecDepth 100000 in
set_option maxHeartbeats 4000000 in
theorem n_L_law_12 : en_lkC "EvenStepsLaw" false [(.aload_n 1, 1, 1, 0, [], 0, 0), (.aload_n 0, 1, 0, 0, [], 0, 0), (.iload_n 3, 1, 3, 0, [], 0, 0), (.iconst 1, 1, 0, 0, [], 1, 0), (.iadd, 1, 0, 0, [], 0, 0), (.iaload, 1, 0, 0, [], 0, 0), (.aload_n 0, 1, 0, 0, [], 0, 0), (.iload_n 3, 1, 3, 0, [], 0, 0), (.iconst 2, 1, 0, 0, [], 2, 0), (.iadd, 1, 0, 0, [], 0, 0), (.iaload, 1, 0, 0, [], 0, 0), (.invokevirtual 58, 3, 2, 0, [(10, 75)], 0, 0), (.aload_n 2, 1, 2, 0, [], 0, 0), (.aload_n 0, 1, 0, 0, [], 0, 0), (.iload_n 3, 1, 3, 0, [], 0, 0), (.iconst 1, 1, 0, 0, [], 1, 0), (.iadd, 1, 0, 0, [], 0, 0), (.iaload, 1, 0, 0, [], 0, 0), (.aload_n 0, 1, 0, 0, [], 0, 0), (.iload_n 3, 1, 3, 0, [], 0, 0), (.iconst 2, 1, 0, 0, [], 2, 0), (.iadd, 1, 0, 0, [], 0, 0), (.iaload, 1, 0, 0, [], 0, 0), (.invokevirtual 61, 3, 2, 0, [(11, 145)], 0, 0), (.if_icmp .eq 981, 3, 38, 0, [], 0, 0), (.iconst 0, 1, 0, 0, [], 0, 0), (.ireturn, 1, 0, 3, [], 0, 0)] := ⟨trivial, ⟨trivial, ⟨trivial, ⟨trivial, ⟨trivial, ⟨trivial, ⟨trivial, ⟨trivial, ⟨trivial, ⟨trivial, ⟨trivial, ⟨lk_455, ⟨trivial, ⟨trivial, ⟨trivial, ⟨trivial, ⟨trivial, ⟨trivial, ⟨trivial, ⟨trivial, ⟨trivial, ⟨trivial, ⟨trivial, ⟨lk_456, ⟨trivial, ⟨trivial, ⟨trivial, trivial⟩⟩⟩⟩⟩⟩⟩⟩⟩⟩⟩⟩⟩⟩⟩⟩⟩⟩⟩⟩⟩⟩⟩⟩⟩⟩⟩
set_option maxRecDepth 100000 in
set_option maxHeartbeats 4000000 in
theorem n_L_law_13 : en_lkC "EvenStepsLaw" false [(.aload_n 1, 1, 1, 0, [], 0, 0), (.aload_n 0, 1, 0, 0, [], 0, 0), (.iload_n 3, 1, 3, 0, [], 0, 0), (.iconst 1, 1, 0, 0, [], 1, 0), (.iadd, 1, 0, 0, [], 0, 0), (.iaload, 1, 0, 0, [], 0, 0), (.aload_n 0, 1, 0, 0, [], 0, 0), (.iload_n 3, 1, 3, 0, [], 0, 0), (.iconst 2, 1, 0, 0, [], 2, 0), (.iadd, 1, 0, 0, [], 0, 0), (.iaload, 1, 0, 0, [], 0, 0), (.invokevirtual 62, 3, 2, 0, [(10, 76)], 0, 0), (.aload_n 2, 1, 2, 0, [], 0, 0), (.aload_n 0, 1, 0, 0, [], 0, 0), (.iload_n 3, 1, 3, 0, [], 0, 0), (.iconst 1, 1, 0, 0, [], 1, 0), (.iadd, 1, 0, 0, [], 0, 0), (.iaload, 1, 0, 0, [], 0, 0), (.aload_n 0, 1, 0, 0, [], 0, 0), (.iload_n 3, 1, 3, 0, [], 0, 0), (.iconst 2, 1, 0, 0, [], 2, 0), (.iadd, 1, 0, 0, [], 0, 0), (.iaload, 1, 0, 0, [], 0, 0), (.invokevirtual 65, 3, 2, 0, [(11, 150)], 0, 0), (.if_icmp .eq 948, 3, 38, 0, [], 0, 0), (.iconst 0, 1, 0, 0, [], 0, 0), (.ireturn, 1, 0, 3, [], 0, 0)] := ⟨trivial, ⟨trivial, ⟨trivial, ⟨trivial, ⟨trivial, ⟨trivial, ⟨trivial, ⟨trivial, ⟨trivial, ⟨trivial, ⟨trivial, ⟨lk_457, ⟨trivial, ⟨trivial, ⟨trivial, ⟨trivial, ⟨trivial, ⟨trivial, ⟨trivial, ⟨trivial, ⟨trivial, ⟨trivial, ⟨trivial, ⟨lk_458, ⟨trivial, ⟨trivial, ⟨trivial, trivial⟩⟩⟩⟩⟩⟩⟩⟩⟩⟩⟩⟩⟩⟩⟩⟩⟩⟩⟩⟩⟩⟩⟩⟩⟩⟩⟩
set_option maxRecDepth 100000 in
set_option maxHeartbeats 4000000 in
theorem n_L_law_14 : en_lkC "EvenStepsLaw" false [(.aload_n 1, 1, 1, 0, [], 0, 0), (.aload_n 0, 1, 0, 0, [], 0, 0), (.iload_n 3, 1, 3, 0, [], 0, 0), (.iconst 1, 1, 0, 0, [], 1, 0), (.iadd, 1, 0, 0, [], 0, 0), (.iaload, 1, 0, 0, [], 0, 0), (.aload_n 0, 1, 0, 0, [], 0, 0), (.iload_n 3, 1, 3, 0, [], 0, 0), (.iconst 2, 1, 0, 0, [], 2, 0), (.iadd, 1, 0, 0, [], 0, 0), (.iaload, 1, 0, 0, [], 0, 0), (.aload_n 0, 1, 0, 0, [], 0, 0), (.iload_n 3, 1, 3, 0, [], 0, 0), (.iconst 3, 1, 0, 0, [], 3, 0), (.iadd, 1, 0, 0, [], 0, 0), (.iaload, 1, 0, 0, [], 0, 0), (.aload_n 0, 1, 0, 0, [], 0, 0), (.iload_n 3, 1, 3, 0, [], 0, 0), (.iconst 4, 1, 0, 0, [], 4, 0), (.iadd, 1, 0, 0, [], 0, 0), (.iaload, 1, 0, 0, [], 0, 0), (.invokevirtual 66, 3, 4, 0, [(10, 77)], 0, 0), (.aload_n 2, 1, 2, 0, [], 0, 0), (.aload_n 0, 1, 0, 0, [], 0, 0), (.iload_n 3, 1, 3, 0, [], 0, 0), (.iconst 1, 1, 0, 0, [], 1, 0), (.iadd, 1, 0, 0, [], 0, 0), (.iaload, 1, 0, 0, [], 0, 0), (.aload_n 0, 1, 0, 0, [], 0, 0), (.iload_n 3, 1, 3, 0, [], 0, 0), (.iconst 2, 1, 0, 0, [], 2, 0), (.iadd, 1, 0, 0, [], 0, 0), (.iaload, 1, 0, 0, [], 0, 0), (.aload_n 0, 1, 0, 0, [], 0, 0), (.iload_n 3, 1, 3, 0, [], 0, 0), (.iconst 3, 1, 0, 0, [], 3, 0), (.iadd, 1, 0, 0, [], 0, 0), (.iaload, 1, 0, 0, [], 0, 0), (.aload_n 0, 1, 0, 0, [], 0, 0), (.iload_n 3, 1, 3, 0, [], 0, 0), (.iconst 4, 1, 0, 0, [], 4, 0), (.iadd, 1, 0, 0, [], 0, 0), (.iaload, 1, 0, 0, [], 0, 0), (.invokevirtual 69, 3, 4, 0, [(11, 151)], 0, 0), (.if_icmp .eq 895, 3, 38, 0, [], 0, 0), (.iconst 0, 1, 0, 0, [], 0, 0), (.ireturn, 1, 0, 3, [], 0, 0)] := ⟨trivial, ⟨trivial, ⟨trivial, ⟨trivial, ⟨trivial, ⟨trivial, ⟨trivial, ⟨trivial, ⟨trivial, ⟨trivial, ⟨trivial, ⟨trivial, ⟨trivial, ⟨trivial, ⟨trivial, ⟨trivial, ⟨trivial, ⟨trivial, ⟨trivial, ⟨trivial, ⟨trivial, ⟨lk_459, ⟨trivial, ⟨trivial, ⟨trivial, ⟨trivial, ⟨trivial, ⟨trivial, ⟨trivial, ⟨trivial, ⟨trivial, ⟨trivial, ⟨trivial, ⟨trivial, ⟨trivial, ⟨trivial, ⟨trivial, ⟨trivial, ⟨trivial, ⟨trivial, ⟨trivial, ⟨trivial, ⟨trivial, ⟨lk_460, ⟨trivial, ⟨trivial, ⟨trivial, trivial⟩⟩⟩⟩⟩⟩⟩⟩⟩⟩⟩⟩⟩⟩⟩⟩⟩⟩⟩⟩⟩⟩⟩⟩⟩⟩⟩⟩⟩⟩⟩⟩⟩⟩⟩⟩⟩⟩⟩⟩⟩⟩⟩⟩⟩⟩⟩
set_option maxRecDepth 100000 in
set_option maxHeartbeats 4000000 in
theorem n_L_law_15 : en_lkC "EvenStepsLaw" false [(.aload_n 1, 1, 1, 0, [], 0, 0), (.aload_n 0, 1, 0, 0, [], 0, 0), (.iload_n 3, 1, 3, 0, [], 0, 0), (.iconst 1, 1, 0, 0, [], 1, 0), (.iadd, 1, 0, 0, [], 0, 0), (.iaload, 1, 0, 0, [], 0, 0), (.aload_n 0, 1, 0, 0, [], 0, 0), (.iload_n 3, 1, 3, 0, [], 0, 0), (.iconst 2, 1, 0, 0, [], 2, 0), (.iadd, 1, 0, 0, [], 0, 0), (.iaload, 1, 0, 0, [], 0, 0), (.aload_n 0, 1, 0, 0, [], 0, 0), (.iload_n 3, 1, 3, 0, [], 0, 0), (.iconst 3, 1, 0, 0, [], 3, 0), (.iadd, 1, 0, 0, [], 0, 0), (.iaload, 1, 0, 0, [], 0, 0), (.invokevirtual 70, 3, 3, 0, [(10, 78)], 0, 0), (.aload_n 2, 1, 2, 0, [], 0, 0), (.aload_n 0, 1, 0, 0, [], 0, 0), (.iload_n 3, 1, 3, 0, [], 0, 0), (.iconst 1, 1, 0, 0, [], 1, 0), (.iadd, 1, 0, 0, [], 0, 0), (.iaload, 1, 0, 0, [], 0, 0), (.aload_n 0, 1, 0, 0, [], 0, 0), (.iload_n 3, 1, 3, 0, [], 0, 0), (.iconst 2, 1, 0, 0, [], 2, 0), (.iadd, 1, 0, 0, [], 0, 0), (.iaload, 1, 0, 0, [], 0, 0), (.aload_n 0, 1, 0, 0, [], 0, 0), (.iload_n 3, 1, 3, 0, [], 0, 0), (.iconst 3, 1, 0, 0, [], 3, 0), (.iadd, 1, 0, 0, [], 0, 0), (.iaload, 1, 0, 0, [], 0, 0), (.invokevirtual 73, 3, 3, 0, [(11, 148)], 0, 0), (.if_icmp .eq 852, 3, 38, 0, [], 0, 0), (.iconst 0, 1, 0, 0, [], 0, 0), (.ireturn, 1, 0, 3, [], 0, 0)] := ⟨trivial, ⟨trivial, ⟨trivial, ⟨trivial, ⟨trivial, ⟨trivial, ⟨trivial, ⟨trivial, ⟨trivial, ⟨trivial, ⟨trivial, ⟨trivial, ⟨trivial, ⟨trivial, ⟨trivial, ⟨trivial, ⟨lk_461, ⟨trivial, ⟨trivial, ⟨trivial, ⟨trivial, ⟨trivial, ⟨trivial, ⟨trivial, ⟨trivial, ⟨trivial, ⟨trivial, ⟨trivial, ⟨trivial, ⟨trivial, ⟨trivial, ⟨trivial, ⟨trivial, ⟨lk_462, ⟨trivial, ⟨trivial, ⟨trivial, trivial⟩⟩⟩⟩⟩⟩⟩⟩⟩⟩⟩⟩⟩⟩⟩⟩⟩⟩⟩⟩⟩⟩⟩⟩⟩⟩⟩⟩⟩⟩⟩⟩⟩⟩⟩⟩⟩
set_option maxRecDepth 100000 in
set_option maxHeartbeats 4000000 in
theorem n_L_law_16 : en_lkC "EvenStepsLaw" false [(.aload_n 1, 1, 1, 0, [], 0, 0), (.aload_n 0, 1, 0, 0, [], 0, 0), (.iload_n 3, 1, 3, 0, [], 0, 0), (.iconst 1, 1, 0, 0, [], 1, 0), (.iadd, 1, 0, 0, [], 0, 0), (.iaload, 1, 0, 0, [], 0, 0), (.aload_n 0, 1, 0, 0, [], 0, 0), (.iload_n 3, 1, 3, 0, [], 0, 0), (.iconst 2, 1, 0, 0, [], 2, 0), (.iadd, 1, 0, 0, [], 0, 0), (.iaload, 1, 0, 0, [], 0, 0), (.invokevirtual 74, 3, 2, 0, [(10, 79)], 0, 0), (.aload_n 2, 1, 2, 0, [], 0, 0), (.aload_n 0, 1, 0, 0, [], 0, 0), (.iload_n 3, 1, 3, 0, [], 0, 0), (.iconst 1, 1, 0, 0, [], 1, 0), (.iadd, 1, 0, 0, [], 0, 0), (.iaload, 1, 0, 0, [], 0, 0), (.aload_n 0, 1, 0, 0, [], 0, 0), (.iload_n 3, 1, 3, 0, [], 0, 0), (.iconst 2, 1, 0, 0, [], 2, 0), (.iadd, 1, 0, 0, [], 0, 0), (.iaload, 1, 0, 0, [], 0, 0), (.invokevirtual 77, 3, 2, 0, [(11, 147)], 0, 0), (.if_icmp .eq 819, 3, 38, 0, [], 0, 0), (.iconst 0, 1, 0, 0, [], 0, 0), (.ireturn, 1, 0, 3, [], 0, 0)] := ⟨trivial, ⟨trivial, ⟨trivial, ⟨trivial, ⟨trivial, ⟨trivial, ⟨trivial, ⟨trivial, ⟨trivial, ⟨trivial, ⟨trivial, ⟨lk_463, ⟨trivial, ⟨trivial, ⟨trivial, ⟨trivial, ⟨trivial, ⟨trivial, ⟨trivial, ⟨trivial, ⟨trivial, ⟨trivial, ⟨trivial, ⟨lk_464, ⟨trivial, ⟨trivial, ⟨trivial, trivial⟩⟩⟩⟩⟩⟩⟩⟩⟩⟩⟩⟩⟩⟩⟩⟩⟩⟩⟩⟩⟩⟩⟩⟩⟩⟩⟩
set_option maxRecDepth 100000 in
set_option maxHeartbeats 4000000 in
theorem n_L_law_17 : en_lkC "EvenStepsLaw" false [(.aload_n 1, 1, 1, 0, [], 0, 0), (.aload_n 0, 1, 0, 0, [], 0, 0), (.iload_n 3, 1, 3, 0, [], 0, 0), (.iconst 1, 1, 0, 0, [], 1, 0), (.iadd, 1, 0, 0, [], 0, 0), (.iaload, 1, 0, 0, [], 0, 0), (.invokevirtual 78, 3, 1, 0, [(10, 84)], 0, 0), (.aload_n 2, 1, 2, 0, [], 0, 0), (.aload_n 0, 1, 0, 0, [], 0, 0), (.iload_n 3, 1, 3, 0, [], 0, 0), (.iconst 1, 1, 0, 0, [], 1, 0), (.iadd, 1, 0, 0, [], 0, 0), (.iaload, 1, 0, 0, [], 0, 0), (.invokevirtual 81, 3, 1, 0, [(11, 161)], 0, 0), (.if_icmp .eq 796, 3, 38, 0, [], 0, 0), (.iconst 0, 1, 0, 0, [], 0, 0), (.ireturn, 1, 0, 3, [], 0, 0)] := ⟨trivial, ⟨trivial, ⟨trivial, ⟨trivial, ⟨trivial, ⟨trivial, ⟨lk_465, ⟨trivial, ⟨trivial, ⟨trivial, ⟨trivial, ⟨trivial, ⟨trivial, ⟨lk_466, ⟨trivial, ⟨trivial, ⟨trivial, trivial⟩⟩⟩⟩⟩⟩⟩⟩⟩⟩⟩⟩⟩⟩⟩⟩⟩
set_option maxRecDepth 100000 in
set_option maxHeartbeats 4000000 in
theorem n_L_law_18 : en_lkC "EvenStepsLaw" false [(.aload_n 1, 1, 1, 0, [], 0, 0), (.aload_n 0, 1, 0, 0, [], 0, 0), (.iload_n 3, 1, 3, 0, [], 0, 0), (.iconst 1, 1, 0, 0, [], 1, 0), (.iadd, 1, 0, 0, [], 0, 0), (.iaload, 1, 0, 0, [], 0, 0), (.aload_n 0, 1, 0, 0, [], 0, 0), (.iload_n 3, 1, 3, 0, [], 0, 0), (.iconst 2, 1, 0, 0, [], 2, 0), (.iadd, 1, 0, 0, [], 0, 0), (.iaload, 1, 0, 0, [], 0, 0), (.invokevirtual 82, 3, 2, 0, [(10, 85)], 0, 0), (.aload_n 2, 1, 2, 0, [], 0, 0), (.aload_n 0, 1, 0, 0, [], 0, 0), (.iload_n 3, 1, 3, 0, [], 0, 0), (.iconst 1, 1, 0, 0, [], 1, 0), (.iadd, 1, 0, 0, [], 0, 0), (.iaload, 1, 0, 0, [], 0, 0), (.aload_n 0, 1, 0, 0, [], 0, 0), (.iload_n 3, 1, 3, 0, [], 0, 0), (.iconst 2, 1, 0, 0, [], 2, 0), (.iadd, 1, 0, 0, [], 0, 0), (.iaload, 1, 0, 0, [], 0, 0), (.invokevirtual 85, 3, 2, 0, [(11, 162)], 0, 0), (.if_icmp .eq 763, 3, 38, 0, [], 0, 0), (.iconst 0, 1, 0, 0, [], 0, 0), (.ireturn, 1, 0, 3, [], 0, 0)] := ⟨trivial, ⟨trivial, ⟨trivial, ⟨trivial, ⟨trivial, ⟨trivial, ⟨trivial, ⟨trivial, ⟨trivial, ⟨trivial, ⟨trivial, ⟨lk_467, ⟨trivial, ⟨trivial, ⟨trivial, ⟨trivial, ⟨trivial, ⟨trivial, ⟨trivial, ⟨trivial, ⟨trivial, ⟨trivial, ⟨trivial, ⟨lk_468, ⟨trivial, ⟨trivial, ⟨trivial, trivial⟩⟩⟩⟩⟩⟩⟩⟩⟩⟩⟩⟩⟩⟩⟩⟩⟩⟩⟩⟩⟩⟩⟩⟩⟩⟩⟩
set_option maxRecDepth 100000 in
set_option maxHeartbeats 4000000 in
theorem n_L_law_19 : en_lkC "EvenStepsLaw" false [(.aload_n 1, 1, 1, 0, [], 0, 0), (.aload_n 0, 1, 0, 0, [], 0, 0), (.iload_n 3, 1, 3, 0, [], 0, 0), (.iconst 1, 1, 0, 0, [], 1, 0), (.iadd, 1, 0, 0, [], 0, 0), (.iaload, 1, 0, 0, [], 0, 0), (.aload_n 0, 1, 0, 0, [], 0, 0), (.iload_n 3, 1, 3, 0, [], 0, 0), (.iconst 2, 1, 0, 0, [], 2, 0), (.iadd, 1, 0, 0, [], 0, 0), (.iaload, 1, 0, 0, [], 0, 0), (.invokevirtual 86, 3, 2, 0, [(10, 86)], 0, 0), (.aload_n 2, 1, 2, 0, [], 0, 0), (.aload_n 0, 1, 0, 0, [], 0, 0), (.iload_n 3, 1, 3, 0, [], 0, 0), (.iconst 1, 1, 0, 0, [], 1, 0), (.iadd, 1, 0, 0, [], 0, 0), (.iaload, 1, 0, 0, [], 0, 0), (.aload_n 0, 1, 0, 0, [], 0, 0), (.iload_n 3, 1, 3, 0, [], 0, 0), (.iconst 2, 1, 0, 0, [], 2, 0), (.iadd, 1, 0, 0, [], 0, 0), (.iaload, 1, 0, 0, [], 0, 0), (.invokevirtual 89, 3, 2, 0, [(11, 163)], 0, 0), (.if_icmp .eq 730, 3, 38, 0, [], 0, 0), (.iconst 0, 1, 0, 0, [], 0, 0), (.ireturn, 1, 0, 3, [], 0, 0)] := ⟨trivial, ⟨trivial, ⟨trivial, ⟨trivial, ⟨trivial, ⟨trivial, ⟨trivial, ⟨trivial, ⟨trivial, ⟨trivial, ⟨trivial, ⟨lk_469, ⟨trivial, ⟨trivial, ⟨trivial, ⟨trivial, ⟨trivial, ⟨trivial, ⟨trivial, ⟨trivial, ⟨trivial, ⟨trivial, ⟨trivial, ⟨lk_470, ⟨trivial, ⟨trivial, ⟨trivial, trivial⟩⟩⟩⟩⟩⟩⟩⟩⟩⟩⟩⟩⟩⟩⟩⟩⟩⟩⟩⟩⟩⟩⟩⟩⟩⟩⟩
set_option maxRecDepth 100000 in
set_option maxHeartbeats 4000000 in
theorem n_L_law_20 : en_lkC "EvenStepsLaw" false [(.aload_n 1, 1, 1, 0, [], 0, 0), (.aload_n 0, 1, 0, 0, [], 0, 0), (.iload_n 3, 1, 3, 0, [], 0, 0), (.iconst 1, 1, 0, 0, [], 1, 0), (.iadd, 1, 0, 0, [], 0, 0), (.iaload, 1, 0, 0, [], 0, 0), (.aload_n 0, 1, 0, 0, [], 0, 0), (.iload_n 3, 1, 3, 0, [], 0, 0), (.iconst 2, 1, 0, 0, [], 2, 0), (.iadd, 1, 0, 0, [], 0, 0), (.iaload, 1, 0, 0, [], 0, 0), (.aload_n 0, 1, 0, 0, [], 0, 0), (.iload_n 3, 1, 3, 0, [], 0, 0), (.iconst 3, 1, 0, 0, [], 3, 0), (.iadd, 1, 0, 0, [], 0, 0), (.iaload, 1, 0, 0, [], 0, 0), (.invokevirtual 90, 3, 3, 0, [(10, 87)], 0, 0), (.aload_n 2, 1, 2, 0, [], 0, 0), (.aload_n 0, 1, 0, 0, [], 0, 0), (.iload_n 3, 1, 3, 0, [], 0, 0), (.iconst 1, 1, 0, 0, [], 1, 0), (.iadd, 1, 0, 0, [], 0, 0), (.iaload, 1, 0, 0, [], 0, 0), (.aload_n 0, 1, 0, 0, [], 0, 0), (.iload_n 3, 1, 3, 0, [], 0, 0), (.iconst 2, 1, 0, 0, [], 2, 0), (.iadd, 1, 0, 0, [], 0, 0), (.iaload, 1, 0, 0, [], 0, 0), (.aload_n 0, 1, 0, 0, [], 0, 0), (.iload_n 3, 1, 3, 0, [], 0, 0), (.iconst 3, 1, 0, 0, [], 3, 0), (.iadd, 1, 0, 0, [], 0, 0), (.iaload, 1, 0, 0, [], 0, 0), (.invokevirtual 93, 3, 3, 0, [(11, 167)], 0, 0), (.if_icmp .eq 687, 3, 38, 0, [], 0, 0), (.iconst 0, 1, 0, 0, [], 0, 0), (.ireturn, 1, 0, 3, [], 0, 0)] := ⟨trivial, ⟨trivial, ⟨trivial, ⟨trivial, ⟨trivial, ⟨trivial, ⟨trivial, ⟨trivial, ⟨trivial, ⟨trivial, ⟨trivial, ⟨trivial, ⟨trivial, ⟨trivial, ⟨trivial, ⟨trivial, ⟨lk_471, ⟨trivial, ⟨trivial, ⟨trivial, ⟨trivial, ⟨trivial, ⟨trivial, ⟨trivial, ⟨trivial, ⟨trivial, ⟨trivial, ⟨trivial, ⟨trivial, ⟨trivial, ⟨trivial, ⟨trivial, ⟨trivial, ⟨lk_472, ⟨trivial, ⟨trivial, ⟨trivial, trivial⟩⟩⟩⟩⟩⟩⟩⟩⟩⟩⟩⟩⟩⟩⟩⟩⟩⟩⟩⟩⟩⟩⟩⟩⟩⟩⟩⟩⟩⟩⟩⟩⟩⟩⟩⟩⟩
set_option maxRecDepth 100000 in
set_option maxHeartbeats 4000000 in
theorem n_L_law_21 : en_lkC "EvenStepsLaw" false [(.aload_n 1, 1, 1, 0, [], 0, 0), (.aload_n 0, 1, 0, 0, [], 0, 0), (.iload_n 3, 1, 3, 0, [], 0, 0), (.iconst 1, 1, 0, 0, [], 1, 0), (.iadd, 1, 0, 0, [], 0, 0), (.iaload, 1, 0, 0, [], 0, 0), (.aload_n 0, 1, 0, 0, [], 0, 0), (.iload_n 3, 1, 3, 0, [], 0, 0), (.iconst 2, 1, 0, 0, [], 2, 0), (.iadd, 1, 0, 0, [], 0, 0), (.iaload, 1, 0, 0, [], 0, 0), (.aload_n 0, 1, 0, 0, [], 0, 0), (.iload_n 3, 1, 3, 0, [], 0, 0), (.iconst 3, 1, 0, 0, [], 3, 0), (.iadd, 1, 0, 0, [], 0, 0), (.iaload, 1, 0, 0, [], 0, 0), (.aload_n 0, 1, 0, 0, [], 0, 0), (.iload_n 3, 1, 3, 0, [], 0, 0), (.iconst 4, 1, 0, 0, [], 4, 0), (.iadd, 1, 0, 0, [], 0, 0), (.iaload, 1, 0, 0, [], 0, 0), (.invokevirtual 94, 3, 4, 0, [(10, 88)], 0, 0), (.aload_n 2, 1, 2, 0, [], 0, 0), (.aload_n 0, 1, 0, 0, [], 0, 0), (.iload_n 3, 1, 3, 0, [], 0, 0), (.iconst 1, 1, 0, 0, [], 1, 0), (.iadd, 1, 0, 0, [], 0, 0), (.iaload, 1, 0, 0, [], 0, 0), (.aload_n 0, 1, 0, 0, [], 0, 0), (.iload_n 3, 1, 3, 0, [], 0, 0), (.iconst 2, 1, 0, 0, [], 2, 0), (.iadd, 1, 0, 0, [], 0, 0), (.iaload, 1, 0, 0, [], 0, 0), (.aload_n 0, 1, 0, 0, [], 0, 0), (.iload_n 3, 1, 3, 0, [], 0, 0), (.iconst 3, 1, 0, 0, [], 3, 0), (.iadd, 1, 0, 0, [], 0, 0), (.iaload, 1, 0, 0, [], 0, 0), (.aload_n 0, 1, 0, 0, [], 0, 0), (.iload_n 3, 1, 3, 0, [], 0, 0), (.iconst 4, 1, 0, 0, [], 4, 0), (.iadd, 1, 0, 0, [], 0, 0), (.iaload, 1, 0, 0, [], 0, 0), (.invokevirtual 97, 3, 4, 0, [(11, 168)], 0, 0), (.if_icmp .eq 634, 3, 38, 0, [], 0, 0), (.iconst 0, 1, 0, 0, [], 0, 0), (.ireturn, 1, 0, 3, [], 0, 0)] := ⟨trivial, ⟨trivial, ⟨trivial, ⟨trivial, ⟨trivial, ⟨trivial, ⟨trivial, ⟨trivial, ⟨trivial, ⟨trivial, ⟨trivial, ⟨trivial, ⟨trivial, ⟨trivial, ⟨trivial, ⟨trivial, ⟨trivial, ⟨trivial, ⟨trivial, ⟨trivial, ⟨trivial, ⟨lk_473, ⟨trivial, ⟨trivial, ⟨trivial, ⟨trivial, ⟨trivial, ⟨trivial, ⟨trivial, ⟨trivial, ⟨trivial, ⟨trivial, ⟨trivial, ⟨trivial, ⟨trivial, ⟨trivial, ⟨trivial, ⟨trivial, ⟨trivial, ⟨trivial, ⟨trivial, ⟨trivial, ⟨trivial, ⟨lk_474, ⟨trivial, ⟨trivial, ⟨trivial, trivial⟩⟩⟩⟩⟩⟩⟩⟩⟩⟩⟩⟩⟩⟩⟩⟩⟩⟩⟩⟩⟩⟩⟩⟩⟩⟩⟩⟩⟩⟩⟩⟩⟩⟩⟩⟩⟩⟩⟩⟩⟩⟩⟩⟩⟩⟩⟩
set_option maxRecDepth 100000 in
set_option maxHeartbeats 4000000 in
theorem n_L_law_22 : en_lkC "EvenStepsLaw" false [(.aload_n 1, 1, 1, 0, [], 0, 0), (.aload_n 0, 1, 0, 0, [], 0, 0), (.iload_n 3, 1, 3, 0, [], 0, 0), (.iconst 1, 1, 0, 0, [], 1, 0), (.iadd, 1, 0, 0, [], 0, 0), (.iaload, 1, 0, 0, [], 0, 0), (.aload_n 0, 1, 0, 0, [], 0, 0), (.iload_n 3, 1, 3, 0, [], 0, 0), (.iconst 2, 1, 0, 0, [], 2, 0), (.iadd, 1, 0, 0, [], 0, 0), (.iaload, 1, 0, 0, [], 0, 0), (.aload_n 0, 1, 0, 0, [], 0, 0), (.iload_n 3, 1, 3, 0, [], 0, 0), (.iconst 3, 1, 0, 0, [], 3, 0), (.iadd, 1, 0, 0, [], 0, 0), (.iaload, 1, 0, 0, [], 0, 0), (.aload_n 0, 1, 0, 0, [], 0, 0), (.iload_n 3, 1, 3, 0, [], 0, 0), (.iconst 4, 1, 0, 0, [], 4, 0), (.iadd, 1, 0, 0, [], 0, 0), (.iaload, 1, 0, 0, [], 0, 0), (.invokevirtual 98, 3, 4, 0, [(10, 89)], 0, 0), (.aload_n 2, 1, 2, 0, [], 0, 0), (.aload_n 0, 1, 0, 0, [], 0, 0), (.iload_n 3, 1, 3, 0, [], 0, 0), (.iconst 1, 1, 0, 0, [], 1, 0), (.iadd, 1, 0, 0, [], 0, 0), (.iaload, 1, 0, 0, [], 0, 0), (.aload_n 0, 1, 0, 0, [], 0, 0), (.iload_n 3, 1, 3, 0, [], 0, 0), (.iconst 2, 1, 0, 0, [], 2, 0), (.iadd, 1, 0, 0, [], 0, 0), (.iaload, 1, 0, 0, [], 0, 0), (.aload_n 0, 1, 0, 0, [], 0, 0), (.iload_n 3, 1, 3, 0, [], 0, 0), (.iconst 3, 1, 0, 0, [], 3, 0), (.iadd, 1, 0, 0, [], 0, 0), (.iaload, 1, 0, 0, [], 0, 0), (.aload_n 0, 1, 0, 0, [], 0, 0), (.iload_n 3, 1, 3, 0, [], 0, 0), (.iconst 4, 1, 0, 0, [], 4, 0), (.iadd, 1, 0, 0, [], 0, 0), (.iaload, 1, 0, 0, [], 0, 0), (.invokevirtual 101, 3, 4, 0, [(11, 169)], 0, 0), (.if_icmp .eq 581, 3, 38, 0, [], 0, 0), (.iconst 0, 1, 0, 0, [], 0, 0), (.ireturn, 1, 0, 3, [], 0, 0)] := ⟨trivial, ⟨trivial, ⟨trivial, ⟨trivial, ⟨trivial, ⟨trivial, ⟨trivial, ⟨trivial, ⟨trivial, ⟨trivial, ⟨trivial, ⟨trivial, ⟨trivial, ⟨trivial, ⟨trivial, ⟨trivial, ⟨trivial, ⟨trivial, ⟨trivial, ⟨trivial, ⟨trivial, ⟨lk_475, ⟨trivial, ⟨trivial, ⟨trivial, ⟨trivial, ⟨trivial, ⟨trivial, ⟨trivial, ⟨trivial, ⟨trivial, ⟨trivial, ⟨trivial, ⟨trivial, ⟨trivial, ⟨trivial, ⟨trivial, ⟨trivial, ⟨trivial, ⟨trivial, ⟨trivial, ⟨trivial, ⟨trivial, ⟨lk_476, ⟨trivial, ⟨trivial, ⟨trivial, trivial⟩⟩⟩⟩⟩⟩⟩⟩⟩⟩⟩⟩⟩⟩⟩⟩⟩⟩⟩⟩⟩⟩⟩⟩⟩⟩⟩⟩⟩⟩⟩⟩⟩⟩⟩⟩⟩⟩⟩⟩⟩⟩⟩⟩⟩⟩⟩
set_option maxRecDepth 100000 in
set_option maxHeartbeats 4000000 in
theorem n_L_law_23 : en_lkC "EvenStepsLaw" false [(.aload_n 1, 1, 1, 0, [], 0, 0), (.aload_n 0, 1, 0, 0, [], 0, 0), (.iload_n 3, 1, 3, 0, [], 0, 0), (.iconst 1, 1, 0, 0, [], 1, 0), (.iadd, 1, 0, 0, [], 0, 0), (.iaload, 1, 0, 0, [], 0, 0), (.aload_n 0, 1, 0, 0, [], 0, 0), (.iload_n 3, 1, 3, 0, [], 0, 0), (.iconst 2, 1, 0, 0, [], 2, 0), (.iadd, 1, 0, 0, [], 0, 0), (.iaload, 1, 0, 0, [], 0, 0), (.aload_n 0, 1, 0, 0, [], 0, 0), (.iload_n 3, 1, 3, 0, [], 0, 0), (.iconst 3, 1, 0, 0, [], 3, 0), (.iadd, 1, 0, 0, [], 0, 0), (.iaload, 1, 0, 0, [], 0, 0), (.invokevirtual 102, 3, 3, 0, [(10, 90)], 0, 0), (.aload_n 2, 1, 2, 0, [], 0, 0), (.aload_n 0, 1, 0, 0, [], 0, 0), (.iload_n 3, 1, 3, 0, [], 0, 0), (.iconst 1, 1, 0, 0, [], 1, 0), (.iadd, 1, 0, 0, [], 0, 0), (.iaload, 1, 0, 0, [], 0, 0), (.aload_n 0, 1, 0, 0, [], 0, 0), (.iload_n 3, 1, 3, 0, [], 0, 0), (.iconst 2, 1, 0, 0, [], 2, 0), (.iadd, 1, 0, 0, [], 0, 0), (.iaload, 1, 0, 0, [], 0, 0), (.aload_n 0, 1, 0, 0, [], 0, 0), (.iload_n 3, 1, 3, 0, [], 0, 0), (.iconst 3, 1, 0, 0, [], 3, 0), (.iadd, 1, 0, 0, [], 0, 0), (.iaload, 1, 0, 0, [], 0, 0), (.invokevirtual 105, 3, 3, 0, [(11, 172)], 0, 0), (.if_icmp .eq 538, 3, 38, 0, [], 0, 0), (.iconst 0, 1, 0, 0, [], 0, 0), (.ireturn, 1, 0, 3, [], 0, 0)] := ⟨trivial, ⟨trivial, ⟨trivial, ⟨trivial, ⟨trivial, ⟨trivial, ⟨trivial, ⟨trivial, ⟨trivial, ⟨trivial, ⟨trivial, ⟨trivial, ⟨trivial, ⟨trivial, ⟨trivial, ⟨trivial, ⟨lk_477, ⟨trivial, ⟨trivial, ⟨trivial, ⟨trivial, ⟨trivial, ⟨trivial, ⟨trivial, ⟨trivial, ⟨trivial, ⟨trivial, ⟨trivial, ⟨trivial, ⟨trivial, ⟨trivial, ⟨trivial, ⟨trivial, ⟨lk_478, ⟨trivial, ⟨trivial, ⟨trivial, trivial⟩⟩⟩⟩⟩⟩⟩⟩⟩⟩⟩⟩⟩⟩⟩⟩⟩⟩⟩⟩⟩⟩⟩⟩⟩⟩⟩⟩⟩⟩⟩⟩⟩⟩⟩⟩⟩
set_option maxRecDepth 100000 in
set_option maxHeartbeats 4000000 in
theorem n_L_law_24 : en_lkC "EvenStepsLaw" false [(.aload_n 1, 1, 1, 0, [], 0, 0), (.aload_n 0, 1, 0, 0, [], 0, 0), (.iload_n 3, 1, 3, 0, [], 0, 0), (.iconst 1, 1, 0, 0, [], 1, 0), (.iadd, 1, 0, 0, [], 0, 0), (.iaload, 1, 0, 0, [], 0, 0), (.aload_n 0, 1, 0, 0, [], 0, 0), (.iload_n 3, 1, 3, 0, [], 0, 0), (.iconst 2, 1, 0, 0, [], 2, 0), (.iadd, 1, 0, 0, [], 0, 0), (.iaload, 1, 0, 0, [], 0, 0), (.invokevirtual 106, 3, 2, 0, [(10, 96)], 0, 0), (.aload_n 2, 1, 2, 0, [], 0, 0), (.aload_n 0, 1, 0, 0, [], 0, 0), (.iload_n 3, 1, 3, 0, [], 0, 0), (.iconst 1, 1, 0, 0, [], 1, 0), (.iadd, 1, 0, 0, [], 0, 0), (.iaload, 1, 0, 0, [], 0, 0), (.aload_n 0, 1, 0, 0, [], 0, 0), (.iload_n 3, 1, 3, 0, [], 0, 0), (.iconst 2, 1, 0, 0, [], 2, 0), (.iadd, 1, 0, 0, [], 0, 0), (.iaload, 1, 0, 0, [], 0, 0), (.invokevirtual 109, 3, 2, 0, [(11, 178)], 0, 0), (.if_icmp .eq 505, 3, 38, 0, [], 0, 0), (.iconst 0, 1, 0, 0, [], 0, 0), (.ireturn, 1, 0, 3, [], 0, 0)] := ⟨trivial, ⟨trivial, ⟨trivial, ⟨trivial, ⟨trivial, ⟨trivial, ⟨trivial, ⟨trivial, ⟨trivial, ⟨trivial, ⟨trivial, ⟨lk_479, ⟨trivial, ⟨trivial, ⟨trivial, ⟨trivial, ⟨trivial, ⟨trivial, ⟨trivial, ⟨trivial, ⟨trivial, ⟨trivial, ⟨trivial, ⟨lk_480, ⟨trivial, ⟨trivial, ⟨trivial, trivial⟩⟩⟩⟩⟩⟩⟩⟩⟩⟩⟩⟩⟩⟩⟩⟩⟩⟩⟩⟩⟩⟩⟩⟩⟩⟩⟩
set_option maxRecDepth 100000 in
set_option maxHeartbeats 4000000 in
theorem n_L_law_25 : en_lkC "EvenStepsLaw" false [(.aload_n 1, 1, 1, 0, [], 0, 0), (.aload_n 0, 1, 0, 0, [], 0, 0), (.iload_n 3, 1, 3, 0, [], 0, 0), (.iconst 1, 1, 0, 0, [], 1, 0), (.iadd, 1, 0, 0, [], 0, 0), (.iaload, 1, 0, 0, [], 0, 0), (.aload_n 0, 1, 0, 0, [], 0, 0), (.iload_n 3, 1, 3, 0, [], 0, 0), (.iconst 2, 1, 0, 0, [], 2, 0), (.iadd, 1, 0, 0, [], 0, 0), (.iaload, 1, 0, 0, [], 0, 0), (.aload_n 0, 1, 0, 0, [], 0, 0), (.iload_n 3, 1, 3, 0, [], 0, 0), (.iconst 3, 1, 0, 0, [], 3, 0), (.iadd, 1, 0, 0, [], 0, 0), (.iaload, 1, 0, 0, [], 0, 0), (.aload_n 0, 1, 0, 0, [], 0, 0), (.iload_n 3, 1, 3, 0, [], 0, 0), (.iconst 4, 1, 0, 0, [], 4, 0), (.iadd, 1, 0, 0, [], 0, 0), (.iaload, 1, 0, 0, [], 0, 0), (.invokevirtual 110, 3, 4, 0, [(10, 97)], 0, 0), (.aload_n 2, 1, 2, 0, [], 0, 0), (.aload_n 0, 1, 0, 0, [], 0, 0), (.iload_n 3, 1, 3, 0, [], 0, 0), (.iconst 1, 1, 0, 0, [], 1, 0), (.iadd, 1, 0, 0, [], 0, 0), (.iaload, 1, 0, 0, [], 0, 0), (.aload_n 0, 1, 0, 0, [], 0, 0), (.iload_n 3, 1, 3, 0, [], 0, 0), (.iconst 2, 1, 0, 0, [], 2, 0), (.iadd, 1, 0, 0, [], 0, 0), (.iaload, 1, 0, 0, [], 0, 0), (.aload_n 0, 1, 0, 0, [], 0, 0), (.iload_n 3, 1, 3, 0, [], 0, 0), (.iconst 3, 1, 0, 0, [], 3, 0), (.iadd, 1, 0, 0, [], 0, 0), (.iaload, 1, 0, 0, [], 0, 0), (.aload_n 0, 1, 0, 0, [], 0, 0), (.iload_n 3, 1, 3, 0, [], 0, 0), (.iconst 4, 1, 0, 0, [], 4, 0), (.iadd, 1, 0, 0, [], 0, 0), (.iaload, 1, 0, 0, [], 0, 0), (.invokevirtual 113, 3, 4, 0, [(11, 179)], 0, 0), (.if_icmp .eq 452, 3, 38, 0, [], 0, 0), (.iconst 0, 1, 0, 0, [], 0, 0), (.ireturn, 1, 0, 3, [], 0, 0)] := ⟨trivial, ⟨trivial, ⟨trivial, ⟨trivial, ⟨trivial, ⟨trivial, ⟨trivial, ⟨trivial, ⟨trivial, ⟨trivial, ⟨trivial, ⟨trivial, ⟨trivial, ⟨trivial, ⟨trivial, ⟨trivial, ⟨trivial, ⟨trivial, ⟨trivial, ⟨trivial, ⟨trivial, ⟨lk_481, ⟨trivial, ⟨trivial, ⟨trivial, ⟨trivial, ⟨trivial, ⟨trivial, ⟨trivial, ⟨trivial, ⟨trivial, ⟨trivial, ⟨trivial, ⟨trivial, ⟨trivial, ⟨trivial, ⟨trivial, ⟨trivial, ⟨trivial, ⟨trivial, ⟨trivial, ⟨trivial, ⟨trivial, ⟨lk_482, ⟨trivial, ⟨trivial, ⟨trivial, trivial⟩⟩⟩⟩⟩⟩⟩⟩⟩⟩⟩⟩⟩⟩⟩⟩⟩⟩⟩⟩⟩⟩⟩⟩⟩⟩⟩⟩⟩⟩⟩⟩⟩⟩⟩⟩⟩⟩⟩⟩⟩⟩⟩⟩⟩⟩⟩
set_option maxRecDepth 100000 in
set_option maxHeartbeats 4000000 in
theorem n_L_law_26 : en_lkC "EvenStepsLaw" false [(.aload_n 1, 1, 1, 0, [], 0, 0), (.aload_n 0, 1, 0, 0, [], 0, 0), (.iload_n 3, 1, 3, 0, [], 0, 0), (.iconst 1, 1, 0, 0, [], 1, 0), (.iadd, 1, 0, 0, [], 0, 0), (.iaload, 1, 0, 0, [], 0, 0), (.aload_n 0, 1, 0, 0, [], 0, 0), (.iload_n 3, 1, 3, 0, [], 0, 0), (.iconst 2, 1, 0, 0, [], 2, 0), (.iadd, 1, 0, 0, [], 0, 0), (.iaload, 1, 0, 0, [], 0, 0), (.aload_n 0, 1, 0, 0, [], 0, 0), (.iload_n 3, 1, 3, 0, [], 0, 0), (.iconst 3, 1, 0, 0, [], 3, 0), (.iadd, 1, 0, 0, [], 0, 0), (.iaload, 1, 0, 0, [], 0, 0), (.invokevirtual 114, 3, 3, 0, [(10, 98)], 0, 0), (.aload_n 2, 1, 2, 0, [], 0, 0), (.aload_n 0, 1, 0, 0, [], 0, 0), (.iload_n 3, 1, 3, 0, [], 0, 0), (.iconst 1, 1, 0, 0, [], 1, 0), (.iadd, 1, 0, 0, [], 0, 0), (.iaload, 1, 0, 0, [], 0, 0), (.aload_n 0, 1, 0, 0, [], 0, 0), (.iload_n 3, 1, 3, 0, [], 0, 0), (.iconst 2, 1, 0, 0, [], 2, 0), (.iadd, 1, 0, 0, [], 0, 0), (.iaload, 1, 0, 0, [], 0, 0), (.aload_n 0, 1, 0, 0, [], 0, 0), (.iload_n 3, 1, 3, 0, [], 0, 0), (.iconst 3, 1, 0, 0, [], 3, 0), (.iadd, 1, 0, 0, [], 0, 0), (.iaload, 1, 0, 0, [], 0, 0), (.invokevirtual 117, 3, 3, 0, [(11, 180)], 0, 0), (.if_icmp .eq 409, 3, 38, 0, [], 0, 0), (.iconst 0, 1, 0, 0, [], 0, 0), (.ireturn, 1, 0, 3, [], 0, 0)] := ⟨trivial, ⟨trivial, ⟨trivial, ⟨trivial, ⟨trivial, ⟨trivial, ⟨trivial, ⟨trivial, ⟨trivial, ⟨trivial, ⟨trivial, ⟨trivial, ⟨trivial, ⟨trivial, ⟨trivial, ⟨trivial, ⟨lk_483, ⟨trivial, ⟨trivial, ⟨trivial, ⟨trivial, ⟨trivial, ⟨trivial, ⟨trivial, ⟨trivial, ⟨trivial, ⟨trivial, ⟨trivial, ⟨trivial, ⟨trivial, ⟨trivial, ⟨trivial, ⟨trivial, ⟨lk_484, ⟨trivial, ⟨trivial, ⟨trivial, trivial⟩⟩⟩⟩⟩⟩⟩⟩⟩⟩⟩⟩⟩⟩⟩⟩⟩⟩⟩⟩⟩⟩⟩⟩⟩⟩⟩⟩⟩⟩⟩⟩⟩⟩⟩⟩⟩
set_option maxRecDepth 100000 in
set_option maxHeartbeats 4000000 in
theorem n_L_law_27 : en_lkC "EvenStepsLaw" false [(.aload_n 1, 1, 1, 0, [], 0, 0), (.aload_n 0, 1, 0, 0, [], 0, 0), (.iload_n 3, 1, 3, 0, [], 0, 0), (.iconst 1, 1, 0, 0, [], 1, 0), (.iadd, 1, 0, 0, [], 0, 0), (.iaload, 1, 0, 0, [], 0, 0), (.aload_n 0, 1, 0, 0, [], 0, 0), (.iload_n 3, 1, 3, 0, [], 0, 0), (.iconst 2, 1, 0, 0, [], 2, 0), (.iadd, 1, 0, 0, [], 0, 0), (.iaload, 1, 0, 0, [], 0, 0), (.invokevirtual 118, 3, 2, 0, [(10, 81)], 0, 0), (.aload_n 2, 1, 2, 0, [], 0, 0), (.aload_n 0, 1, 0, 0, [], 0, 0), (.iload_n 3, 1, 3, 0, [], 0, 0), (.iconst 1, 1, 0, 0, [], 1, 0), (.iadd, 1, 0, 0, [], 0, 0), (.iaload, 1, 0, 0, [], 0, 0), (.aload_n 0, 1, 0, 0, [], 0, 0), (.iload_n 3, 1, 3, 0, [], 0, 0), (.iconst 2, 1, 0, 0, [], 2, 0), (.iadd, 1, 0, 0, [], 0, 0), (.iaload, 1, 0, 0, [], 0, 0), (.invokevirtual 121, 3, 2, 0, [(11, 182)], 0, 0), (.if_icmp .eq 376, 3, 38, 0, [], 0, 0), (.iconst 0, 1, 0, 0, [], 0, 0), (.ireturn, 1, 0, 3, [], 0, 0)] := ⟨trivial, ⟨trivial, ⟨trivial, ⟨trivial, ⟨trivial, ⟨trivial, ⟨trivial, ⟨trivial, ⟨trivial, ⟨trivial, ⟨trivial, ⟨lk_485, ⟨trivial, ⟨trivial, ⟨trivial, ⟨trivial, ⟨trivial, ⟨trivial, ⟨trivial, ⟨trivial, ⟨trivial, ⟨trivial, ⟨trivial, ⟨lk_486, ⟨trivial, ⟨trivial, ⟨trivial, trivial⟩⟩⟩⟩⟩⟩⟩⟩⟩⟩⟩⟩⟩⟩⟩⟩⟩⟩⟩⟩⟩⟩⟩⟩⟩⟩⟩
set_option maxRecDepth 100000 in
set_option maxHeartbeats 4000000 in
theorem n_L_law_28 : en_lkC "EvenStepsLaw" false [(.aload_n 1, 1, 1, 0, [], 0, 0), (.aload_n 0, 1, 0, 0, [], 0, 0), (.iload_n 3, 1, 3, 0, [], 0, 0), (.iconst 1, 1, 0, 0, [], 1, 0), (.iadd, 1, 0, 0, [], 0, 0), (.iaload, 1, 0, 0, [], 0, 0), (.aload_n 0, 1, 0, 0, [], 0, 0), (.iload_n 3, 1, 3, 0, [], 0, 0), (.iconst 2, 1, 0, 0, [], 2, 0), (.iadd, 1, 0, 0, [], 0, 0), (.iaload, 1, 0, 0, [], 0, 0), (.invokevirtual 122, 3, 2, 1, [(10, 100)], 0, 0), (.aload_n 2, 1, 2, 0, [], 0, 0), (.aload_n 0, 1, 0, 0, [], 0, 0), (.iload_n 3, 1, 3, 0, [], 0, 0), (.iconst 1, 1, 0, 0, [], 1, 0), (.iadd, 1, 0, 0, [], 0, 0), (.iaload, 1, 0, 0, [], 0, 0), (.aload_n 0, 1, 0, 0, [], 0, 0), (.iload_n 3, 1, 3, 0, [], 0, 0), (.iconst 2, 1, 0, 0, [], 2, 0), (.iadd, 1, 0, 0, [], 0, 0), (.iaload, 1, 0, 0, [], 0, 0), (.invokevirtual 126, 3, 2, 1, [(11, 183)], 0, 0), (.lcmp, 1, 0, 0, [], 0, 0), (.ifCond .eq 342, 3, 38, 0, [], 0, 0), (.iconst 0, 1, 0, 0, [], 0, 0), (.ireturn, 1, 0, 3, [], 0, 0)] := ⟨trivial, ⟨trivial, ⟨trivial, ⟨trivial, ⟨trivial, ⟨trivial, ⟨trivial, ⟨trivial, ⟨trivial, ⟨trivial, ⟨trivial, ⟨lk_487, ⟨trivial, ⟨trivial, ⟨trivial, ⟨trivial, ⟨trivial, ⟨trivial, ⟨trivial, ⟨trivial, ⟨trivial, ⟨trivial, ⟨trivial, ⟨lk_488, ⟨trivial, ⟨trivial, ⟨trivial, ⟨trivial, trivial⟩⟩⟩⟩⟩⟩⟩⟩⟩⟩⟩⟩⟩⟩⟩⟩⟩⟩⟩⟩⟩⟩⟩⟩⟩⟩⟩⟩
set_option maxRecDepth 100000 in
set_option maxHeartbeats 4000000 in
theorem n_L_law_29 : en_lkC "EvenStepsLaw" false [(.aload_n 1, 1, 1, 0, [], 0, 0), (.aload_n 0, 1, 0, 0, [], 0, 0), (.iload_n 3, 1, 3, 0, [], 0, 0), (.iconst 1, 1, 0, 0, [], 1, 0), (.iadd, 1, 0, 0, [], 0, 0), (.iaload, 1, 0, 0, [], 0, 0), (.i2l, 1, 0, 0, [], 0, 0), (.bipush 32, 2, 0, 0, [], 32, 0), (.lshl, 1, 0, 0, [], 0, 0), (.aload_n 0, 1, 0, 0, [], 0, 0), (.iload_n 3, 1, 3, 0, [], 0, 0), (.iconst 2, 1, 0, 0, [], 2, 0), (.iadd, 1, 0, 0, [], 0, 0), (.iaload, 1, 0, 0, [], 0, 0), (.i2l, 1, 0, 0, [], 0, 0), (.ldc2_w 127, 3, 0, 0, [], 0, 4294967295), (.land, 1, 0, 0, [], 0, 0), (.lor, 1, 0, 0, [], 0, 0), (.aload_n 0, 1, 0, 0, [], 0, 0), (.iload_n 3, 1, 3, 0, [], 0, 0), (.iconst 3, 1, 0, 0, [], 3, 0), (.iadd, 1, 0, 0, [], 0, 0), (.iaload, 1, 0, 0, [], 0, 0), (.invokevirtual 129, 3, 2, 0, [(10, 102)], 0, 0), (.aload_n 2, 1, 2, 0, [], 0, 0), (.aload_n 0, 1, 0, 0, [], 0, 0), (.iload_n 3, 1, 3, 0, [], 0, 0), (.iconst 1, 1, 0, 0, [], 1, 0), (.iadd, 1, 0, 0, [], 0, 0), (.iaload, 1, 0, 0, [], 0, 0), (.i2l, 1, 0, 0, [], 0, 0), (.bipush 32, 2, 0, 0, [], 32, 0), (.lshl, 1, 0, 0, [], 0, 0), (.aload_n 0, 1, 0, 0, [], 0, 0), (.iload_n 3, 1, 3, 0, [], 0, 0), (.iconst 2, 1, 0, 0, [], 2, 0), (.iadd, 1, 0, 0, [], 0, 0), (.iaload, 1, 0, 0, [], 0, 0), (.i2l, 1, 0, 0, [], 0, 0), (.ldc2_w 127, 3, 0, 0, [], 0, 4294967295), (.land, 1, 0, 0, [], 0, 0), (.lor, 1, 0, 0, [], 0, 0), (.aload_n 0, 1, 0, 0, [], 0, 0), (.iload_n 3, 1, 3, 0, [], 0, 0), (.iconst 3, 1, 0, 0, [], 3, 0), (.iadd, 1, 0, 0, [], 0, 0), (.iaload, 1, 0, 0, [], 0, 0), (.invokevirtual 133, 3, 2, 0, [(11, 184)], 0, 0), (.if_icmp .eq 279, 3, 38, 0, [], 0, 0), (.iconst 0, 1, 0, 0, [], 0, 0), (.ireturn, 1, 0, 3, [], 0, 0)] := ⟨trivial, ⟨trivial, ⟨trivial, ⟨trivial, ⟨trivial, ⟨trivial, ⟨trivial, ⟨trivial, ⟨trivial, ⟨trivial, ⟨trivial, ⟨trivial, ⟨trivial, ⟨trivial, ⟨trivial, ⟨wd_1358, ⟨trivial, ⟨trivial, ⟨trivial, ⟨trivial, ⟨trivial, ⟨trivial, ⟨trivial, ⟨lk_490, ⟨trivial, ⟨trivial, ⟨trivial, ⟨trivial, ⟨trivial, ⟨trivial, ⟨trivial, ⟨trivial, ⟨trivial, ⟨trivial, ⟨trivial, ⟨trivial, ⟨trivial, ⟨trivial, ⟨trivial, ⟨wd_1358, ⟨trivial, ⟨trivial, ⟨trivial, ⟨trivial, ⟨trivial, ⟨trivial, ⟨trivial, ⟨lk_491, ⟨trivial, ⟨trivial, ⟨trivial, trivial⟩⟩⟩⟩⟩⟩⟩⟩⟩⟩⟩⟩⟩⟩⟩⟩⟩⟩⟩⟩⟩⟩⟩⟩⟩⟩⟩⟩⟩⟩⟩⟩⟩⟩⟩⟩⟩⟩⟩⟩⟩⟩⟩⟩⟩⟩⟩⟩⟩⟩⟩
set_option maxRecDepth 100000 in
set_option maxHeartbeats 4000000 in
theorem n_L_law_30 : en_lkC "EvenStepsLaw" false [(.aload_n 1, 1, 1, 0, [], 0, 0), (.aload_n 0, 1, 0, 0, [], 0, 0), (.iload_n 3, 1, 3, 0, [], 0, 0), (.iconst 1, 1, 0, 0, [], 1, 0), (.iadd, 1, 0, 0, [], 0, 0), (.iaload, 1, 0, 0, [], 0, 0), (.aload_n 0, 1, 0, 0, [], 0, 0), (.iload_n 3, 1, 3, 0, [], 0, 0), (.iconst 2, 1, 0, 0, [], 2, 0), (.iadd, 1, 0, 0, [], 0, 0), (.iaload, 1, 0, 0, [], 0, 0), (.invokevirtual 134, 3, 2, 0, [(10, 104)], 0, 0), (.aload_n 2, 1, 2, 0, [], 0, 0), (.aload_n 0, 1, 0, 0, [], 0, 0), (.iload_n 3, 1, 3, 0, [], 0, 0), (.iconst 1, 1, 0, 0, [], 1, 0), (.iadd, 1, 0, 0, [], 0, 0), (.iaload, 1, 0, 0, [], 0, 0), (.aload_n 0, 1, 0, 0, [], 0, 0), (.iload_n 3, 1, 3, 0, [], 0, 0), (.iconst 2, 1, 0, 0, [], 2, 0), (.iadd, 1, 0, 0, [], 0, 0), (.iaload, 1, 0, 0, [], 0, 0), (.invokevirtual 137, 3, 2, 0, [(11, 186)], 0, 0), (.if_icmp .eq 246, 3, 38, 0, [], 0, 0), (.iconst 0, 1, 0, 0, [], 0, 0), (.ireturn, 1, 0, 3, [], 0, 0)] := ⟨trivial, ⟨trivial, ⟨trivial, ⟨trivial, ⟨trivial, ⟨trivial, ⟨trivial, ⟨trivial, ⟨trivial, ⟨trivial, ⟨trivial, ⟨lk_492, ⟨trivial, ⟨trivial, ⟨trivial, ⟨trivial, ⟨trivial, ⟨trivial, ⟨trivial, ⟨trivial, ⟨trivial, ⟨trivial, ⟨trivial, ⟨lk_493, ⟨trivial, ⟨trivial, ⟨trivial, trivial⟩⟩⟩⟩⟩⟩⟩⟩⟩⟩⟩⟩⟩⟩⟩⟩⟩⟩⟩⟩⟩⟩⟩⟩⟩⟩⟩
set_option maxRecDepth 100000 in
set_option maxHeartbeats 4000000 in
theorem n_L_law_31 : en_lkC "EvenStepsLaw" false [(.aload_n 1, 1, 1, 0, [], 0, 0), (.aload_n 0, 1, 0, 0, [], 0, 0), (.iload_n 3, 1, 3, 0, [], 0, 0), (.iconst 1, 1, 0, 0, [], 1, 0), (.iadd, 1, 0, 0, [], 0, 0), (.iaload, 1, 0, 0, [], 0, 0), (.aload_n 0, 1, 0, 0, [], 0, 0), (.iload_n 3, 1, 3, 0, [], 0, 0), (.iconst 2, 1, 0, 0, [], 2, 0), (.iadd, 1, 0, 0, [], 0, 0), (.iaload, 1, 0, 0, [], 0, 0), (.invokevirtual 138, 3, 2, 0, [(10, 105)], 0, 0), (.aload_n 2, 1, 2, 0, [], 0, 0), (.aload_n 0, 1, 0, 0, [], 0, 0), (.iload_n 3, 1, 3, 0, [], 0, 0), (.iconst 1, 1, 0, 0, [], 1, 0), (.iadd, 1, 0, 0, [], 0, 0), (.iaload, 1, 0, 0, [], 0, 0), (.aload_n 0, 1, 0, 0, [], 0, 0), (.iload_n 3, 1, 3, 0, [], 0, 0), (.iconst 2, 1, 0, 0, [], 2, 0), (.iadd, 1, 0, 0, [], 0, 0), (.iaload, 1, 0, 0, [], 0, 0), (.invokevirtual 141, 3, 2, 0, [(11, 187)], 0, 0), (.if_icmp .eq 213, 3, 38, 0, [], 0, 0), (.iconst 0, 1, 0, 0, [], 0, 0), (.ireturn, 1, 0, 3, [], 0, 0)] := ⟨trivial, ⟨trivial, ⟨trivial, ⟨trivial, ⟨trivial, ⟨trivial, ⟨trivial, ⟨trivial, ⟨trivial, ⟨trivial, ⟨trivial, ⟨lk_494, ⟨trivial, ⟨trivial, ⟨trivial, ⟨trivial, ⟨trivial, ⟨trivial, ⟨trivial, ⟨trivial, ⟨trivial, ⟨trivial, ⟨trivial, ⟨lk_495, ⟨trivial, ⟨trivial, ⟨trivial, trivial⟩⟩⟩⟩⟩⟩⟩⟩⟩⟩⟩⟩⟩⟩⟩⟩⟩⟩⟩⟩⟩⟩⟩⟩⟩⟩⟩
set_option maxRecDepth 100000 in
set_option maxHeartbeats 4000000 in
theorem n_L_law_32 : en_lkC "EvenStepsLaw" false [(.aload_n 1, 1, 1, 0, [], 0, 0), (.aload_n 0, 1, 0, 0, [], 0, 0), (.iload_n 3, 1, 3, 0, [], 0, 0), (.iconst 1, 1, 0, 0, [], 1, 0), (.iadd, 1, 0, 0, [], 0, 0), (.iaload, 1, 0, 0, [], 0, 0), (.aload_n 0, 1, 0, 0, [], 0, 0), (.iload_n 3, 1, 3, 0, [], 0, 0), (.iconst 2, 1, 0, 0, [], 2, 0), (.iadd, 1, 0, 0, [], 0, 0), (.iaload, 1, 0, 0, [], 0, 0), (.aload_n 0, 1, 0, 0, [], 0, 0), (.iload_n 3, 1, 3, 0, [], 0, 0), (.iconst 3, 1, 0, 0, [], 3, 0), (.iadd, 1, 0, 0, [], 0, 0), (.iaload, 1, 0, 0, [], 0, 0), (.invokevirtual 142, 3, 3, 0, [(10, 109)], 0, 0), (.aload_n 2, 1, 2, 0, [], 0, 0), (.aload_n 0, 1, 0, 0, [], 0, 0), (.iload_n 3, 1, 3, 0, [], 0, 0), (.iconst 1, 1, 0, 0, [], 1, 0), (.iadd, 1, 0, 0, [], 0, 0), (.iaload, 1, 0, 0, [], 0, 0), (.aload_n 0, 1, 0, 0, [], 0, 0), (.iload_n 3, 1, 3, 0, [], 0, 0), (.iconst 2, 1, 0, 0, [], 2, 0), (.iadd, 1, 0, 0, [], 0, 0), (.iaload, 1, 0, 0, [], 0, 0), (.aload_n 0, 1, 0, 0, [], 0, 0), (.iload_n 3, 1, 3, 0, [], 0, 0), (.iconst 3, 1, 0, 0, [], 3, 0), (.iadd, 1, 0, 0, [], 0, 0), (.iaload, 1, 0, 0, [], 0, 0), (.invokevirtual 145, 3, 3, 0, [(11, 200)], 0, 0), (.if_icmp .eq 170, 3, 38, 0, [], 0, 0), (.iconst 0, 1, 0, 0, [], 0, 0), (.ireturn, 1, 0, 3, [], 0, 0)] := ⟨trivial, ⟨trivial, ⟨trivial, ⟨trivial, ⟨trivial, ⟨trivial, ⟨trivial, ⟨trivial, ⟨trivial, ⟨trivial, ⟨trivial, ⟨trivial, ⟨trivial, ⟨trivial, ⟨trivial, ⟨trivial, ⟨lk_496, ⟨trivial, ⟨trivial, ⟨trivial, ⟨trivial, ⟨trivial, ⟨trivial, ⟨trivial, ⟨trivial, ⟨trivial, ⟨trivial, ⟨trivial, ⟨trivial, ⟨trivial, ⟨trivial, ⟨trivial, ⟨trivial, ⟨lk_497, ⟨trivial, ⟨trivial, ⟨trivial, trivial⟩⟩⟩⟩⟩⟩⟩⟩⟩⟩⟩⟩⟩⟩⟩⟩⟩⟩⟩⟩⟩⟩⟩⟩⟩⟩⟩⟩⟩⟩⟩⟩⟩⟩⟩⟩⟩
set_option maxRecDepth 100000 in
set_option maxHeartbeats 4000000 in
theorem n_L_law_33 : en_lkC "EvenStepsLaw" false [(.aload_n 1, 1, 1, 0, [], 0, 0), (.aload_n 0, 1, 0, 0, [], 0, 0), (.iload_n 3, 1, 3, 0, [], 0, 0), (.iconst 1, 1, 0, 0, [], 1, 0), (.iadd, 1, 0, 0, [], 0, 0), (.iaload, 1, 0, 0, [], 0, 0), (.invokevirtual 146, 3, 1, 0, [(10, 110)], 0, 0), (.aload_n 2, 1, 2, 0, [], 0, 0), (.aload_n 0, 1, 0, 0, [], 0, 0), (.iload_n 3, 1, 3, 0, [], 0, 0), (.iconst 1, 1, 0, 0, [], 1, 0), (.iadd, 1, 0, 0, [], 0, 0), (.iaload, 1, 0, 0, [], 0, 0), (.invokevirtual 149, 3, 1, 0, [(11, 201)], 0, 0), (.if_icmp .eq 147, 3, 38, 0, [], 0, 0), (.iconst 0, 1, 0, 0, [], 0, 0), (.ireturn, 1, 0, 3, [], 0, 0)] := ⟨trivial, ⟨trivial, ⟨trivial, ⟨trivial, ⟨trivial, ⟨trivial, ⟨lk_498, ⟨trivial, ⟨trivial, ⟨trivial, ⟨trivial, ⟨trivial, ⟨trivial, ⟨lk_499, ⟨trivial, ⟨trivial, ⟨trivial, trivial⟩⟩⟩⟩⟩⟩⟩⟩⟩⟩⟩⟩⟩⟩⟩⟩⟩
set_option maxRecDepth 100000 in
set_option maxHeartbeats 4000000 in
theorem n_L_law_34 : en_lkC "EvenStepsLaw" false [(.aload_n 1, 1, 1, 0, [], 0, 0), (.aload_n 0, 1, 0, 0, [], 0, 0), (.iload_n 3, 1, 3, 0, [], 0, 0), (.iconst 1, 1, 0, 0, [], 1, 0), (.iadd, 1, 0, 0, [], 0, 0), (.iaload, 1, 0, 0, [], 0, 0), (.aload_n 0, 1, 0, 0, [], 0, 0), (.iload_n 3, 1, 3, 0, [], 0, 0), (.iconst 2, 1, 0, 0, [], 2, 0), (.iadd, 1, 0, 0, [], 0, 0), (.iaload, 1, 0, 0, [], 0, 0), (.aload_n 0, 1, 0, 0, [], 0, 0), (.iload_n 3, 1, 3, 0, [], 0, 0), (.iconst 3, 1, 0, 0, [], 3, 0), (.iadd, 1, 0, 0, [], 0, 0), (.iaload, 1, 0, 0, [], 0, 0), (.invokevirtual 150, 3, 3, 0, [(10, 111)], 0, 0), (.aload_n 2, 1, 2, 0, [], 0, 0), (.aload_n 0, 1, 0, 0, [], 0, 0), (.iload_n 3, 1, 3, 0, [], 0, 0), (.iconst 1, 1, 0, 0, [], 1, 0), (.iadd, 1, 0, 0, [], 0, 0), (.iaload, 1, 0, 0, [], 0, 0), (.aload_n 0, 1, 0, 0, [], 0, 0), (.iload_n 3, 1, 3, 0, [], 0, 0), (.iconst 2, 1, 0, 0, [], 2, 0), (.iadd, 1, 0, 0, [], 0, 0), (.iaload, 1, 0, 0, [], 0, 0), (.aload_n 0, 1, 0, 0, [], 0, 0), (.iload_n 3, 1, 3, 0, [], 0, 0), (.iconst 3, 1, 0, 0, [], 3, 0), (.iadd, 1, 0, 0, [], 0, 0), (.iaload, 1, 0, 0, [], 0, 0), (.invokevirtual 153, 3, 3, 0, [(11, 202)], 0, 0), (.if_icmp .eq 104, 3, 38, 0, [], 0, 0), (.iconst 0, 1, 0, 0, [], 0, 0), (.ireturn, 1, 0, 3, [], 0, 0)] := ⟨trivial, ⟨trivial, ⟨trivial, ⟨trivial, ⟨trivial, ⟨trivial, ⟨trivial, ⟨trivial, ⟨trivial, ⟨trivial, ⟨trivial, ⟨trivial, ⟨trivial, ⟨trivial, ⟨trivial, ⟨trivial, ⟨lk_500, ⟨trivial, ⟨trivial, ⟨trivial, ⟨trivial, ⟨trivial, ⟨trivial, ⟨trivial, ⟨trivial, ⟨trivial, ⟨trivial, ⟨trivial, ⟨trivial, ⟨trivial, ⟨trivial, ⟨trivial, ⟨trivial, ⟨lk_501, ⟨trivial, ⟨trivial, ⟨trivial, trivial⟩⟩⟩⟩⟩⟩⟩⟩⟩⟩⟩⟩⟩⟩⟩⟩⟩⟩⟩⟩⟩⟩⟩⟩⟩⟩⟩⟩⟩⟩⟩⟩⟩⟩⟩⟩⟩
set_option maxRecDepth 100000 in
set_option maxHeartbeats 4000000 in
theorem n_L_law_35 : en_lkC "EvenStepsLaw" false [(.aload_n 1, 1, 1, 0, [], 0, 0), (.aload_n 0, 1, 0, 0, [], 0, 0), (.iload_n 3, 1, 3, 0, [], 0, 0), (.iconst 1, 1, 0, 0, [], 1, 0), (.iadd, 1, 0, 0, [], 0, 0), (.iaload, 1, 0, 0, [], 0, 0), (.aload_n 0, 1, 0, 0, [], 0, 0), (.iload_n 3, 1, 3, 0, [], 0, 0), (.iconst 2, 1, 0, 0, [], 2, 0), (.iadd, 1, 0, 0, [], 0, 0), (.iaload, 1, 0, 0, [], 0, 0), (.aload_n 0, 1, 0, 0, [], 0, 0), (.iload_n 3, 1, 3, 0, [], 0, 0), (.iconst 3, 1, 0, 0, [], 3, 0), (.iadd, 1, 0, 0, [], 0, 0), (.iaload, 1, 0, 0, [], 0, 0), (.invokevirtual 154, 3, 3, 0, [(10, 112)], 0, 0), (.aload_n 2, 1, 2, 0, [], 0, 0), (.aload_n 0, 1, 0, 0, [], 0, 0), (.iload_n 3, 1, 3, 0, [], 0, 0), (.iconst 1, 1, 0, 0, [], 1, 0), (.iadd, 1, 0, 0, [], 0, 0), (.iaload, 1, 0, 0, [], 0, 0), (.aload_n 0, 1, 0, 0, [], 0, 0), (.iload_n 3, 1, 3, 0, [], 0, 0), (.iconst 2, 1, 0, 0, [], 2, 0), (.iadd, 1, 0, 0, [], 0, 0), (.iaload, 1, 0, 0, [], 0, 0), (.aload_n 0, 1, 0, 0, [], 0, 0), (.iload_n 3, 1, 3, 0, [], 0, 0), (.iconst 3, 1, 0, 0, [], 3, 0), (.iadd, 1, 0, 0, [], 0, 0), (.iaload, 1, 0, 0, [], 0, 0), (.invokevirtual 157, 3, 3, 0, [(11, 203)], 0, 0), (.if_icmp .eq 61, 3, 38, 0, [], 0, 0), (.iconst 0, 1, 0, 0, [], 0, 0), (.ireturn, 1, 0, 3, [], 0, 0)] := ⟨trivial, ⟨trivial, ⟨trivial, ⟨trivial, ⟨trivial, ⟨trivial, ⟨trivial, ⟨trivial, ⟨trivial, ⟨trivial, ⟨trivial, ⟨trivial, ⟨trivial, ⟨trivial, ⟨trivial, ⟨trivial, ⟨lk_502, ⟨trivial, ⟨trivial, ⟨trivial, ⟨trivial, ⟨trivial, ⟨trivial, ⟨trivial, ⟨trivial, ⟨trivial, ⟨trivial, ⟨trivial, ⟨trivial, ⟨trivial, ⟨trivial, ⟨trivial, ⟨trivial, ⟨lk_503, ⟨trivial, ⟨trivial, ⟨trivial, trivial⟩⟩⟩⟩⟩⟩⟩⟩⟩⟩⟩⟩⟩⟩⟩⟩⟩⟩⟩⟩⟩⟩⟩⟩⟩⟩⟩⟩⟩⟩⟩⟩⟩⟩⟩⟩⟩
set_option maxRecDepth 100000 in
set_option maxHeartbeats 4000000 in
theorem n_L_law_36 : en_lkC "EvenStepsLaw" false [(.aload_n 1, 1, 1, 0, [], 0, 0), (.aload_n 0, 1, 0, 0, [], 0, 0), (.iload_n 3, 1, 3, 0, [], 0, 0), (.iconst 1, 1, 0, 0, [], 1, 0), (.iadd, 1, 0, 0, [], 0, 0), (.iaload, 1, 0, 0, [], 0, 0), (.aload_n 0, 1, 0, 0, [], 0, 0), (.iload_n 3, 1, 3, 0, [], 0, 0), (.iconst 2, 1, 0, 0, [], 2, 0), (.iadd, 1, 0, 0, [], 0, 0), (.iaload, 1, 0, 0, [], 0, 0), (.aload_n 0, 1, 0, 0, [], 0, 0), (.iload_n 3, 1, 3, 0, [], 0, 0), (.iconst 3, 1, 0, 0, [], 3, 0), (.iadd, 1, 0, 0, [], 0, 0), (.iaload, 1, 0, 0, [], 0, 0), (.invokevirtual 158, 3, 3, 0, [(10, 113)], 0, 0), (.aload_n 2, 1, 2, 0, [], 0, 0), (.aload_n 0, 1, 0, 0, [], 0, 0), (.iload_n 3, 1, 3, 0, [], 0, 0), (.iconst 1, 1, 0, 0, [], 1, 0), (.iadd, 1, 0, 0, [], 0, 0), (.iaload, 1, 0, 0, [], 0, 0), (.aload_n 0, 1, 0, 0, [], 0, 0), (.iload_n 3, 1, 3, 0, [], 0, 0), (.iconst 2, 1, 0, 0, [], 2, 0), (.iadd, 1, 0, 0, [], 0, 0), (.iaload, 1, 0, 0, [], 0, 0), (.aload_n 0, 1, 0, 0, [], 0, 0), (.iload_n 3, 1, 3, 0, [], 0, 0), (.iconst 3, 1, 0, 0, [], 3, 0), (.iadd, 1, 0, 0, [], 0, 0), (.iaload, 1, 0, 0, [], 0, 0), (.invokevirtual 161, 3, 3, 0, [(11, 206)], 0, 0), (.if_icmp .eq 18, 3, 38, 0, [], 0, 0), (.iconst 0, 1, 0, 0, [], 0, 0), (.ireturn, 1, 0, 3, [], 0, 0)] := ⟨trivial, ⟨trivial, ⟨trivial, ⟨trivial, ⟨trivial, ⟨trivial, ⟨trivial, ⟨trivial, ⟨trivial, ⟨trivial, ⟨trivial, ⟨trivial, ⟨trivial, ⟨trivial, ⟨trivial, ⟨trivial, ⟨lk_504, ⟨trivial, ⟨trivial, ⟨trivial, ⟨trivial, ⟨trivial, ⟨trivial, ⟨trivial, ⟨trivial, ⟨trivial, ⟨trivial, ⟨trivial, ⟨trivial, ⟨trivial, ⟨trivial, ⟨trivial, ⟨trivial, ⟨lk_505, ⟨trivial, ⟨trivial, ⟨trivial, trivial⟩⟩⟩⟩⟩⟩⟩⟩⟩⟩⟩⟩⟩⟩⟩⟩⟩⟩⟩⟩⟩⟩⟩⟩⟩⟩⟩⟩⟩⟩⟩⟩⟩⟩⟩⟩⟩
set_option maxRecDepth 100000 in
set_option maxHeartbeats 4000000 in
theorem n_L_law_37 : en_lkC "EvenStepsLaw" false [(.aload_n 1, 1, 1, 0, [], 0, 0), (.invokevirtual 162, 3, 0, 0, [(10, 119)], 0, 0), (.aload_n 2, 1, 2, 0, [], 0, 0), (.invokevirtual 166, 3, 0, 0, [(11, 207)], 0, 0), (.if_icmp .eq 5, 3, 38, 0, [], 0, 0), (.iconst 0, 1, 0, 0, [], 0, 0), (.ireturn, 1, 0, 3, [], 0, 0)] := ⟨trivial, ⟨lk_506, ⟨trivial, ⟨lk_507, ⟨trivial, ⟨trivial, ⟨trivial, trivial⟩⟩⟩⟩⟩⟩⟩
set_option maxRecDepth 100000 in
set_option maxHeartbeats 4000000 in
theorem n_L_law_38 : en_lkC "EvenStepsLaw" false [(.iinc 3 6, 3, 3, 0, [], 6, 0), (.goto (-1566), 3, 1, 0, [], 0, 0)] := ⟨trivial, ⟨trivial, trivial⟩⟩
set_option maxRecDepth 100000 in
set_option maxHeartbeats 4000000 in
theorem n_L_law_39 : en_lkC "EvenStepsLaw" false [(.iconst 1, 1, 0, 0, [], 1, 0), (.ireturn, 1, 0, 3, [], 0, 0)] := ⟨trivial, ⟨trivial, trivial⟩⟩
set_option maxRecDepth 100000 in
set_option maxHeartbeats 4000000 in
theorem n_L_law : en_lkM (⟨"EvenStepsLaw", "law", "([I)Z"⟩, code, 4, (some .boolean), p_L_law) := (List.forall_mem_cons.mpr ⟨n_L_law_0, (List.forall_mem_cons.mpr ⟨n_L_law_1, (List.forall_mem_cons.mpr ⟨n_L_law_2, (List.forall_mem_cons.mpr ⟨n_L_law_3, (List.forall_mem_cons.mpr ⟨n_L_law_4, (List.forall_mem_cons.mpr ⟨n_L_law_5, (List.forall_mem_cons.mpr ⟨n_L_law_6, (List.forall_mem_cons.mpr ⟨n_L_law_7, (List.forall_mem_cons.mpr ⟨n_L_law_8, (List.forall_mem_cons.mpr ⟨n_L_law_9, (List.forall_mem_cons.mpr ⟨n_L_law_10, (List.forall_mem_cons.mpr ⟨n_L_law_11, (List.forall_mem_cons.mpr ⟨n_L_law_12, (List.forall_mem_cons.mpr ⟨n_L_law_13, (List.forall_mem_cons.mpr ⟨n_L_law_14, (List.forall_mem_cons.mpr ⟨n_L_law_15, (List.forall_mem_cons.mpr ⟨n_L_law_16, (List.forall_mem_cons.mpr ⟨n_L_law_17, (List.forall_mem_cons.mpr ⟨n_L_law_18, (List.forall_mem_cons.mpr ⟨n_L_law_19, (List.forall_mem_cons.mpr ⟨n_L_law_20, (List.forall_mem_cons.mpr ⟨n_L_law_21, (List.forall_mem_cons.mpr ⟨n_L_law_22, (List.forall_mem_cons.mpr ⟨n_L_law_23, (List.forall_mem_cons.mpr ⟨n_L_law_24, (List.forall_mem_cons.mpr ⟨n_L_law_25, (List.forall_mem_cons.mpr ⟨n_L_law_26, (List.forall_mem_cons.mpr ⟨n_L_law_27, (List.forall_mem_cons.mpr ⟨n_L_law_28, (List.forall_mem_cons.mpr ⟨n_L_law_29, (List.forall_mem_cons.mpr ⟨n_L_law_30, (List.forall_mem_cons.mpr ⟨n_L_law_31, (List.forall_mem_cons.mpr ⟨n_L_law_32, (List.forall_mem_cons.mpr ⟨n_L_law_33, (List.forall_mem_cons.mpr ⟨n_L_law_34, (List.forall_mem_cons.mpr ⟨n_L_law_35, (List.forall_mem_cons.mpr ⟨n_L_law_36, (List.forall_mem_cons.mpr ⟨n_L_law_37, (List.forall_mem_cons.mpr ⟨n_L_law_38, (List.forall_mem_cons.mpr ⟨n_L_law_39, (fun _ h => absurd h List.not_mem_nil)⟩)⟩)⟩)⟩)⟩)⟩)⟩)⟩)⟩)⟩)⟩)⟩)⟩)⟩)⟩)⟩)⟩)⟩)⟩)⟩)⟩)⟩)⟩)⟩)⟩)⟩)⟩)⟩)⟩)⟩)⟩)⟩)⟩)⟩)⟩)⟩)⟩)⟩)⟩)⟩)
