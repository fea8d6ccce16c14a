/-! each method against the tables. Written by wip/whole/lnk.py. -/
set_option maxRecDepth 100000 in
set_option maxHeartbeats 4000000 in
theorem k_X0_init : en_ckM (⟨"EvenSteps$Circle", "<init>", "()V"⟩, prog_2_method_1_code, 1, none, p_X0_init) = true := by decide +kernel
set_option maxRecDepth 100000 in
set_option maxHeartbeats 4000000 in
theorem n_X0_init_0 : en_lkC "EvenSteps$Circle" true [(.aload_n 0, 1, 0, 0, [], 0, 0), (.invokespecial 3, 3, 0, 9, [], 0, 0), (.aload_n 0, 1, 0, 0, [], 0, 0), (.bipush 60, 2, 0, 0, [], 60, 0), (.newarray .int, 2, 0, 0, [], 0, 0), (.putfield 9, 3, 0, 2, [(0, 0)], 0, 0), (.aload_n 0, 1, 0, 0, [], 0, 0), (.bipush 60, 2, 0, 0, [], 60, 0), (.newarray .int, 2, 0, 0, [], 0, 0), (.putfield 15, 3, 1, 2, [(0, 0)], 0, 0), (.aload_n 0, 1, 0, 0, [], 0, 0), (.bipush 60, 2, 0, 0, [], 60, 0), (.newarray .int, 2, 0, 0, [], 0, 0), (.putfield 18, 3, 2, 2, [(0, 0)], 0, 0), (.aload_n 0, 1, 0, 0, [], 0, 0), (.bipush 60, 2, 0, 0, [], 60, 0), (.newarray .int, 2, 0, 0, [], 0, 0), (.putfield 21, 3, 3, 2, [(0, 0)], 0, 0), (.aload_n 0, 1, 0, 0, [], 0, 0), (.bipush 60, 2, 0, 0, [], 60, 0), (.newarray .int, 2, 0, 0, [], 0, 0), (.putfield 24, 3, 5, 2, [(0, 0)], 0, 0), (.aload_n 0, 1, 0, 0, [], 0, 0), (.bipush 60, 2, 0, 0, [], 60, 0), (.newarray .int, 2, 0, 0, [], 0, 0), (.putfield 27, 3, 6, 2, [(0, 0)], 0, 0), (.return_, 1, 0, 0, [], 0, 0)] := ⟨trivial, ⟨(Or.inl ⟨rfl, wd_161, wd_85, wd_86⟩), ⟨trivial, ⟨trivial, ⟨(Or.inl ⟨rfl, wd_108⟩), ⟨lk_1, ⟨trivial, ⟨trivial, ⟨(Or.inl ⟨rfl, wd_108⟩), ⟨lk_2, ⟨trivial, ⟨trivial, ⟨(Or.inl ⟨rfl, wd_108⟩), ⟨lk_3, ⟨trivial, ⟨trivial, ⟨(Or.inl ⟨rfl, wd_108⟩), ⟨lk_4, ⟨trivial, ⟨trivial, ⟨(Or.inl ⟨rfl, wd_108⟩), ⟨lk_5, ⟨trivial, ⟨trivial, ⟨(Or.inl ⟨rfl, wd_108⟩), ⟨lk_6, ⟨trivial, trivial⟩⟩⟩⟩⟩⟩⟩⟩⟩⟩⟩⟩⟩⟩⟩⟩⟩⟩⟩⟩⟩⟩⟩⟩⟩⟩⟩
set_option maxRecDepth 100000 in
set_option maxHeartbeats 4000000 in
theorem n_X0_init : en_lkM (⟨"EvenSteps$Circle", "<init>", "()V"⟩, prog_2_method_1_code, 1, none, p_X0_init) := (List.forall_mem_cons.mpr ⟨n_X0_init_0, (fun _ h => absurd h List.not_mem_nil)⟩)
set_option maxRecDepth 100000 in
set_option maxHeartbeats 4000000 in
theorem k_X0_lay : en_ckM (⟨"EvenSteps$Circle", "lay", "(LEvenSteps$Slope;I)V"⟩, prog_2_method_2_code, 5, none, p_X0_lay) = true := by decide +kernel
set_option maxRecDepth 100000 in
set_option maxHeartbeats 4000000 in
theorem n_X0_lay_0 : en_lkC "EvenSteps$Circle" false [(.aload_n 0, 1, 0, 0, [], 0, 0), (.aload_n 1, 1, 1, 0, [], 0, 0), (.putfield 30, 3, 7, 2, [(0, 0)], 0, 0), (.iconst 0, 1, 0, 0, [], 0, 0), (.istore_n 3, 1, 3, 0, [], 0, 0)] := ⟨trivial, ⟨trivial, ⟨lk_7, ⟨trivial, ⟨trivial, trivial⟩⟩⟩⟩⟩
set_option maxRecDepth 100000 in
set_option maxHeartbeats 4000000 in
theorem n_X0_lay_1 : en_lkC "EvenSteps$Circle" false [(.iload_n 3, 1, 3, 0, [], 0, 0), (.iload_n 2, 1, 2, 0, [], 0, 0), (.if_icmp .ge 29, 3, 2, 0, [], 0, 0), (.aload_n 0, 1, 0, 0, [], 0, 0), (.getfield 27, 3, 6, 2, [(0, 0)], 0, 0), (.iload_n 3, 1, 3, 0, [], 0, 0), (.aload_n 1, 1, 1, 0, [], 0, 0), (.iload_n 3, 1, 3, 0, [], 0, 0), (.i2l, 1, 0, 0, [], 0, 0), (.lconst 0, 1, 0, 0, [], 0, 0), (.lconst 1, 1, 0, 0, [], 0, 1), (.invokevirtual 34, 3, 3, 1, [(6, 44)], 0, 0), (.l2i, 1, 0, 0, [], 0, 0), (.iastore, 1, 0, 0, [], 0, 0), (.aload_n 0, 1, 0, 0, [], 0, 0), (.iload_n 3, 1, 3, 0, [], 0, 0), (.invokevirtual 40, 3, 1, 4, [(0, 2)], 0, 0), (.iinc 3 1, 3, 3, 0, [], 1, 0), (.goto (-28), 3, 1, 0, [], 0, 0)] := ⟨trivial, ⟨trivial, ⟨trivial, ⟨trivial, ⟨lk_8, ⟨trivial, ⟨trivial, ⟨trivial, ⟨trivial, ⟨trivial, ⟨trivial, ⟨lk_9, ⟨trivial, ⟨trivial, ⟨trivial, ⟨trivial, ⟨lk_10, ⟨trivial, ⟨trivial, trivial⟩⟩⟩⟩⟩⟩⟩⟩⟩⟩⟩⟩⟩⟩⟩⟩⟩⟩⟩
set_option maxRecDepth 100000 in
set_option maxHeartbeats 4000000 in
theorem n_X0_lay_2 : en_lkC "EvenSteps$Circle" false [(.iconst 0, 1, 0, 0, [], 0, 0), (.istore_n 3, 1, 3, 0, [], 0, 0)] := ⟨trivial, ⟨trivial, trivial⟩⟩
set_option maxRecDepth 100000 in
set_option maxHeartbeats 4000000 in
theorem n_X0_lay_3 : en_lkC "EvenSteps$Circle" false [(.iload_n 3, 1, 3, 0, [], 0, 0), (.iload_n 2, 1, 2, 0, [], 0, 0), (.if_icmp .ge 39, 3, 6, 0, [], 0, 0), (.aload_n 0, 1, 0, 0, [], 0, 0), (.getfield 9, 3, 0, 2, [(0, 0)], 0, 0), (.aload_n 0, 1, 0, 0, [], 0, 0), (.getfield 24, 3, 5, 2, [(0, 0)], 0, 0), (.iload_n 3, 1, 3, 0, [], 0, 0), (.iaload, 1, 0, 0, [], 0, 0), (.aload_n 0, 1, 0, 0, [], 0, 0), (.getfield 24, 3, 5, 2, [(0, 0)], 0, 0), (.iload_n 3, 1, 3, 0, [], 0, 0), (.iconst 1, 1, 0, 0, [], 1, 0), (.iadd, 1, 0, 0, [], 0, 0), (.iload_n 2, 1, 2, 0, [], 0, 0), (.if_icmp .ge 9, 3, 4, 0, [], 0, 0), (.iload_n 3, 1, 3, 0, [], 0, 0), (.iconst 1, 1, 0, 0, [], 1, 0), (.iadd, 1, 0, 0, [], 0, 0), (.goto 4, 3, 5, 0, [], 0, 0)] := ⟨trivial, ⟨trivial, ⟨trivial, ⟨trivial, ⟨lk_11, ⟨trivial, ⟨lk_12, ⟨trivial, ⟨trivial, ⟨trivial, ⟨lk_12, ⟨trivial, ⟨trivial, ⟨trivial, ⟨trivial, ⟨trivial, ⟨trivial, ⟨trivial, ⟨trivial, ⟨trivial, trivial⟩⟩⟩⟩⟩⟩⟩⟩⟩⟩⟩⟩⟩⟩⟩⟩⟩⟩⟩⟩
set_option maxRecDepth 100000 in
set_option maxHeartbeats 4000000 in
theorem n_X0_lay_4 : en_lkC "EvenSteps$Circle" false [(.iconst 0, 1, 0, 0, [], 0, 0)] := ⟨trivial, trivial⟩
set_option maxRecDepth 100000 in
set_option maxHeartbeats 4000000 in
theorem n_X0_lay_5 : en_lkC "EvenSteps$Circle" false [(.iaload, 1, 0, 0, [], 0, 0), (.iastore, 1, 0, 0, [], 0, 0), (.iinc 3 1, 3, 3, 0, [], 1, 0), (.goto (-38), 3, 3, 0, [], 0, 0)] := ⟨trivial, ⟨trivial, ⟨trivial, ⟨trivial, trivial⟩⟩⟩⟩
set_option maxRecDepth 100000 in
set_option maxHeartbeats 4000000 in
theorem n_X0_lay_6 : en_lkC "EvenSteps$Circle" false [(.aload_n 0, 1, 0, 0, [], 0, 0), (.getfield 24, 3, 5, 2, [(0, 0)], 0, 0), (.iload_n 2, 1, 2, 0, [], 0, 0), (.iconst 1, 1, 0, 0, [], 1, 0), (.isub, 1, 0, 0, [], 0, 0), (.iaload, 1, 0, 0, [], 0, 0), (.istore_n 3, 1, 3, 0, [], 0, 0), (.aload_n 0, 1, 0, 0, [], 0, 0), (.iconst 0, 1, 0, 0, [], 0, 0), (.putfield 44, 3, 4, 0, [(0, 0)], 0, 0), (.iconst 0, 1, 0, 0, [], 0, 0), (.istore 4, 2, 4, 0, [], 0, 0)] := ⟨trivial, ⟨lk_12, ⟨trivial, ⟨trivial, ⟨trivial, ⟨trivial, ⟨trivial, ⟨trivial, ⟨trivial, ⟨lk_13, ⟨trivial, ⟨trivial, trivial⟩⟩⟩⟩⟩⟩⟩⟩⟩⟩⟩⟩
set_option maxRecDepth 100000 in
set_option maxHeartbeats 4000000 in
theorem n_X0_lay_7 : en_lkC "EvenSteps$Circle" false [(.iload 4, 2, 4, 0, [], 0, 0), (.iload_n 2, 1, 2, 0, [], 0, 0), (.if_icmp .ge 55, 3, 10, 0, [], 0, 0), (.aload_n 0, 1, 0, 0, [], 0, 0), (.aload_n 0, 1, 0, 0, [], 0, 0), (.getfield 27, 3, 6, 2, [(0, 0)], 0, 0), (.iload 4, 2, 4, 0, [], 0, 0), (.iaload, 1, 0, 0, [], 0, 0), (.aload_n 0, 1, 0, 0, [], 0, 0), (.getfield 27, 3, 6, 2, [(0, 0)], 0, 0), (.aload_n 0, 1, 0, 0, [], 0, 0), (.getfield 9, 3, 0, 2, [(0, 0)], 0, 0), (.iload 4, 2, 4, 0, [], 0, 0), (.iaload, 1, 0, 0, [], 0, 0), (.iaload, 1, 0, 0, [], 0, 0), (.isub, 1, 0, 0, [], 0, 0), (.iload 4, 2, 4, 0, [], 0, 0), (.iload_n 3, 1, 3, 0, [], 0, 0), (.if_icmp .ne 7, 3, 8, 0, [], 0, 0), (.iconst 1, 1, 0, 0, [], 1, 0), (.goto 4, 3, 9, 0, [], 0, 0)] := ⟨trivial, ⟨trivial, ⟨trivial, ⟨trivial, ⟨trivial, ⟨lk_8, ⟨trivial, ⟨trivial, ⟨trivial, ⟨lk_8, ⟨trivial, ⟨lk_11, ⟨trivial, ⟨trivial, ⟨trivial, ⟨trivial, ⟨trivial, ⟨trivial, ⟨trivial, ⟨trivial, ⟨trivial, trivial⟩⟩⟩⟩⟩⟩⟩⟩⟩⟩⟩⟩⟩⟩⟩⟩⟩⟩⟩⟩⟩
set_option maxRecDepth 100000 in
set_option maxHeartbeats 4000000 in
theorem n_X0_lay_8 : en_lkC "EvenSteps$Circle" false [(.iconst 0, 1, 0, 0, [], 0, 0)] := ⟨trivial, trivial⟩
set_option maxRecDepth 100000 in
set_option maxHeartbeats 4000000 in
theorem n_X0_lay_9 : en_lkC "EvenSteps$Circle" false [(.iadd, 1, 0, 0, [], 0, 0), (.aload_n 0, 1, 0, 0, [], 0, 0), (.getfield 9, 3, 0, 2, [(0, 0)], 0, 0), (.iload 4, 2, 4, 0, [], 0, 0), (.iaload, 1, 0, 0, [], 0, 0), (.iload 4, 2, 4, 0, [], 0, 0), (.isub, 1, 0, 0, [], 0, 0), (.invokevirtual 48, 3, 2, 4, [(0, 4)], 0, 0), (.iinc 4 1, 3, 4, 0, [], 1, 0), (.goto (-55), 3, 7, 0, [], 0, 0)] := ⟨trivial, ⟨trivial, ⟨lk_11, ⟨trivial, ⟨trivial, ⟨trivial, ⟨trivial, ⟨lk_14, ⟨trivial, ⟨trivial, trivial⟩⟩⟩⟩⟩⟩⟩⟩⟩⟩
set_option maxRecDepth 100000 in
set_option maxHeartbeats 4000000 in
theorem n_X0_lay_10 : en_lkC "EvenSteps$Circle" false [(.return_, 1, 0, 0, [], 0, 0)] := ⟨trivial, trivial⟩
set_option maxRecDepth 100000 in
set_option maxHeartbeats 4000000 in
theorem n_X0_lay : en_lkM (⟨"EvenSteps$Circle", "lay", "(LEvenSteps$Slope;I)V"⟩, prog_2_method_2_code, 5, none, p_X0_lay) := (List.forall_mem_cons.mpr ⟨n_X0_lay_0, (List.forall_mem_cons.mpr ⟨n_X0_lay_1, (List.forall_mem_cons.mpr ⟨n_X0_lay_2, (List.forall_mem_cons.mpr ⟨n_X0_lay_3, (List.forall_mem_cons.mpr ⟨n_X0_lay_4, (List.forall_mem_cons.mpr ⟨n_X0_lay_5, (List.forall_mem_cons.mpr ⟨n_X0_lay_6, (List.forall_mem_cons.mpr ⟨n_X0_lay_7, (List.forall_mem_cons.mpr ⟨n_X0_lay_8, (List.forall_mem_cons.mpr ⟨n_X0_lay_9, (List.forall_mem_cons.mpr ⟨n_X0_lay_10, (fun _ h => absurd h List.not_mem_nil)⟩)⟩)⟩)⟩)⟩)⟩)⟩)⟩)⟩)⟩)⟩)
set_option maxRecDepth 100000 in
set_option maxHeartbeats 4000000 in
theorem k_X0_place : en_ckM (⟨"EvenSteps$Circle", "place", "(I)V"⟩, prog_2_method_3_code, 3, none, p_X0_place) = true := by decide +kernel
set_option maxRecDepth 100000 in
set_option maxHeartbeats 4000000 in
theorem n_X0_place_0 : en_lkC "EvenSteps$Circle" false [(.iload_n 1, 1, 1, 0, [], 0, 0), (.istore_n 2, 1, 2, 0, [], 0, 0)] := ⟨trivial, ⟨trivial, trivial⟩⟩
set_option maxRecDepth 100000 in
set_option maxHeartbeats 4000000 in
theorem n_X0_place_1 : en_lkC "EvenSteps$Circle" false [(.iload_n 2, 1, 2, 0, [], 0, 0), (.ifCond .le 39, 3, 2, 0, [], 0, 0), (.aload_n 0, 1, 0, 0, [], 0, 0), (.iload_n 1, 1, 1, 0, [], 0, 0), (.aload_n 0, 1, 0, 0, [], 0, 0), (.getfield 24, 3, 5, 2, [(0, 0)], 0, 0), (.iload_n 2, 1, 2, 0, [], 0, 0), (.iconst 1, 1, 0, 0, [], 1, 0), (.isub, 1, 0, 0, [], 0, 0), (.iaload, 1, 0, 0, [], 0, 0), (.invokevirtual 52, 3, 2, 3, [(0, 3)], 0, 0), (.ifCond .eq 23, 3, 2, 0, [], 0, 0), (.aload_n 0, 1, 0, 0, [], 0, 0), (.getfield 24, 3, 5, 2, [(0, 0)], 0, 0), (.iload_n 2, 1, 2, 0, [], 0, 0), (.aload_n 0, 1, 0, 0, [], 0, 0), (.getfield 24, 3, 5, 2, [(0, 0)], 0, 0), (.iload_n 2, 1, 2, 0, [], 0, 0), (.iconst 1, 1, 0, 0, [], 1, 0), (.isub, 1, 0, 0, [], 0, 0), (.iaload, 1, 0, 0, [], 0, 0), (.iastore, 1, 0, 0, [], 0, 0), (.iinc 2 (-1), 3, 2, 0, [], (-1), 0), (.goto (-37), 3, 1, 0, [], 0, 0)] := ⟨trivial, ⟨trivial, ⟨trivial, ⟨trivial, ⟨trivial, ⟨lk_12, ⟨trivial, ⟨trivial, ⟨trivial, ⟨trivial, ⟨lk_15, ⟨trivial, ⟨trivial, ⟨lk_12, ⟨trivial, ⟨trivial, ⟨lk_12, ⟨trivial, ⟨trivial, ⟨trivial, ⟨trivial, ⟨trivial, ⟨trivial, ⟨trivial, trivial⟩⟩⟩⟩⟩⟩⟩⟩⟩⟩⟩⟩⟩⟩⟩⟩⟩⟩⟩⟩⟩⟩⟩⟩
set_option maxRecDepth 100000 in
set_option maxHeartbeats 4000000 in
theorem n_X0_place_2 : en_lkC "EvenSteps$Circle" false [(.aload_n 0, 1, 0, 0, [], 0, 0), (.getfield 24, 3, 5, 2, [(0, 0)], 0, 0), (.iload_n 2, 1, 2, 0, [], 0, 0), (.iload_n 1, 1, 1, 0, [], 0, 0), (.iastore, 1, 0, 0, [], 0, 0), (.return_, 1, 0, 0, [], 0, 0)] := ⟨trivial, ⟨lk_12, ⟨trivial, ⟨trivial, ⟨trivial, ⟨trivial, trivial⟩⟩⟩⟩⟩⟩
set_option maxRecDepth 100000 in
set_option maxHeartbeats 4000000 in
theorem n_X0_place : en_lkM (⟨"EvenSteps$Circle", "place", "(I)V"⟩, prog_2_method_3_code, 3, none, p_X0_place) := (List.forall_mem_cons.mpr ⟨n_X0_place_0, (List.forall_mem_cons.mpr ⟨n_X0_place_1, (List.forall_mem_cons.mpr ⟨n_X0_place_2, (fun _ h => absurd h List.not_mem_nil)⟩)⟩)⟩)
set_option maxRecDepth 100000 in
set_option maxHeartbeats 4000000 in
theorem k_X0_isAhead : en_ckM (⟨"EvenSteps$Circle", "isAhead", "(II)Z"⟩, prog_2_method_4_code, 3, (some .boolean), p_X0_isAhead) = true := by decide +kernel
set_option maxRecDepth 100000 in
set_option maxHeartbeats 4000000 in
theorem n_X0_isAhead_0 : en_lkC "EvenSteps$Circle" false [(.aload_n 0, 1, 0, 0, [], 0, 0), (.getfield 30, 3, 7, 2, [(0, 0)], 0, 0), (.aload_n 0, 1, 0, 0, [], 0, 0), (.getfield 27, 3, 6, 2, [(0, 0)], 0, 0), (.iload_n 2, 1, 2, 0, [], 0, 0), (.iaload, 1, 0, 0, [], 0, 0), (.aload_n 0, 1, 0, 0, [], 0, 0), (.getfield 27, 3, 6, 2, [(0, 0)], 0, 0), (.iload_n 1, 1, 1, 0, [], 0, 0), (.iaload, 1, 0, 0, [], 0, 0), (.isub, 1, 0, 0, [], 0, 0), (.i2l, 1, 0, 0, [], 0, 0), (.iload_n 1, 1, 1, 0, [], 0, 0), (.iload_n 2, 1, 2, 0, [], 0, 0), (.isub, 1, 0, 0, [], 0, 0), (.i2l, 1, 0, 0, [], 0, 0), (.invokevirtual 56, 3, 2, 0, [(6, 45)], 0, 0), (.ifCond .ge 7, 3, 1, 0, [], 0, 0), (.iconst 1, 1, 0, 0, [], 1, 0), (.goto 4, 3, 2, 0, [], 0, 0)] := ⟨trivial, ⟨lk_16, ⟨trivial, ⟨lk_8, ⟨trivial, ⟨trivial, ⟨trivial, ⟨lk_8, ⟨trivial, ⟨trivial, ⟨trivial, ⟨trivial, ⟨trivial, ⟨trivial, ⟨trivial, ⟨trivial, ⟨lk_17, ⟨trivial, ⟨trivial, ⟨trivial, trivial⟩⟩⟩⟩⟩⟩⟩⟩⟩⟩⟩⟩⟩⟩⟩⟩⟩⟩⟩⟩
set_option maxRecDepth 100000 in
set_option maxHeartbeats 4000000 in
theorem n_X0_isAhead_1 : en_lkC "EvenSteps$Circle" false [(.iconst 0, 1, 0, 0, [], 0, 0)] := ⟨trivial, trivial⟩
set_option maxRecDepth 100000 in
set_option maxHeartbeats 4000000 in
theorem n_X0_isAhead_2 : en_lkC "EvenSteps$Circle" false [(.ireturn, 1, 0, 3, [], 0, 0)] := ⟨trivial, trivial⟩
set_option maxRecDepth 100000 in
set_option maxHeartbeats 4000000 in
theorem n_X0_isAhead : en_lkM (⟨"EvenSteps$Circle", "isAhead", "(II)Z"⟩, prog_2_method_4_code, 3, (some .boolean), p_X0_isAhead) := (List.forall_mem_cons.mpr ⟨n_X0_isAhead_0, (List.forall_mem_cons.mpr ⟨n_X0_isAhead_1, (List.forall_mem_cons.mpr ⟨n_X0_isAhead_2, (fun _ h => absurd h List.not_mem_nil)⟩)⟩)⟩)
set_option maxRecDepth 100000 in
set_option maxHeartbeats 4000000 in
theorem k_X0_addGap : en_ckM (⟨"EvenSteps$Circle", "addGap", "(II)V"⟩, prog_2_method_5_code, 4, none, p_X0_addGap) = true := by decide +kernel
set_option maxRecDepth 100000 in
set_option maxHeartbeats 4000000 in
theorem n_X0_addGap_0 : en_lkC "EvenSteps$Circle" false [(.iconst 0, 1, 0, 0, [], 0, 0), (.istore_n 3, 1, 3, 0, [], 0, 0)] := ⟨trivial, ⟨trivial, trivial⟩⟩
set_option maxRecDepth 100000 in
set_option maxHeartbeats 4000000 in
theorem n_X0_addGap_1 : en_lkC "EvenSteps$Circle" false [(.iload_n 3, 1, 3, 0, [], 0, 0), (.aload_n 0, 1, 0, 0, [], 0, 0), (.getfield 44, 3, 4, 0, [(0, 0)], 0, 0), (.if_icmp .ge 19, 3, 2, 0, [], 0, 0), (.aload_n 0, 1, 0, 0, [], 0, 0), (.iload_n 3, 1, 3, 0, [], 0, 0), (.iload_n 1, 1, 1, 0, [], 0, 0), (.iload_n 2, 1, 2, 0, [], 0, 0), (.invokevirtual 60, 3, 3, 0, [(0, 5)], 0, 0), (.ifCond .ge 9, 3, 2, 0, [], 0, 0), (.iinc 3 1, 3, 3, 0, [], 1, 0), (.goto (-21), 3, 1, 0, [], 0, 0)] := ⟨trivial, ⟨trivial, ⟨lk_18, ⟨trivial, ⟨trivial, ⟨trivial, ⟨trivial, ⟨trivial, ⟨lk_19, ⟨trivial, ⟨trivial, ⟨trivial, trivial⟩⟩⟩⟩⟩⟩⟩⟩⟩⟩⟩⟩
set_option maxRecDepth 100000 in
set_option maxHeartbeats 4000000 in
theorem n_X0_addGap_2 : en_lkC "EvenSteps$Circle" false [(.iload_n 3, 1, 3, 0, [], 0, 0), (.aload_n 0, 1, 0, 0, [], 0, 0), (.getfield 44, 3, 4, 0, [(0, 0)], 0, 0), (.if_icmp .ge 26, 3, 3, 0, [], 0, 0), (.aload_n 0, 1, 0, 0, [], 0, 0), (.iload_n 3, 1, 3, 0, [], 0, 0), (.iload_n 1, 1, 1, 0, [], 0, 0), (.iload_n 2, 1, 2, 0, [], 0, 0), (.invokevirtual 60, 3, 3, 0, [(0, 5)], 0, 0), (.ifCond .ne 16, 3, 3, 0, [], 0, 0), (.aload_n 0, 1, 0, 0, [], 0, 0), (.getfield 15, 3, 1, 2, [(0, 0)], 0, 0), (.iload_n 3, 1, 3, 0, [], 0, 0), (.dup2, 1, 0, 0, [], 0, 0), (.iaload, 1, 0, 0, [], 0, 0), (.iconst 1, 1, 0, 0, [], 1, 0), (.iadd, 1, 0, 0, [], 0, 0), (.iastore, 1, 0, 0, [], 0, 0), (.goto 19, 3, 4, 0, [], 0, 0)] := ⟨trivial, ⟨trivial, ⟨lk_18, ⟨trivial, ⟨trivial, ⟨trivial, ⟨trivial, ⟨trivial, ⟨lk_19, ⟨trivial, ⟨trivial, ⟨lk_20, ⟨trivial, ⟨trivial, ⟨trivial, ⟨trivial, ⟨trivial, ⟨trivial, ⟨trivial, trivial⟩⟩⟩⟩⟩⟩⟩⟩⟩⟩⟩⟩⟩⟩⟩⟩⟩⟩⟩
set_option maxRecDepth 100000 in
set_option maxHeartbeats 4000000 in
theorem n_X0_addGap_3 : en_lkC "EvenSteps$Circle" false [(.aload_n 0, 1, 0, 0, [], 0, 0), (.getfield 44, 3, 4, 0, [(0, 0)], 0, 0), (.bipush 60, 2, 0, 0, [], 60, 0), (.if_icmp .ge 10, 3, 4, 0, [], 0, 0), (.aload_n 0, 1, 0, 0, [], 0, 0), (.iload_n 3, 1, 3, 0, [], 0, 0), (.iload_n 1, 1, 1, 0, [], 0, 0), (.iload_n 2, 1, 2, 0, [], 0, 0), (.invokevirtual 64, 3, 3, 4, [(0, 6)], 0, 0)] := ⟨trivial, ⟨lk_18, ⟨trivial, ⟨trivial, ⟨trivial, ⟨trivial, ⟨trivial, ⟨trivial, ⟨lk_21, trivial⟩⟩⟩⟩⟩⟩⟩⟩⟩
set_option maxRecDepth 100000 in
set_option maxHeartbeats 4000000 in
theorem n_X0_addGap_4 : en_lkC "EvenSteps$Circle" false [(.return_, 1, 0, 0, [], 0, 0)] := ⟨trivial, trivial⟩
set_option maxRecDepth 100000 in
set_option maxHeartbeats 4000000 in
theorem n_X0_addGap : en_lkM (⟨"EvenSteps$Circle", "addGap", "(II)V"⟩, prog_2_method_5_code, 4, none, p_X0_addGap) := (List.forall_mem_cons.mpr ⟨n_X0_addGap_0, (List.forall_mem_cons.mpr ⟨n_X0_addGap_1, (List.forall_mem_cons.mpr ⟨n_X0_addGap_2, (List.forall_mem_cons.mpr ⟨n_X0_addGap_3, (List.forall_mem_cons.mpr ⟨n_X0_addGap_4, (fun _ h => absurd h List.not_mem_nil)⟩)⟩)⟩)⟩)⟩)
set_option maxRecDepth 100000 in
set_option maxHeartbeats 4000000 in
theorem k_X0_signBeside : en_ckM (⟨"EvenSteps$Circle", "signBeside", "(III)I"⟩, prog_2_method_6_code, 4, (some .int), p_X0_signBeside) = true := by decide +kernel
set_option maxRecDepth 100000 in
set_option maxHeartbeats 4000000 in
theorem n_X0_signBeside_0 : en_lkC "EvenSteps$Circle" false [(.aload_n 0, 1, 0, 0, [], 0, 0), (.getfield 30, 3, 7, 2, [(0, 0)], 0, 0), (.iload_n 2, 1, 2, 0, [], 0, 0), (.aload_n 0, 1, 0, 0, [], 0, 0), (.getfield 18, 3, 2, 2, [(0, 0)], 0, 0), (.iload_n 1, 1, 1, 0, [], 0, 0), (.iaload, 1, 0, 0, [], 0, 0), (.isub, 1, 0, 0, [], 0, 0), (.i2l, 1, 0, 0, [], 0, 0), (.iload_n 3, 1, 3, 0, [], 0, 0), (.aload_n 0, 1, 0, 0, [], 0, 0), (.getfield 21, 3, 3, 2, [(0, 0)], 0, 0), (.iload_n 1, 1, 1, 0, [], 0, 0), (.iaload, 1, 0, 0, [], 0, 0), (.isub, 1, 0, 0, [], 0, 0), (.i2l, 1, 0, 0, [], 0, 0), (.invokevirtual 56, 3, 2, 0, [(6, 45)], 0, 0), (.ireturn, 1, 0, 0, [], 0, 0)] := ⟨trivial, ⟨lk_16, ⟨trivial, ⟨trivial, ⟨lk_22, ⟨trivial, ⟨trivial, ⟨trivial, ⟨trivial, ⟨trivial, ⟨trivial, ⟨lk_23, ⟨trivial, ⟨trivial, ⟨trivial, ⟨trivial, ⟨lk_17, ⟨trivial, trivial⟩⟩⟩⟩⟩⟩⟩⟩⟩⟩⟩⟩⟩⟩⟩⟩⟩⟩
set_option maxRecDepth 100000 in
set_option maxHeartbeats 4000000 in
theorem n_X0_signBeside : en_lkM (⟨"EvenSteps$Circle", "signBeside", "(III)I"⟩, prog_2_method_6_code, 4, (some .int), p_X0_signBeside) := (List.forall_mem_cons.mpr ⟨n_X0_signBeside_0, (fun _ h => absurd h List.not_mem_nil)⟩)
set_option maxRecDepth 100000 in
set_option maxHeartbeats 4000000 in
theorem k_X0_insertSort : en_ckM (⟨"EvenSteps$Circle", "insertSort", "(III)V"⟩, prog_2_method_7_code, 5, none, p_X0_insertSort) = true := by decide +kernel
set_option maxRecDepth 100000 in
set_option maxHeartbeats 4000000 in
theorem n_X0_insertSort_0 : en_lkC "EvenSteps$Circle" false [(.aload_n 0, 1, 0, 0, [], 0, 0), (.getfield 44, 3, 4, 0, [(0, 0)], 0, 0), (.istore 4, 2, 4, 0, [], 0, 0)] := ⟨trivial, ⟨lk_18, ⟨trivial, trivial⟩⟩⟩
set_option maxRecDepth 100000 in
set_option maxHeartbeats 4000000 in
theorem n_X0_insertSort_1 : en_lkC "EvenSteps$Circle" false [(.iload 4, 2, 4, 0, [], 0, 0), (.iload_n 1, 1, 1, 0, [], 0, 0), (.if_icmp .le 57, 3, 2, 0, [], 0, 0), (.aload_n 0, 1, 0, 0, [], 0, 0), (.getfield 15, 3, 1, 2, [(0, 0)], 0, 0), (.iload 4, 2, 4, 0, [], 0, 0), (.aload_n 0, 1, 0, 0, [], 0, 0), (.getfield 15, 3, 1, 2, [(0, 0)], 0, 0), (.iload 4, 2, 4, 0, [], 0, 0), (.iconst 1, 1, 0, 0, [], 1, 0), (.isub, 1, 0, 0, [], 0, 0), (.iaload, 1, 0, 0, [], 0, 0), (.iastore, 1, 0, 0, [], 0, 0), (.aload_n 0, 1, 0, 0, [], 0, 0), (.getfield 18, 3, 2, 2, [(0, 0)], 0, 0), (.iload 4, 2, 4, 0, [], 0, 0), (.aload_n 0, 1, 0, 0, [], 0, 0), (.getfield 18, 3, 2, 2, [(0, 0)], 0, 0), (.iload 4, 2, 4, 0, [], 0, 0), (.iconst 1, 1, 0, 0, [], 1, 0), (.isub, 1, 0, 0, [], 0, 0), (.iaload, 1, 0, 0, [], 0, 0), (.iastore, 1, 0, 0, [], 0, 0), (.aload_n 0, 1, 0, 0, [], 0, 0), (.getfield 21, 3, 3, 2, [(0, 0)], 0, 0), (.iload 4, 2, 4, 0, [], 0, 0), (.aload_n 0, 1, 0, 0, [], 0, 0), (.getfield 21, 3, 3, 2, [(0, 0)], 0, 0), (.iload 4, 2, 4, 0, [], 0, 0), (.iconst 1, 1, 0, 0, [], 1, 0), (.isub, 1, 0, 0, [], 0, 0), (.iaload, 1, 0, 0, [], 0, 0), (.iastore, 1, 0, 0, [], 0, 0), (.iinc 4 (-1), 3, 4, 0, [], (-1), 0), (.goto (-57), 3, 1, 0, [], 0, 0)] := ⟨trivial, ⟨trivial, ⟨trivial, ⟨trivial, ⟨lk_20, ⟨trivial, ⟨trivial, ⟨lk_20, ⟨trivial, ⟨trivial, ⟨trivial, ⟨trivial, ⟨trivial, ⟨trivial, ⟨lk_22, ⟨trivial, ⟨trivial, ⟨lk_22, ⟨trivial, ⟨trivial, ⟨trivial, ⟨trivial, ⟨trivial, ⟨trivial, ⟨lk_23, ⟨trivial, ⟨trivial, ⟨lk_23, ⟨trivial, ⟨trivial, ⟨trivial, ⟨trivial, ⟨trivial, ⟨trivial, ⟨trivial, trivial⟩⟩⟩⟩⟩⟩⟩⟩⟩⟩⟩⟩⟩⟩⟩⟩⟩⟩⟩⟩⟩⟩⟩⟩⟩⟩⟩⟩⟩⟩⟩⟩⟩⟩⟩
set_option maxRecDepth 100000 in
set_option maxHeartbeats 4000000 in
theorem n_X0_insertSort_2 : en_lkC "EvenSteps$Circle" false [(.aload_n 0, 1, 0, 0, [], 0, 0), (.getfield 15, 3, 1, 2, [(0, 0)], 0, 0), (.iload_n 1, 1, 1, 0, [], 0, 0), (.iconst 1, 1, 0, 0, [], 1, 0), (.iastore, 1, 0, 0, [], 0, 0), (.aload_n 0, 1, 0, 0, [], 0, 0), (.getfield 18, 3, 2, 2, [(0, 0)], 0, 0), (.iload_n 1, 1, 1, 0, [], 0, 0), (.iload_n 2, 1, 2, 0, [], 0, 0), (.iastore, 1, 0, 0, [], 0, 0), (.aload_n 0, 1, 0, 0, [], 0, 0), (.getfield 21, 3, 3, 2, [(0, 0)], 0, 0), (.iload_n 1, 1, 1, 0, [], 0, 0), (.iload_n 3, 1, 3, 0, [], 0, 0), (.iastore, 1, 0, 0, [], 0, 0), (.aload_n 0, 1, 0, 0, [], 0, 0), (.dup, 1, 0, 0, [], 0, 0), (.getfield 44, 3, 4, 0, [(0, 0)], 0, 0), (.iconst 1, 1, 0, 0, [], 1, 0), (.iadd, 1, 0, 0, [], 0, 0), (.putfield 44, 3, 4, 0, [(0, 0)], 0, 0), (.return_, 1, 0, 0, [], 0, 0)] := ⟨trivial, ⟨lk_20, ⟨trivial, ⟨trivial, ⟨trivial, ⟨trivial, ⟨lk_22, ⟨trivial, ⟨trivial, ⟨trivial, ⟨trivial, ⟨lk_23, ⟨trivial, ⟨trivial, ⟨trivial, ⟨trivial, ⟨trivial, ⟨lk_18, ⟨trivial, ⟨trivial, ⟨lk_13, ⟨trivial, trivial⟩⟩⟩⟩⟩⟩⟩⟩⟩⟩⟩⟩⟩⟩⟩⟩⟩⟩⟩⟩⟩⟩
set_option maxRecDepth 100000 in
set_option maxHeartbeats 4000000 in
theorem n_X0_insertSort : en_lkM (⟨"EvenSteps$Circle", "insertSort", "(III)V"⟩, prog_2_method_7_code, 5, none, p_X0_insertSort) := (List.forall_mem_cons.mpr ⟨n_X0_insertSort_0, (List.forall_mem_cons.mpr ⟨n_X0_insertSort_1, (List.forall_mem_cons.mpr ⟨n_X0_insertSort_2, (fun _ h => absurd h List.not_mem_nil)⟩)⟩)⟩)
set_option maxRecDepth 100000 in
set_option maxHeartbeats 4000000 in
theorem k_X1_init : en_ckM (⟨"EvenSteps$Cut", "<init>", "(ILEvenSteps$Row;IIII)V"⟩, prog_3_method_1_code, 7, none, p_X1_init) = true := by decide +kernel
set_option maxRecDepth 100000 in
set_option maxHeartbeats 4000000 in
theorem n_X1_init_0 : en_lkC "EvenSteps$Cut" true [(.aload_n 0, 1, 0, 0, [], 0, 0), (.iload_n 1, 1, 1, 0, [], 0, 0), (.invokespecial 3, 3, 1, 4, [(1, 29), (2, 29), (3, 29), (4, 29), (8, 29)], 0, 0), (.aload_n 0, 1, 0, 0, [], 0, 0), (.sipush 158, 3, 0, 0, [], 158, 0), (.newarray .long, 2, 0, 0, [], 0, 0), (.putfield 9, 3, 7, 2, [(1, 0)], 0, 0), (.aload_n 0, 1, 0, 0, [], 0, 0), (.aload_n 2, 1, 2, 0, [], 0, 0), (.putfield 15, 3, 2, 2, [(1, 0)], 0, 0), (.aload_n 0, 1, 0, 0, [], 0, 0), (.iload_n 3, 1, 3, 0, [], 0, 0), (.putfield 19, 3, 3, 0, [(1, 0)], 0, 0), (.aload_n 0, 1, 0, 0, [], 0, 0), (.iload 4, 2, 4, 0, [], 0, 0), (.putfield 23, 3, 4, 0, [(1, 0)], 0, 0), (.aload_n 0, 1, 0, 0, [], 0, 0), (.iload 5, 2, 5, 0, [], 0, 0), (.putfield 26, 3, 5, 0, [(1, 0)], 0, 0), (.aload_n 0, 1, 0, 0, [], 0, 0), (.iload 6, 2, 6, 0, [], 0, 0), (.putfield 29, 3, 6, 0, [(1, 0)], 0, 0), (.return_, 1, 0, 0, [], 0, 0)] := ⟨trivial, ⟨trivial, ⟨(Or.inr ⟨by decide, Or.inl lk_24⟩), ⟨trivial, ⟨trivial, ⟨(Or.inr ⟨rfl, wd_509⟩), ⟨lk_25, ⟨trivial, ⟨trivial, ⟨lk_26, ⟨trivial, ⟨trivial, ⟨lk_27, ⟨trivial, ⟨trivial, ⟨lk_28, ⟨trivial, ⟨trivial, ⟨lk_29, ⟨trivial, ⟨trivial, ⟨lk_30, ⟨trivial, trivial⟩⟩⟩⟩⟩⟩⟩⟩⟩⟩⟩⟩⟩⟩⟩⟩⟩⟩⟩⟩⟩⟩⟩
set_option maxRecDepth 100000 in
set_option maxHeartbeats 4000000 in
theorem n_X1_init : en_lkM (⟨"EvenSteps$Cut", "<init>", "(ILEvenSteps$Row;IIII)V"⟩, prog_3_method_1_code, 7, none, p_X1_init) := (List.forall_mem_cons.mpr ⟨n_X1_init_0, (fun _ h => absurd h List.not_mem_nil)⟩)
set_option maxRecDepth 100000 in
set_option maxHeartbeats 4000000 in
theorem k_X1_kindNumber : en_ckM (⟨"EvenSteps$Cut", "kindNumber", "()I"⟩, prog_3_method_2_code, 1, (some .int), p_X1_kindNumber) = true := by decide +kernel
set_option maxRecDepth 100000 in
set_option maxHeartbeats 4000000 in
theorem n_X1_kindNumber_0 : en_lkC "EvenSteps$Cut" false [(.iconst 3, 1, 0, 0, [], 3, 0), (.ireturn, 1, 0, 0, [], 0, 0)] := ⟨trivial, ⟨trivial, trivial⟩⟩
set_option maxRecDepth 100000 in
set_option maxHeartbeats 4000000 in
theorem n_X1_kindNumber : en_lkM (⟨"EvenSteps$Cut", "kindNumber", "()I"⟩, prog_3_method_2_code, 1, (some .int), p_X1_kindNumber) := (List.forall_mem_cons.mpr ⟨n_X1_kindNumber_0, (fun _ h => absurd h List.not_mem_nil)⟩)
set_option maxRecDepth 100000 in
set_option maxHeartbeats 4000000 in
theorem k_X1_stepAt : en_ckM (⟨"EvenSteps$Cut", "stepAt", "(I)I"⟩, prog_3_method_3_code, 2, (some .int), p_X1_stepAt) = true := by decide +kernel
set_option maxRecDepth 100000 in
set_option maxHeartbeats 4000000 in
theorem n_X1_stepAt_0 : en_lkC "EvenSteps$Cut" false [(.iload_n 1, 1, 1, 0, [], 0, 0), (.ifCond .lt 10, 3, 1, 0, [], 0, 0), (.iload_n 1, 1, 1, 0, [], 0, 0), (.sipush 10000, 3, 0, 0, [], 10000, 0), (.if_icmp .le 5, 3, 2, 0, [], 0, 0)] := ⟨trivial, ⟨trivial, ⟨trivial, ⟨trivial, ⟨trivial, trivial⟩⟩⟩⟩⟩
set_option maxRecDepth 100000 in
set_option maxHeartbeats 4000000 in
theorem n_X1_stepAt_1 : en_lkC "EvenSteps$Cut" false [(.iconst (-1), 1, 0, 0, [], (-1), 0), (.ireturn, 1, 0, 0, [], 0, 0)] := ⟨trivial, ⟨trivial, trivial⟩⟩
set_option maxRecDepth 100000 in
set_option maxHeartbeats 4000000 in
theorem n_X1_stepAt_2 : en_lkC "EvenSteps$Cut" false [(.aload_n 0, 1, 0, 0, [], 0, 0), (.iload_n 1, 1, 1, 0, [], 0, 0), (.iconst 1, 1, 0, 0, [], 1, 0), (.iadd, 1, 0, 0, [], 0, 0), (.invokevirtual 32, 3, 1, 4, [(1, 11)], 0, 0), (.iload_n 1, 1, 1, 0, [], 0, 0), (.aload_n 0, 1, 0, 0, [], 0, 0), (.getfield 35, 3, 8, 0, [(1, 0)], 0, 0), (.if_icmp .ge 23, 3, 3, 0, [], 0, 0), (.aload_n 0, 1, 0, 0, [], 0, 0), (.getfield 9, 3, 7, 2, [(1, 0)], 0, 0), (.iload_n 1, 1, 1, 0, [], 0, 0), (.bipush 6, 2, 0, 0, [], 6, 0), (.ishr, 1, 0, 0, [], 0, 0), (.laload, 1, 0, 0, [], 0, 0), (.iload_n 1, 1, 1, 0, [], 0, 0), (.bipush 63, 2, 0, 0, [], 63, 0), (.iand, 1, 0, 0, [], 0, 0), (.lshr, 1, 0, 0, [], 0, 0), (.l2i, 1, 0, 0, [], 0, 0), (.iconst 1, 1, 0, 0, [], 1, 0), (.iand, 1, 0, 0, [], 0, 0), (.goto 4, 3, 4, 0, [], 0, 0)] := ⟨trivial, ⟨trivial, ⟨trivial, ⟨trivial, ⟨lk_31, ⟨trivial, ⟨trivial, ⟨lk_32, ⟨trivial, ⟨trivial, ⟨lk_33, ⟨trivial, ⟨trivial, ⟨trivial, ⟨trivial, ⟨trivial, ⟨trivial, ⟨trivial, ⟨trivial, ⟨trivial, ⟨trivial, ⟨trivial, ⟨trivial, trivial⟩⟩⟩⟩⟩⟩⟩⟩⟩⟩⟩⟩⟩⟩⟩⟩⟩⟩⟩⟩⟩⟩⟩
set_option maxRecDepth 100000 in
set_option maxHeartbeats 4000000 in
theorem n_X1_stepAt_3 : en_lkC "EvenSteps$Cut" false [(.iconst (-1), 1, 0, 0, [], (-1), 0)] := ⟨trivial, trivial⟩
set_option maxRecDepth 100000 in
set_option maxHeartbeats 4000000 in
theorem n_X1_stepAt_4 : en_lkC "EvenSteps$Cut" false [(.ireturn, 1, 0, 0, [], 0, 0)] := ⟨trivial, trivial⟩
set_option maxRecDepth 100000 in
set_option maxHeartbeats 4000000 in
theorem n_X1_stepAt : en_lkM (⟨"EvenSteps$Cut", "stepAt", "(I)I"⟩, prog_3_method_3_code, 2, (some .int), p_X1_stepAt) := (List.forall_mem_cons.mpr ⟨n_X1_stepAt_0, (List.forall_mem_cons.mpr ⟨n_X1_stepAt_1, (List.forall_mem_cons.mpr ⟨n_X1_stepAt_2, (List.forall_mem_cons.mpr ⟨n_X1_stepAt_3, (List.forall_mem_cons.mpr ⟨n_X1_stepAt_4, (fun _ h => absurd h List.not_mem_nil)⟩)⟩)⟩)⟩)⟩)
set_option maxRecDepth 100000 in
set_option maxHeartbeats 4000000 in
theorem k_X1_sumOf : en_ckM (⟨"EvenSteps$Cut", "sumOf", "(I)I"⟩, prog_3_method_4_code, 4, (some .int), p_X1_sumOf) = true := by decide +kernel
set_option maxRecDepth 100000 in
set_option maxHeartbeats 4000000 in
theorem n_X1_sumOf_0 : en_lkC "EvenSteps$Cut" false [(.aload_n 0, 1, 0, 0, [], 0, 0), (.iload_n 1, 1, 1, 0, [], 0, 0), (.invokevirtual 32, 3, 1, 4, [(1, 11)], 0, 0), (.iload_n 1, 1, 1, 0, [], 0, 0), (.aload_n 0, 1, 0, 0, [], 0, 0), (.getfield 35, 3, 8, 0, [(1, 0)], 0, 0), (.if_icmp .le 5, 3, 1, 0, [], 0, 0), (.iconst (-1), 1, 0, 0, [], (-1), 0), (.ireturn, 1, 0, 0, [], 0, 0)] := ⟨trivial, ⟨trivial, ⟨lk_31, ⟨trivial, ⟨trivial, ⟨lk_32, ⟨trivial, ⟨trivial, ⟨trivial, trivial⟩⟩⟩⟩⟩⟩⟩⟩⟩
set_option maxRecDepth 100000 in
set_option maxHeartbeats 4000000 in
theorem n_X1_sumOf_1 : en_lkC "EvenSteps$Cut" false [(.iconst 0, 1, 0, 0, [], 0, 0), (.istore_n 2, 1, 2, 0, [], 0, 0), (.iconst 0, 1, 0, 0, [], 0, 0), (.istore_n 3, 1, 3, 0, [], 0, 0)] := ⟨trivial, ⟨trivial, ⟨trivial, ⟨trivial, trivial⟩⟩⟩⟩
set_option maxRecDepth 100000 in
set_option maxHeartbeats 4000000 in
theorem n_X1_sumOf_2 : en_lkC "EvenSteps$Cut" false [(.iload_n 3, 1, 3, 0, [], 0, 0), (.iload_n 1, 1, 1, 0, [], 0, 0), (.bipush 6, 2, 0, 0, [], 6, 0), (.ishr, 1, 0, 0, [], 0, 0), (.if_icmp .ge 21, 3, 3, 0, [], 0, 0), (.iload_n 2, 1, 2, 0, [], 0, 0), (.aload_n 0, 1, 0, 0, [], 0, 0), (.getfield 9, 3, 7, 2, [(1, 0)], 0, 0), (.iload_n 3, 1, 3, 0, [], 0, 0), (.laload, 1, 0, 0, [], 0, 0), (.invokestatic 38, 3, 1, 0, [(0, 210)], 0, 0), (.iadd, 1, 0, 0, [], 0, 0), (.istore_n 2, 1, 2, 0, [], 0, 0), (.iinc 3 1, 3, 3, 0, [], 1, 0), (.goto (-23), 3, 2, 0, [], 0, 0)] := ⟨trivial, ⟨trivial, ⟨trivial, ⟨trivial, ⟨trivial, ⟨trivial, ⟨trivial, ⟨lk_33, ⟨trivial, ⟨trivial, ⟨lk_34, ⟨trivial, ⟨trivial, ⟨trivial, ⟨trivial, trivial⟩⟩⟩⟩⟩⟩⟩⟩⟩⟩⟩⟩⟩⟩⟩
set_option maxRecDepth 100000 in
set_option maxHeartbeats 4000000 in
theorem n_X1_sumOf_3 : en_lkC "EvenSteps$Cut" false [(.iload_n 2, 1, 2, 0, [], 0, 0), (.aload_n 0, 1, 0, 0, [], 0, 0), (.getfield 9, 3, 7, 2, [(1, 0)], 0, 0), (.iload_n 1, 1, 1, 0, [], 0, 0), (.bipush 6, 2, 0, 0, [], 6, 0), (.ishr, 1, 0, 0, [], 0, 0), (.laload, 1, 0, 0, [], 0, 0), (.lconst 1, 1, 0, 0, [], 0, 1), (.iload_n 1, 1, 1, 0, [], 0, 0), (.bipush 63, 2, 0, 0, [], 63, 0), (.iand, 1, 0, 0, [], 0, 0), (.lshl, 1, 0, 0, [], 0, 0), (.lconst 1, 1, 0, 0, [], 0, 1), (.lsub, 1, 0, 0, [], 0, 0), (.land, 1, 0, 0, [], 0, 0), (.invokestatic 38, 3, 1, 0, [(0, 210)], 0, 0), (.iadd, 1, 0, 0, [], 0, 0), (.ireturn, 1, 0, 0, [], 0, 0)] := ⟨trivial, ⟨trivial, ⟨lk_33, ⟨trivial, ⟨trivial, ⟨trivial, ⟨trivial, ⟨trivial, ⟨trivial, ⟨trivial, ⟨trivial, ⟨trivial, ⟨trivial, ⟨trivial, ⟨trivial, ⟨lk_34, ⟨trivial, ⟨trivial, trivial⟩⟩⟩⟩⟩⟩⟩⟩⟩⟩⟩⟩⟩⟩⟩⟩⟩⟩
set_option maxRecDepth 100000 in
set_option maxHeartbeats 4000000 in
theorem n_X1_sumOf : en_lkM (⟨"EvenSteps$Cut", "sumOf", "(I)I"⟩, prog_3_method_4_code, 4, (some .int), p_X1_sumOf) := (List.forall_mem_cons.mpr ⟨n_X1_sumOf_0, (List.forall_mem_cons.mpr ⟨n_X1_sumOf_1, (List.forall_mem_cons.mpr ⟨n_X1_sumOf_2, (List.forall_mem_cons.mpr ⟨n_X1_sumOf_3, (fun _ h => absurd h List.not_mem_nil)⟩)⟩)⟩)⟩)
set_option maxRecDepth 100000 in
set_option maxHeartbeats 4000000 in
theorem k_X1_learn : en_ckM (⟨"EvenSteps$Cut", "learn", "(I)V"⟩, prog_3_method_5_code, 4, none, p_X1_learn) = true := by decide +kernel
set_option maxRecDepth 100000 in
set_option maxHeartbeats 4000000 in
theorem n_X1_learn_0 : en_lkC "EvenSteps$Cut" false [(.iconst 0, 1, 0, 0, [], 0, 0), (.istore_n 2, 1, 2, 0, [], 0, 0)] := ⟨trivial, ⟨trivial, trivial⟩⟩
set_option maxRecDepth 100000 in
set_option maxHeartbeats 4000000 in
theorem n_X1_learn_1 : en_lkC "EvenSteps$Cut" false [(.iload_n 2, 1, 2, 0, [], 0, 0), (.sipush 10000, 3, 0, 0, [], 10000, 0), (.if_icmp .gt 90, 3, 5, 0, [], 0, 0), (.aload_n 0, 1, 0, 0, [], 0, 0), (.getfield 35, 3, 8, 0, [(1, 0)], 0, 0), (.iload_n 1, 1, 1, 0, [], 0, 0), (.if_icmp .ge 82, 3, 5, 0, [], 0, 0), (.aload_n 0, 1, 0, 0, [], 0, 0), (.getfield 44, 3, 10, 3, [(1, 0)], 0, 0), (.ifCond .ne 75, 3, 5, 0, [], 0, 0), (.aload_n 0, 1, 0, 0, [], 0, 0), (.getfield 15, 3, 2, 2, [(1, 0)], 0, 0), (.aload_n 0, 1, 0, 0, [], 0, 0), (.getfield 48, 3, 9, 0, [(1, 0)], 0, 0), (.invokevirtual 51, 3, 1, 0, [(1, 9), (2, 17), (3, 17), (4, 17), (8, 57)], 0, 0), (.istore_n 3, 1, 3, 0, [], 0, 0), (.aload_n 0, 1, 0, 0, [], 0, 0), (.dup, 1, 0, 0, [], 0, 0), (.getfield 48, 3, 9, 0, [(1, 0)], 0, 0), (.iconst 1, 1, 0, 0, [], 1, 0), (.iadd, 1, 0, 0, [], 0, 0), (.putfield 48, 3, 9, 0, [(1, 0)], 0, 0), (.iload_n 3, 1, 3, 0, [], 0, 0), (.ifCond .ne 18, 3, 2, 0, [], 0, 0), (.aload_n 0, 1, 0, 0, [], 0, 0), (.aload_n 0, 1, 0, 0, [], 0, 0), (.getfield 19, 3, 3, 0, [(1, 0)], 0, 0), (.aload_n 0, 1, 0, 0, [], 0, 0), (.getfield 23, 3, 4, 0, [(1, 0)], 0, 0), (.invokevirtual 55, 3, 2, 4, [(1, 12)], 0, 0), (.goto 28, 3, 4, 0, [], 0, 0)] := ⟨trivial, ⟨trivial, ⟨trivial, ⟨trivial, ⟨lk_32, ⟨trivial, ⟨trivial, ⟨trivial, ⟨lk_35, ⟨trivial, ⟨trivial, ⟨lk_36, ⟨trivial, ⟨lk_37, ⟨lk_38, ⟨trivial, ⟨trivial, ⟨trivial, ⟨lk_37, ⟨trivial, ⟨trivial, ⟨lk_39, ⟨trivial, ⟨trivial, ⟨trivial, ⟨trivial, ⟨lk_40, ⟨trivial, ⟨lk_41, ⟨lk_42, ⟨trivial, trivial⟩⟩⟩⟩⟩⟩⟩⟩⟩⟩⟩⟩⟩⟩⟩⟩⟩⟩⟩⟩⟩⟩⟩⟩⟩⟩⟩⟩⟩⟩⟩
set_option maxRecDepth 100000 in
set_option maxHeartbeats 4000000 in
theorem n_X1_learn_2 : en_lkC "EvenSteps$Cut" false [(.iload_n 3, 1, 3, 0, [], 0, 0), (.iconst 1, 1, 0, 0, [], 1, 0), (.if_icmp .ne 18, 3, 3, 0, [], 0, 0), (.aload_n 0, 1, 0, 0, [], 0, 0), (.aload_n 0, 1, 0, 0, [], 0, 0), (.getfield 26, 3, 5, 0, [(1, 0)], 0, 0), (.aload_n 0, 1, 0, 0, [], 0, 0), (.getfield 29, 3, 6, 0, [(1, 0)], 0, 0), (.invokevirtual 55, 3, 2, 4, [(1, 12)], 0, 0), (.goto 8, 3, 4, 0, [], 0, 0)] := ⟨trivial, ⟨trivial, ⟨trivial, ⟨trivial, ⟨trivial, ⟨lk_43, ⟨trivial, ⟨lk_44, ⟨lk_42, ⟨trivial, trivial⟩⟩⟩⟩⟩⟩⟩⟩⟩⟩
set_option maxRecDepth 100000 in
set_option maxHeartbeats 4000000 in
theorem n_X1_learn_3 : en_lkC "EvenSteps$Cut" false [(.aload_n 0, 1, 0, 0, [], 0, 0), (.iconst 1, 1, 0, 0, [], 1, 0), (.putfield 44, 3, 10, 3, [(1, 0)], 0, 0)] := ⟨trivial, ⟨trivial, ⟨lk_45, trivial⟩⟩⟩
set_option maxRecDepth 100000 in
set_option maxHeartbeats 4000000 in
theorem n_X1_learn_4 : en_lkC "EvenSteps$Cut" false [(.iinc 2 1, 3, 2, 0, [], 1, 0), (.goto (-91), 3, 1, 0, [], 0, 0)] := ⟨trivial, ⟨trivial, trivial⟩⟩
set_option maxRecDepth 100000 in
set_option maxHeartbeats 4000000 in
theorem n_X1_learn_5 : en_lkC "EvenSteps$Cut" false [(.return_, 1, 0, 0, [], 0, 0)] := ⟨trivial, trivial⟩
set_option maxRecDepth 100000 in
set_option maxHeartbeats 4000000 in
theorem n_X1_learn : en_lkM (⟨"EvenSteps$Cut", "learn", "(I)V"⟩, prog_3_method_5_code, 4, none, p_X1_learn) := (List.forall_mem_cons.mpr ⟨n_X1_learn_0, (List.forall_mem_cons.mpr ⟨n_X1_learn_1, (List.forall_mem_cons.mpr ⟨n_X1_learn_2, (List.forall_mem_cons.mpr ⟨n_X1_learn_3, (List.forall_mem_cons.mpr ⟨n_X1_learn_4, (List.forall_mem_cons.mpr ⟨n_X1_learn_5, (fun _ h => absurd h List.not_mem_nil)⟩)⟩)⟩)⟩)⟩)⟩)
set_option maxRecDepth 100000 in
set_option maxHeartbeats 4000000 in
theorem k_X1_put : en_ckM (⟨"EvenSteps$Cut", "put", "(II)V"⟩, prog_3_method_6_code, 4, none, p_X1_put) = true := by decide +kernel
set_option maxRecDepth 100000 in
set_option maxHeartbeats 4000000 in
theorem n_X1_put_0 : en_lkC "EvenSteps$Cut" false [(.iconst 0, 1, 0, 0, [], 0, 0), (.istore_n 3, 1, 3, 0, [], 0, 0)] := ⟨trivial, ⟨trivial, trivial⟩⟩
set_option maxRecDepth 100000 in
set_option maxHeartbeats 4000000 in
theorem n_X1_put_1 : en_lkC "EvenSteps$Cut" false [(.iload_n 3, 1, 3, 0, [], 0, 0), (.iload_n 2, 1, 2, 0, [], 0, 0), (.if_icmp .ge 63, 3, 2, 0, [], 0, 0), (.aload_n 0, 1, 0, 0, [], 0, 0), (.getfield 35, 3, 8, 0, [(1, 0)], 0, 0), (.bipush 6, 2, 0, 0, [], 6, 0), (.ishr, 1, 0, 0, [], 0, 0), (.aload_n 0, 1, 0, 0, [], 0, 0), (.getfield 9, 3, 7, 2, [(1, 0)], 0, 0), (.arraylength, 1, 0, 0, [], 0, 0), (.if_icmp .ge 48, 3, 2, 0, [], 0, 0), (.aload_n 0, 1, 0, 0, [], 0, 0), (.getfield 9, 3, 7, 2, [(1, 0)], 0, 0), (.aload_n 0, 1, 0, 0, [], 0, 0), (.getfield 35, 3, 8, 0, [(1, 0)], 0, 0), (.bipush 6, 2, 0, 0, [], 6, 0), (.ishr, 1, 0, 0, [], 0, 0), (.dup2, 1, 0, 0, [], 0, 0), (.laload, 1, 0, 0, [], 0, 0), (.iload_n 1, 1, 1, 0, [], 0, 0), (.iload_n 3, 1, 3, 0, [], 0, 0), (.ishr, 1, 0, 0, [], 0, 0), (.iconst 1, 1, 0, 0, [], 1, 0), (.iand, 1, 0, 0, [], 0, 0), (.i2l, 1, 0, 0, [], 0, 0), (.aload_n 0, 1, 0, 0, [], 0, 0), (.getfield 35, 3, 8, 0, [(1, 0)], 0, 0), (.bipush 63, 2, 0, 0, [], 63, 0), (.iand, 1, 0, 0, [], 0, 0), (.lshl, 1, 0, 0, [], 0, 0), (.lor, 1, 0, 0, [], 0, 0), (.lastore, 1, 0, 0, [], 0, 0), (.aload_n 0, 1, 0, 0, [], 0, 0), (.dup, 1, 0, 0, [], 0, 0), (.getfield 35, 3, 8, 0, [(1, 0)], 0, 0), (.iconst 1, 1, 0, 0, [], 1, 0), (.iadd, 1, 0, 0, [], 0, 0), (.putfield 35, 3, 8, 0, [(1, 0)], 0, 0), (.iinc 3 1, 3, 3, 0, [], 1, 0), (.goto (-62), 3, 1, 0, [], 0, 0)] := ⟨trivial, ⟨trivial, ⟨trivial, ⟨trivial, ⟨lk_32, ⟨trivial, ⟨trivial, ⟨trivial, ⟨lk_33, ⟨trivial, ⟨trivial, ⟨trivial, ⟨lk_33, ⟨trivial, ⟨lk_32, ⟨trivial, ⟨trivial, ⟨trivial, ⟨trivial, ⟨trivial, ⟨trivial, ⟨trivial, ⟨trivial, ⟨trivial, ⟨trivial, ⟨trivial, ⟨lk_32, ⟨trivial, ⟨trivial, ⟨trivial, ⟨trivial, ⟨trivial, ⟨trivial, ⟨trivial, ⟨lk_32, ⟨trivial, ⟨trivial, ⟨lk_46, ⟨trivial, ⟨trivial, trivial⟩⟩⟩⟩⟩⟩⟩⟩⟩⟩⟩⟩⟩⟩⟩⟩⟩⟩⟩⟩⟩⟩⟩⟩⟩⟩⟩⟩⟩⟩⟩⟩⟩⟩⟩⟩⟩⟩⟩⟩
set_option maxRecDepth 100000 in
set_option maxHeartbeats 4000000 in
theorem n_X1_put_2 : en_lkC "EvenSteps$Cut" false [(.return_, 1, 0, 0, [], 0, 0)] := ⟨trivial, trivial⟩
set_option maxRecDepth 100000 in
set_option maxHeartbeats 4000000 in
theorem n_X1_put : en_lkM (⟨"EvenSteps$Cut", "put", "(II)V"⟩, prog_3_method_6_code, 4, none, p_X1_put) := (List.forall_mem_cons.mpr ⟨n_X1_put_0, (List.forall_mem_cons.mpr ⟨n_X1_put_1, (List.forall_mem_cons.mpr ⟨n_X1_put_2, (fun _ h => absurd h List.not_mem_nil)⟩)⟩)⟩)
set_option maxRecDepth 100000 in
set_option maxHeartbeats 4000000 in
theorem k_X1_doGo : en_ckM (⟨"EvenSteps$Cut", "doGo", "(ILEvenSteps$Trace;)I"⟩, prog_3_method_7_code, 3, (some .int), p_X1_doGo) = true := by decide +kernel
set_option maxRecDepth 100000 in
set_option maxHeartbeats 4000000 in
theorem n_X1_doGo_0 : en_lkC "EvenSteps$Cut" false [(.aload_n 2, 1, 2, 0, [], 0, 0), (.bipush 40, 2, 0, 0, [], 40, 0), (.invokevirtual 59, 3, 1, 4, [(9, 60)], 0, 0), (.aload_n 0, 1, 0, 0, [], 0, 0), (.iload_n 1, 1, 1, 0, [], 0, 0), (.aload_n 0, 1, 0, 0, [], 0, 0), (.getfield 64, 3, 1, 0, [(1, 0)], 0, 0), (.isub, 1, 0, 0, [], 0, 0), (.aload_n 2, 1, 2, 0, [], 0, 0), (.invokespecial 67, 3, 2, 0, [(1, 30)], 0, 0), (.ireturn, 1, 0, 0, [], 0, 0)] := ⟨trivial, ⟨trivial, ⟨lk_47, ⟨trivial, ⟨trivial, ⟨trivial, ⟨lk_48, ⟨trivial, ⟨trivial, ⟨(Or.inr ⟨by decide, Or.inr lk_49⟩), ⟨trivial, trivial⟩⟩⟩⟩⟩⟩⟩⟩⟩⟩⟩
set_option maxRecDepth 100000 in
set_option maxHeartbeats 4000000 in
theorem n_X1_doGo : en_lkM (⟨"EvenSteps$Cut", "doGo", "(ILEvenSteps$Trace;)I"⟩, prog_3_method_7_code, 3, (some .int), p_X1_doGo) := (List.forall_mem_cons.mpr ⟨n_X1_doGo_0, (fun _ h => absurd h List.not_mem_nil)⟩)
set_option maxRecDepth 100000 in
set_option maxHeartbeats 4000000 in
theorem k_X1_doGrow : en_ckM (⟨"EvenSteps$Cut", "doGrow", "(ILEvenSteps$Trace;)I"⟩, prog_3_method_8_code, 3, (some .int), p_X1_doGrow) = true := by decide +kernel
set_option maxRecDepth 100000 in
set_option maxHeartbeats 4000000 in
theorem n_X1_doGrow_0 : en_lkC "EvenSteps$Cut" false [(.aload_n 2, 1, 2, 0, [], 0, 0), (.bipush 41, 2, 0, 0, [], 41, 0), (.invokevirtual 59, 3, 1, 4, [(9, 60)], 0, 0), (.aload_n 0, 1, 0, 0, [], 0, 0), (.iload_n 1, 1, 1, 0, [], 0, 0), (.aload_n 2, 1, 2, 0, [], 0, 0), (.invokespecial 71, 3, 2, 0, [(1, 32)], 0, 0), (.iconst 5, 1, 0, 0, [], 5, 0), (.imul, 1, 0, 0, [], 0, 0), (.ireturn, 1, 0, 0, [], 0, 0)] := ⟨trivial, ⟨trivial, ⟨lk_47, ⟨trivial, ⟨trivial, ⟨trivial, ⟨(Or.inr ⟨by decide, Or.inr lk_50⟩), ⟨trivial, ⟨trivial, ⟨trivial, trivial⟩⟩⟩⟩⟩⟩⟩⟩⟩⟩
set_option maxRecDepth 100000 in
set_option maxHeartbeats 4000000 in
theorem n_X1_doGrow : en_lkM (⟨"EvenSteps$Cut", "doGrow", "(ILEvenSteps$Trace;)I"⟩, prog_3_method_8_code, 3, (some .int), p_X1_doGrow) := (List.forall_mem_cons.mpr ⟨n_X1_doGrow_0, (fun _ h => absurd h List.not_mem_nil)⟩)
set_option maxRecDepth 100000 in
set_option maxHeartbeats 4000000 in
theorem k_X2_init : en_ckM (⟨"EvenSteps$Even", "<init>", "(ILEvenSteps$Slope;III)V"⟩, prog_4_method_1_code, 6, none, p_X2_init) = true := by decide +kernel
set_option maxRecDepth 100000 in
set_option maxHeartbeats 4000000 in
theorem n_X2_init_0 : en_lkC "EvenSteps$Even" true [(.aload_n 0, 1, 0, 0, [], 0, 0), (.iload_n 1, 1, 1, 0, [], 0, 0), (.invokespecial 3, 3, 1, 4, [(1, 29), (2, 29), (3, 29), (4, 29), (8, 29)], 0, 0), (.aload_n 0, 1, 0, 0, [], 0, 0), (.aload_n 2, 1, 2, 0, [], 0, 0), (.putfield 9, 3, 2, 2, [(2, 0), (3, 0), (4, 0)], 0, 0), (.aload_n 0, 1, 0, 0, [], 0, 0), (.iload_n 3, 1, 3, 0, [], 0, 0), (.putfield 15, 3, 3, 0, [(2, 0), (3, 0), (4, 0)], 0, 0), (.aload_n 0, 1, 0, 0, [], 0, 0), (.iload 4, 2, 4, 0, [], 0, 0), (.putfield 19, 3, 4, 0, [(2, 0), (3, 0), (4, 0)], 0, 0), (.aload_n 0, 1, 0, 0, [], 0, 0), (.iload 5, 2, 5, 0, [], 0, 0), (.putfield 22, 3, 5, 0, [(2, 0), (3, 0), (4, 0)], 0, 0), (.return_, 1, 0, 0, [], 0, 0)] := ⟨trivial, ⟨trivial, ⟨(Or.inr ⟨by decide, Or.inl lk_51⟩), ⟨trivial, ⟨trivial, ⟨lk_52, ⟨trivial, ⟨trivial, ⟨lk_53, ⟨trivial, ⟨trivial, ⟨lk_54, ⟨trivial, ⟨trivial, ⟨lk_55, ⟨trivial, trivial⟩⟩⟩⟩⟩⟩⟩⟩⟩⟩⟩⟩⟩⟩⟩⟩
set_option maxRecDepth 100000 in
set_option maxHeartbeats 4000000 in
theorem n_X2_init : en_lkM (⟨"EvenSteps$Even", "<init>", "(ILEvenSteps$Slope;III)V"⟩, prog_4_method_1_code, 6, none, p_X2_init) := (List.forall_mem_cons.mpr ⟨n_X2_init_0, (fun _ h => absurd h List.not_mem_nil)⟩)
set_option maxRecDepth 100000 in
set_option maxHeartbeats 4000000 in
theorem k_X2_kindNumber : en_ckM (⟨"EvenSteps$Even", "kindNumber", "()I"⟩, prog_4_method_2_code, 1, (some .int), p_X2_kindNumber) = true := by decide +kernel
set_option maxRecDepth 100000 in
set_option maxHeartbeats 4000000 in
theorem n_X2_kindNumber_0 : en_lkC "EvenSteps$Even" false [(.iconst 1, 1, 0, 0, [], 1, 0), (.ireturn, 1, 0, 0, [], 0, 0)] := ⟨trivial, ⟨trivial, trivial⟩⟩
set_option maxRecDepth 100000 in
set_option maxHeartbeats 4000000 in
theorem n_X2_kindNumber : en_lkM (⟨"EvenSteps$Even", "kindNumber", "()I"⟩, prog_4_method_2_code, 1, (some .int), p_X2_kindNumber) := (List.forall_mem_cons.mpr ⟨n_X2_kindNumber_0, (fun _ h => absurd h List.not_mem_nil)⟩)
set_option maxRecDepth 100000 in
set_option maxHeartbeats 4000000 in
theorem k_X2_stepAt : en_ckM (⟨"EvenSteps$Even", "stepAt", "(I)I"⟩, prog_4_method_3_code, 2, (some .int), p_X2_stepAt) = true := by decide +kernel
set_option maxRecDepth 100000 in
set_option maxHeartbeats 4000000 in
theorem n_X2_stepAt_0 : en_lkC "EvenSteps$Even" false [(.iload_n 1, 1, 1, 0, [], 0, 0), (.ifCond .lt 10, 3, 1, 0, [], 0, 0), (.iload_n 1, 1, 1, 0, [], 0, 0), (.sipush 10000, 3, 0, 0, [], 10000, 0), (.if_icmp .le 5, 3, 2, 0, [], 0, 0)] := ⟨trivial, ⟨trivial, ⟨trivial, ⟨trivial, ⟨trivial, trivial⟩⟩⟩⟩⟩
set_option maxRecDepth 100000 in
set_option maxHeartbeats 4000000 in
theorem n_X2_stepAt_1 : en_lkC "EvenSteps$Even" false [(.iconst (-1), 1, 0, 0, [], (-1), 0), (.ireturn, 1, 0, 0, [], 0, 0)] := ⟨trivial, ⟨trivial, trivial⟩⟩
set_option maxRecDepth 100000 in
set_option maxHeartbeats 4000000 in
theorem n_X2_stepAt_2 : en_lkC "EvenSteps$Even" false [(.aload_n 0, 1, 0, 0, [], 0, 0), (.getfield 9, 3, 2, 2, [(2, 0), (3, 0), (4, 0)], 0, 0), (.iload_n 1, 1, 1, 0, [], 0, 0), (.iconst 1, 1, 0, 0, [], 1, 0), (.iadd, 1, 0, 0, [], 0, 0), (.i2l, 1, 0, 0, [], 0, 0), (.aload_n 0, 1, 0, 0, [], 0, 0), (.getfield 19, 3, 4, 0, [(2, 0), (3, 0), (4, 0)], 0, 0), (.i2l, 1, 0, 0, [], 0, 0), (.aload_n 0, 1, 0, 0, [], 0, 0), (.getfield 22, 3, 5, 0, [(2, 0), (3, 0), (4, 0)], 0, 0), (.i2l, 1, 0, 0, [], 0, 0), (.invokevirtual 25, 3, 3, 1, [(6, 44)], 0, 0), (.aload_n 0, 1, 0, 0, [], 0, 0), (.getfield 9, 3, 2, 2, [(2, 0), (3, 0), (4, 0)], 0, 0), (.iload_n 1, 1, 1, 0, [], 0, 0), (.i2l, 1, 0, 0, [], 0, 0), (.aload_n 0, 1, 0, 0, [], 0, 0), (.getfield 19, 3, 4, 0, [(2, 0), (3, 0), (4, 0)], 0, 0), (.i2l, 1, 0, 0, [], 0, 0), (.aload_n 0, 1, 0, 0, [], 0, 0), (.getfield 22, 3, 5, 0, [(2, 0), (3, 0), (4, 0)], 0, 0), (.i2l, 1, 0, 0, [], 0, 0), (.invokevirtual 25, 3, 3, 1, [(6, 44)], 0, 0), (.lsub, 1, 0, 0, [], 0, 0), (.l2i, 1, 0, 0, [], 0, 0), (.ireturn, 1, 0, 0, [], 0, 0)] := ⟨trivial, ⟨lk_56, ⟨trivial, ⟨trivial, ⟨trivial, ⟨trivial, ⟨trivial, ⟨lk_57, ⟨trivial, ⟨trivial, ⟨lk_58, ⟨trivial, ⟨lk_59, ⟨trivial, ⟨lk_56, ⟨trivial, ⟨trivial, ⟨trivial, ⟨lk_57, ⟨trivial, ⟨trivial, ⟨lk_58, ⟨trivial, ⟨lk_59, ⟨trivial, ⟨trivial, ⟨trivial, trivial⟩⟩⟩⟩⟩⟩⟩⟩⟩⟩⟩⟩⟩⟩⟩⟩⟩⟩⟩⟩⟩⟩⟩⟩⟩⟩⟩
set_option maxRecDepth 100000 in
set_option maxHeartbeats 4000000 in
theorem n_X2_stepAt : en_lkM (⟨"EvenSteps$Even", "stepAt", "(I)I"⟩, prog_4_method_3_code, 2, (some .int), p_X2_stepAt) := (List.forall_mem_cons.mpr ⟨n_X2_stepAt_0, (List.forall_mem_cons.mpr ⟨n_X2_stepAt_1, (List.forall_mem_cons.mpr ⟨n_X2_stepAt_2, (fun _ h => absurd h List.not_mem_nil)⟩)⟩)⟩)
set_option maxRecDepth 100000 in
set_option maxHeartbeats 4000000 in
theorem k_X2_sumOf : en_ckM (⟨"EvenSteps$Even", "sumOf", "(I)I"⟩, prog_4_method_4_code, 2, (some .int), p_X2_sumOf) = true := by decide +kernel
set_option maxRecDepth 100000 in
set_option maxHeartbeats 4000000 in
theorem n_X2_sumOf_0 : en_lkC "EvenSteps$Even" false [(.aload_n 0, 1, 0, 0, [], 0, 0), (.getfield 9, 3, 2, 2, [(2, 0), (3, 0), (4, 0)], 0, 0), (.iload_n 1, 1, 1, 0, [], 0, 0), (.i2l, 1, 0, 0, [], 0, 0), (.aload_n 0, 1, 0, 0, [], 0, 0), (.getfield 19, 3, 4, 0, [(2, 0), (3, 0), (4, 0)], 0, 0), (.i2l, 1, 0, 0, [], 0, 0), (.aload_n 0, 1, 0, 0, [], 0, 0), (.getfield 22, 3, 5, 0, [(2, 0), (3, 0), (4, 0)], 0, 0), (.i2l, 1, 0, 0, [], 0, 0), (.invokevirtual 25, 3, 3, 1, [(6, 44)], 0, 0), (.l2i, 1, 0, 0, [], 0, 0), (.ireturn, 1, 0, 0, [], 0, 0)] := ⟨trivial, ⟨lk_56, ⟨trivial, ⟨trivial, ⟨trivial, ⟨lk_57, ⟨trivial, ⟨trivial, ⟨lk_58, ⟨trivial, ⟨lk_59, ⟨trivial, ⟨trivial, trivial⟩⟩⟩⟩⟩⟩⟩⟩⟩⟩⟩⟩⟩
set_option maxRecDepth 100000 in
set_option maxHeartbeats 4000000 in
theorem n_X2_sumOf : en_lkM (⟨"EvenSteps$Even", "sumOf", "(I)I"⟩, prog_4_method_4_code, 2, (some .int), p_X2_sumOf) := (List.forall_mem_cons.mpr ⟨n_X2_sumOf_0, (fun _ h => absurd h List.not_mem_nil)⟩)
set_option maxRecDepth 100000 in
set_option maxHeartbeats 4000000 in
theorem k_X2_doGo : en_ckM (⟨"EvenSteps$Even", "doGo", "(ILEvenSteps$Trace;)I"⟩, prog_4_method_5_code, 3, (some .int), p_X2_doGo) = true := by decide +kernel
set_option maxRecDepth 100000 in
set_option maxHeartbeats 4000000 in
theorem n_X2_doGo_0 : en_lkC "EvenSteps$Even" false [(.aload_n 2, 1, 2, 0, [], 0, 0), (.bipush 20, 2, 0, 0, [], 20, 0), (.invokevirtual 31, 3, 1, 4, [(9, 60)], 0, 0), (.aload_n 0, 1, 0, 0, [], 0, 0), (.iload_n 1, 1, 1, 0, [], 0, 0), (.aload_n 2, 1, 2, 0, [], 0, 0), (.invokespecial 36, 3, 2, 0, [(2, 30), (3, 30), (4, 30)], 0, 0), (.iconst 2, 1, 0, 0, [], 2, 0), (.imul, 1, 0, 0, [], 0, 0), (.ireturn, 1, 0, 0, [], 0, 0)] := ⟨trivial, ⟨trivial, ⟨lk_60, ⟨trivial, ⟨trivial, ⟨trivial, ⟨(Or.inr ⟨by decide, Or.inr lk_61⟩), ⟨trivial, ⟨trivial, ⟨trivial, trivial⟩⟩⟩⟩⟩⟩⟩⟩⟩⟩
set_option maxRecDepth 100000 in
set_option maxHeartbeats 4000000 in
theorem n_X2_doGo : en_lkM (⟨"EvenSteps$Even", "doGo", "(ILEvenSteps$Trace;)I"⟩, prog_4_method_5_code, 3, (some .int), p_X2_doGo) := (List.forall_mem_cons.mpr ⟨n_X2_doGo_0, (fun _ h => absurd h List.not_mem_nil)⟩)
set_option maxRecDepth 100000 in
set_option maxHeartbeats 4000000 in
theorem k_X2_doGrow : en_ckM (⟨"EvenSteps$Even", "doGrow", "(ILEvenSteps$Trace;)I"⟩, prog_4_method_6_code, 3, (some .int), p_X2_doGrow) = true := by decide +kernel
set_option maxRecDepth 100000 in
set_option maxHeartbeats 4000000 in
theorem n_X2_doGrow_0 : en_lkC "EvenSteps$Even" false [(.aload_n 2, 1, 2, 0, [], 0, 0), (.bipush 21, 2, 0, 0, [], 21, 0), (.invokevirtual 31, 3, 1, 4, [(9, 60)], 0, 0), (.aload_n 0, 1, 0, 0, [], 0, 0), (.iload_n 1, 1, 1, 0, [], 0, 0), (.aload_n 2, 1, 2, 0, [], 0, 0), (.invokespecial 40, 3, 2, 0, [(2, 32), (3, 32), (4, 32)], 0, 0), (.bipush 7, 2, 0, 0, [], 7, 0), (.iadd, 1, 0, 0, [], 0, 0), (.ireturn, 1, 0, 0, [], 0, 0)] := ⟨trivial, ⟨trivial, ⟨lk_60, ⟨trivial, ⟨trivial, ⟨trivial, ⟨(Or.inr ⟨by decide, Or.inr lk_62⟩), ⟨trivial, ⟨trivial, ⟨trivial, trivial⟩⟩⟩⟩⟩⟩⟩⟩⟩⟩
set_option maxRecDepth 100000 in
set_option maxHeartbeats 4000000 in
theorem n_X2_doGrow : en_lkM (⟨"EvenSteps$Even", "doGrow", "(ILEvenSteps$Trace;)I"⟩, prog_4_method_6_code, 3, (some .int), p_X2_doGrow) := (List.forall_mem_cons.mpr ⟨n_X2_doGrow_0, (fun _ h => absurd h List.not_mem_nil)⟩)
set_option maxRecDepth 100000 in
set_option maxHeartbeats 4000000 in
theorem k_X3_init : en_ckM (⟨"EvenSteps$Points", "<init>", "(ILEvenSteps$Slope;I)V"⟩, prog_5_method_1_code, 4, none, p_X3_init) = true := by decide +kernel
set_option maxRecDepth 100000 in
set_option maxHeartbeats 4000000 in
theorem n_X3_init_0 : en_lkC "EvenSteps$Points" true [(.aload_n 0, 1, 0, 0, [], 0, 0), (.iload_n 1, 1, 1, 0, [], 0, 0), (.aload_n 2, 1, 2, 0, [], 0, 0), (.iload_n 3, 1, 3, 0, [], 0, 0), (.iconst 0, 1, 0, 0, [], 0, 0), (.iconst 1, 1, 0, 0, [], 1, 0), (.invokespecial 1, 3, 5, 4, [(2, 15), (3, 15), (4, 15)], 0, 0), (.return_, 1, 0, 0, [], 0, 0)] := ⟨trivial, ⟨trivial, ⟨trivial, ⟨trivial, ⟨trivial, ⟨trivial, ⟨(Or.inr ⟨by decide, Or.inl lk_63⟩), ⟨trivial, trivial⟩⟩⟩⟩⟩⟩⟩⟩
set_option maxRecDepth 100000 in
set_option maxHeartbeats 4000000 in
theorem n_X3_init : en_lkM (⟨"EvenSteps$Points", "<init>", "(ILEvenSteps$Slope;I)V"⟩, prog_5_method_1_code, 4, none, p_X3_init) := (List.forall_mem_cons.mpr ⟨n_X3_init_0, (fun _ h => absurd h List.not_mem_nil)⟩)
set_option maxRecDepth 100000 in
set_option maxHeartbeats 4000000 in
theorem k_X3_kindNumber : en_ckM (⟨"EvenSteps$Points", "kindNumber", "()I"⟩, prog_5_method_2_code, 1, (some .int), p_X3_kindNumber) = true := by decide +kernel
set_option maxRecDepth 100000 in
set_option maxHeartbeats 4000000 in
theorem n_X3_kindNumber_0 : en_lkC "EvenSteps$Points" false [(.iconst 4, 1, 0, 0, [], 4, 0), (.ireturn, 1, 0, 0, [], 0, 0)] := ⟨trivial, ⟨trivial, trivial⟩⟩
set_option maxRecDepth 100000 in
set_option maxHeartbeats 4000000 in
theorem n_X3_kindNumber : en_lkM (⟨"EvenSteps$Points", "kindNumber", "()I"⟩, prog_5_method_2_code, 1, (some .int), p_X3_kindNumber) := (List.forall_mem_cons.mpr ⟨n_X3_kindNumber_0, (fun _ h => absurd h List.not_mem_nil)⟩)
set_option maxRecDepth 100000 in
set_option maxHeartbeats 4000000 in
theorem k_X3_doGrow : en_ckM (⟨"EvenSteps$Points", "doGrow", "(ILEvenSteps$Trace;)I"⟩, prog_5_method_3_code, 3, (some .int), p_X3_doGrow) = true := by decide +kernel
set_option maxRecDepth 100000 in
set_option maxHeartbeats 4000000 in
theorem n_X3_doGrow_0 : en_lkC "EvenSteps$Points" false [(.aload_n 2, 1, 2, 0, [], 0, 0), (.bipush 50, 2, 0, 0, [], 50, 0), (.invokevirtual 7, 3, 1, 4, [(9, 60)], 0, 0), (.aload_n 0, 1, 0, 0, [], 0, 0), (.iload_n 1, 1, 1, 0, [], 0, 0), (.aload_n 2, 1, 2, 0, [], 0, 0), (.invokespecial 13, 3, 2, 0, [(3, 20)], 0, 0), (.bipush 9, 2, 0, 0, [], 9, 0), (.ixor, 1, 0, 0, [], 0, 0), (.ireturn, 1, 0, 0, [], 0, 0)] := ⟨trivial, ⟨trivial, ⟨lk_64, ⟨trivial, ⟨trivial, ⟨trivial, ⟨(Or.inr ⟨by decide, Or.inr lk_65⟩), ⟨trivial, ⟨trivial, ⟨trivial, trivial⟩⟩⟩⟩⟩⟩⟩⟩⟩⟩
set_option maxRecDepth 100000 in
set_option maxHeartbeats 4000000 in
theorem n_X3_doGrow : en_lkM (⟨"EvenSteps$Points", "doGrow", "(ILEvenSteps$Trace;)I"⟩, prog_5_method_3_code, 3, (some .int), p_X3_doGrow) := (List.forall_mem_cons.mpr ⟨n_X3_doGrow_0, (fun _ h => absurd h List.not_mem_nil)⟩)
set_option maxRecDepth 100000 in
set_option maxHeartbeats 4000000 in
theorem k_X3_doGap : en_ckM (⟨"EvenSteps$Points", "doGap", "(ILEvenSteps$Trace;)I"⟩, prog_5_method_4_code, 3, (some .int), p_X3_doGap) = true := by decide +kernel
set_option maxRecDepth 100000 in
set_option maxHeartbeats 4000000 in
theorem n_X3_doGap_0 : en_lkC "EvenSteps$Points" false [(.aload_n 2, 1, 2, 0, [], 0, 0), (.bipush 51, 2, 0, 0, [], 51, 0), (.invokevirtual 7, 3, 1, 4, [(9, 60)], 0, 0), (.aload_n 0, 1, 0, 0, [], 0, 0), (.iload_n 1, 1, 1, 0, [], 0, 0), (.aload_n 2, 1, 2, 0, [], 0, 0), (.invokespecial 17, 3, 2, 0, [(3, 31)], 0, 0), (.aload_n 0, 1, 0, 0, [], 0, 0), (.iload_n 1, 1, 1, 0, [], 0, 0), (.aload_n 2, 1, 2, 0, [], 0, 0), (.invokespecial 20, 3, 2, 0, [(3, 19)], 0, 0), (.iadd, 1, 0, 0, [], 0, 0), (.ireturn, 1, 0, 0, [], 0, 0)] := ⟨trivial, ⟨trivial, ⟨lk_64, ⟨trivial, ⟨trivial, ⟨trivial, ⟨(Or.inr ⟨by decide, Or.inr lk_66⟩), ⟨trivial, ⟨trivial, ⟨trivial, ⟨(Or.inr ⟨by decide, Or.inr lk_67⟩), ⟨trivial, ⟨trivial, trivial⟩⟩⟩⟩⟩⟩⟩⟩⟩⟩⟩⟩⟩
set_option maxRecDepth 100000 in
set_option maxHeartbeats 4000000 in
theorem n_X3_doGap : en_lkM (⟨"EvenSteps$Points", "doGap", "(ILEvenSteps$Trace;)I"⟩, prog_5_method_4_code, 3, (some .int), p_X3_doGap) := (List.forall_mem_cons.mpr ⟨n_X3_doGap_0, (fun _ h => absurd h List.not_mem_nil)⟩)
set_option maxRecDepth 100000 in
set_option maxHeartbeats 4000000 in
theorem k_X4_init : en_ckM (⟨"EvenSteps$Ring", "<init>", "(III)V"⟩, prog_6_method_1_code, 4, none, p_X4_init) = true := by decide +kernel
set_option maxRecDepth 100000 in
set_option maxHeartbeats 4000000 in
theorem n_X4_init_0 : en_lkC "EvenSteps$Ring" true [(.aload_n 0, 1, 0, 0, [], 0, 0), (.iload_n 1, 1, 1, 0, [], 0, 0), (.new 3, 3, 6, 0, [], 0, 0), (.dup, 1, 0, 0, [], 0, 0), (.iload_n 2, 1, 2, 0, [], 0, 0), (.i2l, 1, 0, 0, [], 0, 0), (.lconst 0, 1, 0, 0, [], 0, 0), (.iload_n 3, 1, 3, 0, [], 0, 0), (.i2l, 1, 0, 0, [], 0, 0), (.ldc2_w 5, 3, 0, 0, [], 0, 2), (.invokespecial 7, 3, 4, 4, [(6, 39)], 0, 0), (.iconst (-1), 1, 0, 0, [], (-1), 0), (.iconst 0, 1, 0, 0, [], 0, 0), (.iconst 1, 1, 0, 0, [], 1, 0), (.invokespecial 11, 3, 5, 4, [(2, 15), (3, 15), (4, 15)], 0, 0), (.return_, 1, 0, 0, [], 0, 0)] := ⟨trivial, ⟨trivial, ⟨⟨"EvenSteps$Slope", en_T6, 8, rfl, wd_452⟩, ⟨trivial, ⟨trivial, ⟨trivial, ⟨trivial, ⟨trivial, ⟨trivial, ⟨wd_453, ⟨(Or.inr ⟨by decide, Or.inl lk_70⟩), ⟨trivial, ⟨trivial, ⟨trivial, ⟨(Or.inr ⟨by decide, Or.inl lk_71⟩), ⟨trivial, trivial⟩⟩⟩⟩⟩⟩⟩⟩⟩⟩⟩⟩⟩⟩⟩⟩
set_option maxRecDepth 100000 in
set_option maxHeartbeats 4000000 in
theorem n_X4_init : en_lkM (⟨"EvenSteps$Ring", "<init>", "(III)V"⟩, prog_6_method_1_code, 4, none, p_X4_init) := (List.forall_mem_cons.mpr ⟨n_X4_init_0, (fun _ h => absurd h List.not_mem_nil)⟩)
set_option maxRecDepth 100000 in
set_option maxHeartbeats 4000000 in
theorem k_X4_kindNumber : en_ckM (⟨"EvenSteps$Ring", "kindNumber", "()I"⟩, prog_6_method_2_code, 1, (some .int), p_X4_kindNumber) = true := by decide +kernel
set_option maxRecDepth 100000 in
set_option maxHeartbeats 4000000 in
theorem n_X4_kindNumber_0 : en_lkC "EvenSteps$Ring" false [(.iconst 2, 1, 0, 0, [], 2, 0), (.ireturn, 1, 0, 0, [], 0, 0)] := ⟨trivial, ⟨trivial, trivial⟩⟩
set_option maxRecDepth 100000 in
set_option maxHeartbeats 4000000 in
theorem n_X4_kindNumber : en_lkM (⟨"EvenSteps$Ring", "kindNumber", "()I"⟩, prog_6_method_2_code, 1, (some .int), p_X4_kindNumber) := (List.forall_mem_cons.mpr ⟨n_X4_kindNumber_0, (fun _ h => absurd h List.not_mem_nil)⟩)
set_option maxRecDepth 100000 in
set_option maxHeartbeats 4000000 in
theorem k_X4_doGap : en_ckM (⟨"EvenSteps$Ring", "doGap", "(ILEvenSteps$Trace;)I"⟩, prog_6_method_3_code, 3, (some .int), p_X4_doGap) = true := by decide +kernel
set_option maxRecDepth 100000 in
set_option maxHeartbeats 4000000 in
theorem n_X4_doGap_0 : en_lkC "EvenSteps$Ring" false [(.aload_n 2, 1, 2, 0, [], 0, 0), (.bipush 30, 2, 0, 0, [], 30, 0), (.invokevirtual 16, 3, 1, 4, [(9, 60)], 0, 0), (.aload_n 0, 1, 0, 0, [], 0, 0), (.iload_n 1, 1, 1, 0, [], 0, 0), (.iconst 1, 1, 0, 0, [], 1, 0), (.iadd, 1, 0, 0, [], 0, 0), (.aload_n 2, 1, 2, 0, [], 0, 0), (.invokespecial 22, 3, 2, 0, [(4, 31)], 0, 0), (.ireturn, 1, 0, 0, [], 0, 0)] := ⟨trivial, ⟨trivial, ⟨lk_72, ⟨trivial, ⟨trivial, ⟨trivial, ⟨trivial, ⟨trivial, ⟨(Or.inr ⟨by decide, Or.inr lk_73⟩), ⟨trivial, trivial⟩⟩⟩⟩⟩⟩⟩⟩⟩⟩
set_option maxRecDepth 100000 in
set_option maxHeartbeats 4000000 in
theorem n_X4_doGap : en_lkM (⟨"EvenSteps$Ring", "doGap", "(ILEvenSteps$Trace;)I"⟩, prog_6_method_3_code, 3, (some .int), p_X4_doGap) := (List.forall_mem_cons.mpr ⟨n_X4_doGap_0, (fun _ h => absurd h List.not_mem_nil)⟩)
set_option maxRecDepth 100000 in
set_option maxHeartbeats 4000000 in
theorem k_X4_doTell : en_ckM (⟨"EvenSteps$Ring", "doTell", "(ILEvenSteps$Trace;)I"⟩, prog_6_method_4_code, 3, (some .int), p_X4_doTell) = true := by decide +kernel
set_option maxRecDepth 100000 in
set_option maxHeartbeats 4000000 in
theorem n_X4_doTell_0 : en_lkC "EvenSteps$Ring" false [(.aload_n 2, 1, 2, 0, [], 0, 0), (.bipush 31, 2, 0, 0, [], 31, 0), (.invokevirtual 16, 3, 1, 4, [(9, 60)], 0, 0), (.aload_n 0, 1, 0, 0, [], 0, 0), (.iload_n 1, 1, 1, 0, [], 0, 0), (.aload_n 2, 1, 2, 0, [], 0, 0), (.invokespecial 26, 3, 2, 0, [(4, 33)], 0, 0), (.aload_n 0, 1, 0, 0, [], 0, 0), (.iload_n 1, 1, 1, 0, [], 0, 0), (.aload_n 2, 1, 2, 0, [], 0, 0), (.invokevirtual 29, 3, 2, 0, [(4, 20)], 0, 0), (.isub, 1, 0, 0, [], 0, 0), (.ireturn, 1, 0, 0, [], 0, 0)] := ⟨trivial, ⟨trivial, ⟨lk_72, ⟨trivial, ⟨trivial, ⟨trivial, ⟨(Or.inr ⟨by decide, Or.inr lk_74⟩), ⟨trivial, ⟨trivial, ⟨trivial, ⟨lk_75, ⟨trivial, ⟨trivial, trivial⟩⟩⟩⟩⟩⟩⟩⟩⟩⟩⟩⟩⟩
set_option maxRecDepth 100000 in
set_option maxHeartbeats 4000000 in
theorem n_X4_doTell : en_lkM (⟨"EvenSteps$Ring", "doTell", "(ILEvenSteps$Trace;)I"⟩, prog_6_method_4_code, 3, (some .int), p_X4_doTell) := (List.forall_mem_cons.mpr ⟨n_X4_doTell_0, (fun _ h => absurd h List.not_mem_nil)⟩)
set_option maxRecDepth 100000 in
set_option maxHeartbeats 4000000 in
theorem k_X5_init : en_ckM (⟨"EvenSteps$Row", "<init>", "(I)V"⟩, prog_7_method_1_code, 2, none, p_X5_init) = true := by decide +kernel
set_option maxRecDepth 100000 in
set_option maxHeartbeats 4000000 in
theorem n_X5_init_0 : en_lkC "EvenSteps$Row" true [(.aload_n 0, 1, 0, 0, [], 0, 0), (.invokespecial 1, 3, 0, 9, [], 0, 0), (.aload_n 0, 1, 0, 0, [], 0, 0), (.iload_n 1, 1, 1, 0, [], 0, 0), (.putfield 7, 3, 0, 0, [(1, 0), (2, 0), (3, 0), (4, 0), (8, 0)], 0, 0), (.return_, 1, 0, 0, [], 0, 0)] := ⟨trivial, ⟨(Or.inl ⟨rfl, wd_363, wd_85, wd_86⟩), ⟨trivial, ⟨trivial, ⟨lk_77, ⟨trivial, trivial⟩⟩⟩⟩⟩⟩
set_option maxRecDepth 100000 in
set_option maxHeartbeats 4000000 in
theorem n_X5_init : en_lkM (⟨"EvenSteps$Row", "<init>", "(I)V"⟩, prog_7_method_1_code, 2, none, p_X5_init) := (List.forall_mem_cons.mpr ⟨n_X5_init_0, (fun _ h => absurd h List.not_mem_nil)⟩)
set_option maxRecDepth 100000 in
set_option maxHeartbeats 4000000 in
theorem k_X5_doGo : en_ckM (⟨"EvenSteps$Row", "doGo", "(ILEvenSteps$Trace;)I"⟩, prog_7_method_5_code, 3, (some .int), p_X5_doGo) = true := by decide +kernel
set_option maxRecDepth 100000 in
set_option maxHeartbeats 4000000 in
theorem n_X5_doGo_0 : en_lkC "EvenSteps$Row" false [(.aload_n 2, 1, 2, 0, [], 0, 0), (.bipush 10, 2, 0, 0, [], 10, 0), (.invokevirtual 13, 3, 1, 4, [(9, 60)], 0, 0), (.iload_n 1, 1, 1, 0, [], 0, 0), (.aload_n 0, 1, 0, 0, [], 0, 0), (.getfield 19, 3, 1, 0, [(1, 0), (2, 0), (3, 0), (4, 0), (8, 0)], 0, 0), (.iadd, 1, 0, 0, [], 0, 0), (.ireturn, 1, 0, 0, [], 0, 0)] := ⟨trivial, ⟨trivial, ⟨lk_78, ⟨trivial, ⟨trivial, ⟨lk_79, ⟨trivial, ⟨trivial, trivial⟩⟩⟩⟩⟩⟩⟩⟩
set_option maxRecDepth 100000 in
set_option maxHeartbeats 4000000 in
theorem n_X5_doGo : en_lkM (⟨"EvenSteps$Row", "doGo", "(ILEvenSteps$Trace;)I"⟩, prog_7_method_5_code, 3, (some .int), p_X5_doGo) := (List.forall_mem_cons.mpr ⟨n_X5_doGo_0, (fun _ h => absurd h List.not_mem_nil)⟩)
set_option maxRecDepth 100000 in
set_option maxHeartbeats 4000000 in
theorem k_X5_doGap : en_ckM (⟨"EvenSteps$Row", "doGap", "(ILEvenSteps$Trace;)I"⟩, prog_7_method_6_code, 3, (some .int), p_X5_doGap) = true := by decide +kernel
set_option maxRecDepth 100000 in
set_option maxHeartbeats 4000000 in
theorem n_X5_doGap_0 : en_lkC "EvenSteps$Row" false [(.aload_n 2, 1, 2, 0, [], 0, 0), (.bipush 11, 2, 0, 0, [], 11, 0), (.invokevirtual 13, 3, 1, 4, [(9, 60)], 0, 0), (.aload_n 0, 1, 0, 0, [], 0, 0), (.iload_n 1, 1, 1, 0, [], 0, 0), (.aload_n 2, 1, 2, 0, [], 0, 0), (.invokevirtual 22, 3, 2, 0, [(1, 13), (2, 19), (3, 19), (4, 19), (8, 30)], 0, 0), (.iconst 3, 1, 0, 0, [], 3, 0), (.imul, 1, 0, 0, [], 0, 0), (.ireturn, 1, 0, 0, [], 0, 0)] := ⟨trivial, ⟨trivial, ⟨lk_78, ⟨trivial, ⟨trivial, ⟨trivial, ⟨lk_80, ⟨trivial, ⟨trivial, ⟨trivial, trivial⟩⟩⟩⟩⟩⟩⟩⟩⟩⟩
set_option maxRecDepth 100000 in
set_option maxHeartbeats 4000000 in
theorem n_X5_doGap : en_lkM (⟨"EvenSteps$Row", "doGap", "(ILEvenSteps$Trace;)I"⟩, prog_7_method_6_code, 3, (some .int), p_X5_doGap) := (List.forall_mem_cons.mpr ⟨n_X5_doGap_0, (fun _ h => absurd h List.not_mem_nil)⟩)
set_option maxRecDepth 100000 in
set_option maxHeartbeats 4000000 in
theorem k_X5_doGrow : en_ckM (⟨"EvenSteps$Row", "doGrow", "(ILEvenSteps$Trace;)I"⟩, prog_7_method_7_code, 3, (some .int), p_X5_doGrow) = true := by decide +kernel
set_option maxRecDepth 100000 in
set_option maxHeartbeats 4000000 in
theorem n_X5_doGrow_0 : en_lkC "EvenSteps$Row" false [(.aload_n 2, 1, 2, 0, [], 0, 0), (.bipush 12, 2, 0, 0, [], 12, 0), (.invokevirtual 13, 3, 1, 4, [(9, 60)], 0, 0), (.iload_n 1, 1, 1, 0, [], 0, 0), (.aload_n 0, 1, 0, 0, [], 0, 0), (.getfield 7, 3, 0, 0, [(1, 0), (2, 0), (3, 0), (4, 0), (8, 0)], 0, 0), (.isub, 1, 0, 0, [], 0, 0), (.ireturn, 1, 0, 0, [], 0, 0)] := ⟨trivial, ⟨trivial, ⟨lk_78, ⟨trivial, ⟨trivial, ⟨lk_81, ⟨trivial, ⟨trivial, trivial⟩⟩⟩⟩⟩⟩⟩⟩
set_option maxRecDepth 100000 in
set_option maxHeartbeats 4000000 in
theorem n_X5_doGrow : en_lkM (⟨"EvenSteps$Row", "doGrow", "(ILEvenSteps$Trace;)I"⟩, prog_7_method_7_code, 3, (some .int), p_X5_doGrow) := (List.forall_mem_cons.mpr ⟨n_X5_doGrow_0, (fun _ h => absurd h List.not_mem_nil)⟩)
set_option maxRecDepth 100000 in
set_option maxHeartbeats 4000000 in
theorem k_X5_doTell : en_ckM (⟨"EvenSteps$Row", "doTell", "(ILEvenSteps$Trace;)I"⟩, prog_7_method_8_code, 3, (some .int), p_X5_doTell) = true := by decide +kernel
set_option maxRecDepth 100000 in
set_option maxHeartbeats 4000000 in
theorem n_X5_doTell_0 : en_lkC "EvenSteps$Row" false [(.aload_n 2, 1, 2, 0, [], 0, 0), (.bipush 13, 2, 0, 0, [], 13, 0), (.invokevirtual 13, 3, 1, 4, [(9, 60)], 0, 0), (.aload_n 0, 1, 0, 0, [], 0, 0), (.iload_n 1, 1, 1, 0, [], 0, 0), (.aload_n 2, 1, 2, 0, [], 0, 0), (.invokevirtual 26, 3, 2, 0, [(1, 31), (2, 31), (3, 24), (4, 27), (8, 31)], 0, 0), (.aload_n 0, 1, 0, 0, [], 0, 0), (.iload_n 1, 1, 1, 0, [], 0, 0), (.aload_n 2, 1, 2, 0, [], 0, 0), (.invokevirtual 29, 3, 2, 0, [(1, 14), (2, 20), (3, 23), (4, 20), (8, 32)], 0, 0), (.ixor, 1, 0, 0, [], 0, 0), (.ireturn, 1, 0, 0, [], 0, 0)] := ⟨trivial, ⟨trivial, ⟨lk_78, ⟨trivial, ⟨trivial, ⟨trivial, ⟨lk_82, ⟨trivial, ⟨trivial, ⟨trivial, ⟨lk_83, ⟨trivial, ⟨trivial, trivial⟩⟩⟩⟩⟩⟩⟩⟩⟩⟩⟩⟩⟩
set_option maxRecDepth 100000 in
set_option maxHeartbeats 4000000 in
theorem n_X5_doTell : en_lkM (⟨"EvenSteps$Row", "doTell", "(ILEvenSteps$Trace;)I"⟩, prog_7_method_8_code, 3, (some .int), p_X5_doTell) := (List.forall_mem_cons.mpr ⟨n_X5_doTell_0, (fun _ h => absurd h List.not_mem_nil)⟩)
set_option maxRecDepth 100000 in
set_option maxHeartbeats 4000000 in
theorem k_X6_init : en_ckM (⟨"EvenSteps$Sheet", "<init>", "()V"⟩, prog_8_method_1_code, 1, none, p_X6_init) = true := by decide +kernel
set_option maxRecDepth 100000 in
set_option maxHeartbeats 4000000 in
theorem n_X6_init_0 : en_lkC "EvenSteps$Sheet" true [(.aload_n 0, 1, 0, 0, [], 0, 0), (.invokespecial 3, 3, 0, 9, [], 0, 0), (.aload_n 0, 1, 0, 0, [], 0, 0), (.bipush 40, 2, 0, 0, [], 40, 0), (.newarray .int, 2, 0, 0, [], 0, 0), (.putfield 9, 3, 0, 2, [(5, 0)], 0, 0), (.aload_n 0, 1, 0, 0, [], 0, 0), (.iconst (-1), 1, 0, 0, [], (-1), 0), (.putfield 15, 3, 1, 0, [(5, 0)], 0, 0), (.return_, 1, 0, 0, [], 0, 0)] := ⟨trivial, ⟨(Or.inl ⟨rfl, wd_196, wd_85, wd_86⟩), ⟨trivial, ⟨trivial, ⟨(Or.inl ⟨rfl, wd_108⟩), ⟨lk_85, ⟨trivial, ⟨trivial, ⟨lk_86, ⟨trivial, trivial⟩⟩⟩⟩⟩⟩⟩⟩⟩⟩
set_option maxRecDepth 100000 in
set_option maxHeartbeats 4000000 in
theorem n_X6_init : en_lkM (⟨"EvenSteps$Sheet", "<init>", "()V"⟩, prog_8_method_1_code, 1, none, p_X6_init) := (List.forall_mem_cons.mpr ⟨n_X6_init_0, (fun _ h => absurd h List.not_mem_nil)⟩)
set_option maxRecDepth 100000 in
set_option maxHeartbeats 4000000 in
theorem k_X6_isMissing : en_ckM (⟨"EvenSteps$Sheet", "isMissing", "()Z"⟩, prog_8_method_2_code, 1, (some .boolean), p_X6_isMissing) = true := by decide +kernel
set_option maxRecDepth 100000 in
set_option maxHeartbeats 4000000 in
theorem n_X6_isMissing_0 : en_lkC "EvenSteps$Sheet" false [(.aload_n 0, 1, 0, 0, [], 0, 0), (.getfield 15, 3, 1, 0, [(5, 0)], 0, 0), (.ifCond .ge 7, 3, 1, 0, [], 0, 0), (.iconst 1, 1, 0, 0, [], 1, 0), (.goto 4, 3, 2, 0, [], 0, 0)] := ⟨trivial, ⟨lk_87, ⟨trivial, ⟨trivial, ⟨trivial, trivial⟩⟩⟩⟩⟩
set_option maxRecDepth 100000 in
set_option maxHeartbeats 4000000 in
theorem n_X6_isMissing_1 : en_lkC "EvenSteps$Sheet" false [(.iconst 0, 1, 0, 0, [], 0, 0)] := ⟨trivial, trivial⟩
set_option maxRecDepth 100000 in
set_option maxHeartbeats 4000000 in
theorem n_X6_isMissing_2 : en_lkC "EvenSteps$Sheet" false [(.ireturn, 1, 0, 3, [], 0, 0)] := ⟨trivial, trivial⟩
set_option maxRecDepth 100000 in
set_option maxHeartbeats 4000000 in
theorem n_X6_isMissing : en_lkM (⟨"EvenSteps$Sheet", "isMissing", "()Z"⟩, prog_8_method_2_code, 1, (some .boolean), p_X6_isMissing) := (List.forall_mem_cons.mpr ⟨n_X6_isMissing_0, (List.forall_mem_cons.mpr ⟨n_X6_isMissing_1, (List.forall_mem_cons.mpr ⟨n_X6_isMissing_2, (fun _ h => absurd h List.not_mem_nil)⟩)⟩)⟩)
set_option maxRecDepth 100000 in
set_option maxHeartbeats 4000000 in
theorem k_X6_begin : en_ckM (⟨"EvenSteps$Sheet", "begin", "(II)V"⟩, prog_8_method_3_code, 4, none, p_X6_begin) = true := by decide +kernel
set_option maxRecDepth 100000 in
set_option maxHeartbeats 4000000 in
theorem n_X6_begin_0 : en_lkC "EvenSteps$Sheet" false [(.aload_n 0, 1, 0, 0, [], 0, 0), (.iload_n 1, 1, 1, 0, [], 0, 0), (.putfield 15, 3, 1, 0, [(5, 0)], 0, 0), (.aload_n 0, 1, 0, 0, [], 0, 0), (.iload_n 2, 1, 2, 0, [], 0, 0), (.putfield 19, 3, 2, 0, [(5, 0)], 0, 0), (.iconst 0, 1, 0, 0, [], 0, 0), (.istore_n 3, 1, 3, 0, [], 0, 0)] := ⟨trivial, ⟨trivial, ⟨lk_88, ⟨trivial, ⟨trivial, ⟨lk_89, ⟨trivial, ⟨trivial, trivial⟩⟩⟩⟩⟩⟩⟩⟩
set_option maxRecDepth 100000 in
set_option maxHeartbeats 4000000 in
theorem n_X6_begin_1 : en_lkC "EvenSteps$Sheet" false [(.iload_n 3, 1, 3, 0, [], 0, 0), (.aload_n 0, 1, 0, 0, [], 0, 0), (.getfield 9, 3, 0, 2, [(5, 0)], 0, 0), (.arraylength, 1, 0, 0, [], 0, 0), (.if_icmp .ge 16, 3, 2, 0, [], 0, 0), (.aload_n 0, 1, 0, 0, [], 0, 0), (.getfield 9, 3, 0, 2, [(5, 0)], 0, 0), (.iload_n 3, 1, 3, 0, [], 0, 0), (.iconst 0, 1, 0, 0, [], 0, 0), (.iastore, 1, 0, 0, [], 0, 0), (.iinc 3 1, 3, 3, 0, [], 1, 0), (.goto (-19), 3, 1, 0, [], 0, 0)] := ⟨trivial, ⟨trivial, ⟨lk_90, ⟨trivial, ⟨trivial, ⟨trivial, ⟨lk_90, ⟨trivial, ⟨trivial, ⟨trivial, ⟨trivial, ⟨trivial, trivial⟩⟩⟩⟩⟩⟩⟩⟩⟩⟩⟩⟩
set_option maxRecDepth 100000 in
set_option maxHeartbeats 4000000 in
theorem n_X6_begin_2 : en_lkC "EvenSteps$Sheet" false [(.return_, 1, 0, 0, [], 0, 0)] := ⟨trivial, trivial⟩
set_option maxRecDepth 100000 in
set_option maxHeartbeats 4000000 in
theorem n_X6_begin : en_lkM (⟨"EvenSteps$Sheet", "begin", "(II)V"⟩, prog_8_method_3_code, 4, none, p_X6_begin) := (List.forall_mem_cons.mpr ⟨n_X6_begin_0, (List.forall_mem_cons.mpr ⟨n_X6_begin_1, (List.forall_mem_cons.mpr ⟨n_X6_begin_2, (fun _ h => absurd h List.not_mem_nil)⟩)⟩)⟩)
set_option maxRecDepth 100000 in
set_option maxHeartbeats 4000000 in
theorem k_X6_tellsSteps : en_ckM (⟨"EvenSteps$Sheet", "tellsSteps", "(I)Z"⟩, prog_8_method_4_code, 3, (some .boolean), p_X6_tellsSteps) = true := by decide +kernel
set_option maxRecDepth 100000 in
set_option maxHeartbeats 4000000 in
theorem n_X6_tellsSteps_0 : en_lkC "EvenSteps$Sheet" false [(.iconst 0, 1, 0, 0, [], 0, 0), (.istore_n 2, 1, 2, 0, [], 0, 0)] := ⟨trivial, ⟨trivial, trivial⟩⟩
set_option maxRecDepth 100000 in
set_option maxHeartbeats 4000000 in
theorem n_X6_tellsSteps_1 : en_lkC "EvenSteps$Sheet" false [(.iload_n 2, 1, 2, 0, [], 0, 0), (.iload_n 1, 1, 1, 0, [], 0, 0), (.if_icmp .ge 40, 3, 4, 0, [], 0, 0), (.iload_n 2, 1, 2, 0, [], 0, 0), (.aload_n 0, 1, 0, 0, [], 0, 0), (.getfield 9, 3, 0, 2, [(5, 0)], 0, 0), (.arraylength, 1, 0, 0, [], 0, 0), (.if_icmp .ge 31, 3, 4, 0, [], 0, 0), (.aload_n 0, 1, 0, 0, [], 0, 0), (.getfield 9, 3, 0, 2, [(5, 0)], 0, 0), (.iload_n 2, 1, 2, 0, [], 0, 0), (.iaload, 1, 0, 0, [], 0, 0), (.ifCond .lt 14, 3, 2, 0, [], 0, 0), (.aload_n 0, 1, 0, 0, [], 0, 0), (.getfield 9, 3, 0, 2, [(5, 0)], 0, 0), (.iload_n 2, 1, 2, 0, [], 0, 0), (.iaload, 1, 0, 0, [], 0, 0), (.bipush 100, 2, 0, 0, [], 100, 0), (.if_icmp .le 5, 3, 3, 0, [], 0, 0)] := ⟨trivial, ⟨trivial, ⟨trivial, ⟨trivial, ⟨trivial, ⟨lk_90, ⟨trivial, ⟨trivial, ⟨trivial, ⟨lk_90, ⟨trivial, ⟨trivial, ⟨trivial, ⟨trivial, ⟨lk_90, ⟨trivial, ⟨trivial, ⟨trivial, ⟨trivial, trivial⟩⟩⟩⟩⟩⟩⟩⟩⟩⟩⟩⟩⟩⟩⟩⟩⟩⟩⟩
set_option maxRecDepth 100000 in
set_option maxHeartbeats 4000000 in
theorem n_X6_tellsSteps_2 : en_lkC "EvenSteps$Sheet" false [(.iconst 0, 1, 0, 0, [], 0, 0), (.ireturn, 1, 0, 3, [], 0, 0)] := ⟨trivial, ⟨trivial, trivial⟩⟩
set_option maxRecDepth 100000 in
set_option maxHeartbeats 4000000 in
theorem n_X6_tellsSteps_3 : en_lkC "EvenSteps$Sheet" false [(.iinc 2 1, 3, 2, 0, [], 1, 0), (.goto (-39), 3, 1, 0, [], 0, 0)] := ⟨trivial, ⟨trivial, trivial⟩⟩
set_option maxRecDepth 100000 in
set_option maxHeartbeats 4000000 in
theorem n_X6_tellsSteps_4 : en_lkC "EvenSteps$Sheet" false [(.iconst 1, 1, 0, 0, [], 1, 0), (.ireturn, 1, 0, 3, [], 0, 0)] := ⟨trivial, ⟨trivial, trivial⟩⟩
set_option maxRecDepth 100000 in
set_option maxHeartbeats 4000000 in
theorem n_X6_tellsSteps : en_lkM (⟨"EvenSteps$Sheet", "tellsSteps", "(I)Z"⟩, prog_8_method_4_code, 3, (some .boolean), p_X6_tellsSteps) := (List.forall_mem_cons.mpr ⟨n_X6_tellsSteps_0, (List.forall_mem_cons.mpr ⟨n_X6_tellsSteps_1, (List.forall_mem_cons.mpr ⟨n_X6_tellsSteps_2, (List.forall_mem_cons.mpr ⟨n_X6_tellsSteps_3, (List.forall_mem_cons.mpr ⟨n_X6_tellsSteps_4, (fun _ h => absurd h List.not_mem_nil)⟩)⟩)⟩)⟩)⟩)
set_option maxRecDepth 100000 in
set_option maxHeartbeats 4000000 in
theorem k_X6_copyOf : en_ckM (⟨"EvenSteps$Sheet", "copyOf", "(I)[I"⟩, prog_8_method_5_code, 4, (some (.array .int)), p_X6_copyOf) = true := by decide +kernel
set_option maxRecDepth 100000 in
set_option maxHeartbeats 4000000 in
theorem n_X6_copyOf_0 : en_lkC "EvenSteps$Sheet" false [(.iconst 0, 1, 0, 0, [], 0, 0), (.iload_n 1, 1, 1, 0, [], 0, 0), (.invokestatic 22, 3, 2, 0, [(0, 217)], 0, 0), (.newarray .int, 2, 0, 0, [], 0, 0), (.astore_n 2, 1, 2, 0, [], 0, 0), (.iconst 0, 1, 0, 0, [], 0, 0), (.istore_n 3, 1, 3, 0, [], 0, 0)] := ⟨trivial, ⟨trivial, ⟨lk_91, ⟨(Or.inl ⟨rfl, wd_108⟩), ⟨trivial, ⟨trivial, ⟨trivial, trivial⟩⟩⟩⟩⟩⟩⟩
set_option maxRecDepth 100000 in
set_option maxHeartbeats 4000000 in
theorem n_X6_copyOf_1 : en_lkC "EvenSteps$Sheet" false [(.iload_n 3, 1, 3, 0, [], 0, 0), (.iload_n 1, 1, 1, 0, [], 0, 0), (.if_icmp .ge 27, 3, 2, 0, [], 0, 0), (.iload_n 3, 1, 3, 0, [], 0, 0), (.aload_n 0, 1, 0, 0, [], 0, 0), (.getfield 9, 3, 0, 2, [(5, 0)], 0, 0), (.arraylength, 1, 0, 0, [], 0, 0), (.if_icmp .ge 18, 3, 2, 0, [], 0, 0), (.aload_n 2, 1, 2, 0, [], 0, 0), (.iload_n 3, 1, 3, 0, [], 0, 0), (.aload_n 0, 1, 0, 0, [], 0, 0), (.getfield 9, 3, 0, 2, [(5, 0)], 0, 0), (.iload_n 3, 1, 3, 0, [], 0, 0), (.iaload, 1, 0, 0, [], 0, 0), (.iastore, 1, 0, 0, [], 0, 0), (.iinc 3 1, 3, 3, 0, [], 1, 0), (.goto (-26), 3, 1, 0, [], 0, 0)] := ⟨trivial, ⟨trivial, ⟨trivial, ⟨trivial, ⟨trivial, ⟨lk_90, ⟨trivial, ⟨trivial, ⟨trivial, ⟨trivial, ⟨trivial, ⟨lk_90, ⟨trivial, ⟨trivial, ⟨trivial, ⟨trivial, ⟨trivial, trivial⟩⟩⟩⟩⟩⟩⟩⟩⟩⟩⟩⟩⟩⟩⟩⟩⟩
set_option maxRecDepth 100000 in
set_option maxHeartbeats 4000000 in
theorem n_X6_copyOf_2 : en_lkC "EvenSteps$Sheet" false [(.aload_n 2, 1, 2, 0, [], 0, 0), (.areturn, 1, 0, 0, [], 0, 0)] := ⟨trivial, ⟨trivial, trivial⟩⟩
set_option maxRecDepth 100000 in
set_option maxHeartbeats 4000000 in
theorem n_X6_copyOf : en_lkM (⟨"EvenSteps$Sheet", "copyOf", "(I)[I"⟩, prog_8_method_5_code, 4, (some (.array .int)), p_X6_copyOf) := (List.forall_mem_cons.mpr ⟨n_X6_copyOf_0, (List.forall_mem_cons.mpr ⟨n_X6_copyOf_1, (List.forall_mem_cons.mpr ⟨n_X6_copyOf_2, (fun _ h => absurd h List.not_mem_nil)⟩)⟩)⟩)
set_option maxRecDepth 100000 in
set_option maxHeartbeats 4000000 in
theorem k_X7_init : en_ckM (⟨"EvenSteps$Slope", "<init>", "(JJJJ)V"⟩, prog_9_method_1_code, 13, none, p_X7_init) = true := by decide +kernel
set_option maxRecDepth 100000 in
set_option maxHeartbeats 4000000 in
theorem n_X7_init_0 : en_lkC "EvenSteps$Slope" true [(.aload_n 0, 1, 0, 0, [], 0, 0), (.invokespecial 3, 3, 0, 9, [], 0, 0), (.aload_n 0, 1, 0, 0, [], 0, 0), (.bipush 20, 2, 0, 0, [], 20, 0), (.newarray .int, 2, 0, 0, [], 0, 0), (.putfield 9, 3, 0, 2, [(6, 0)], 0, 0), (.aload_n 0, 1, 0, 0, [], 0, 0), (.bipush 20, 2, 0, 0, [], 20, 0), (.newarray .int, 2, 0, 0, [], 0, 0), (.putfield 15, 3, 2, 2, [(6, 0)], 0, 0), (.lload_n 3, 1, 3, 0, [], 0, 0), (.lconst 0, 1, 0, 0, [], 0, 0), (.lcmp, 1, 0, 0, [], 0, 0), (.ifCond .ne 7, 3, 1, 0, [], 0, 0), (.lconst 1, 1, 0, 0, [], 0, 1), (.goto 8, 3, 2, 0, [], 0, 0)] := ⟨trivial, ⟨(Or.inl ⟨rfl, wd_274, wd_85, wd_86⟩), ⟨trivial, ⟨trivial, ⟨(Or.inl ⟨rfl, wd_108⟩), ⟨lk_93, ⟨trivial, ⟨trivial, ⟨(Or.inl ⟨rfl, wd_108⟩), ⟨lk_94, ⟨trivial, ⟨trivial, ⟨trivial, ⟨trivial, ⟨trivial, ⟨trivial, trivial⟩⟩⟩⟩⟩⟩⟩⟩⟩⟩⟩⟩⟩⟩⟩⟩
set_option maxRecDepth 100000 in
set_option maxHeartbeats 4000000 in
theorem n_X7_init_1 : en_lkC "EvenSteps$Slope" true [(.lload 7, 2, 7, 0, [], 0, 0), (.invokestatic 18, 3, 1, 1, [(0, 40)], 0, 0)] := ⟨trivial, ⟨lk_95, trivial⟩⟩
set_option maxRecDepth 100000 in
set_option maxHeartbeats 4000000 in
theorem n_X7_init_2 : en_lkC "EvenSteps$Slope" true [(.lstore 9, 2, 9, 0, [], 0, 0), (.lconst 1, 1, 0, 0, [], 0, 1), (.lload_n 1, 1, 1, 0, [], 0, 0), (.lload_n 3, 1, 3, 0, [], 0, 0), (.lload 9, 2, 9, 0, [], 0, 0), (.lmul, 1, 0, 0, [], 0, 0), (.invokestatic 22, 3, 2, 1, [(0, 129)], 0, 0), (.lload 5, 2, 5, 0, [], 0, 0), (.invokestatic 22, 3, 2, 1, [(0, 129)], 0, 0), (.invokestatic 26, 3, 2, 1, [(0, 218)], 0, 0), (.lstore 11, 2, 11, 0, [], 0, 0), (.aload_n 0, 1, 0, 0, [], 0, 0), (.lload_n 1, 1, 1, 0, [], 0, 0), (.lload 11, 2, 11, 0, [], 0, 0), (.ldiv, 1, 0, 0, [], 0, 0), (.putfield 31, 3, 4, 1, [(6, 0)], 0, 0), (.aload_n 0, 1, 0, 0, [], 0, 0), (.lload_n 3, 1, 3, 0, [], 0, 0), (.lload 9, 2, 9, 0, [], 0, 0), (.lmul, 1, 0, 0, [], 0, 0), (.lload 11, 2, 11, 0, [], 0, 0), (.ldiv, 1, 0, 0, [], 0, 0), (.putfield 35, 3, 5, 1, [(6, 0)], 0, 0), (.aload_n 0, 1, 0, 0, [], 0, 0), (.lload 5, 2, 5, 0, [], 0, 0), (.lload 11, 2, 11, 0, [], 0, 0), (.ldiv, 1, 0, 0, [], 0, 0), (.putfield 38, 3, 6, 1, [(6, 0)], 0, 0), (.aload_n 0, 1, 0, 0, [], 0, 0), (.lload_n 3, 1, 3, 0, [], 0, 0), (.lconst 0, 1, 0, 0, [], 0, 0), (.lcmp, 1, 0, 0, [], 0, 0), (.ifCond .ne 9, 3, 3, 0, [], 0, 0), (.ldc2_w 41, 3, 0, 0, [], 0, 2), (.goto 11, 3, 4, 0, [], 0, 0)] := ⟨trivial, ⟨trivial, ⟨trivial, ⟨trivial, ⟨trivial, ⟨trivial, ⟨lk_96, ⟨trivial, ⟨lk_96, ⟨lk_97, ⟨trivial, ⟨trivial, ⟨trivial, ⟨trivial, ⟨trivial, ⟨lk_98, ⟨trivial, ⟨trivial, ⟨trivial, ⟨trivial, ⟨trivial, ⟨trivial, ⟨lk_99, ⟨trivial, ⟨trivial, ⟨trivial, ⟨trivial, ⟨lk_100, ⟨trivial, ⟨trivial, ⟨trivial, ⟨trivial, ⟨trivial, ⟨wd_288, ⟨trivial, trivial⟩⟩⟩⟩⟩⟩⟩⟩⟩⟩⟩⟩⟩⟩⟩⟩⟩⟩⟩⟩⟩⟩⟩⟩⟩⟩⟩⟩⟩⟩⟩⟩⟩⟩⟩
set_option maxRecDepth 100000 in
set_option maxHeartbeats 4000000 in
theorem n_X7_init_3 : en_lkC "EvenSteps$Slope" true [(.lload 7, 2, 7, 0, [], 0, 0), (.lload 9, 2, 9, 0, [], 0, 0), (.lload 9, 2, 9, 0, [], 0, 0), (.lmul, 1, 0, 0, [], 0, 0), (.ldiv, 1, 0, 0, [], 0, 0)] := ⟨trivial, ⟨trivial, ⟨trivial, ⟨trivial, ⟨trivial, trivial⟩⟩⟩⟩⟩
set_option maxRecDepth 100000 in
set_option maxHeartbeats 4000000 in
theorem n_X7_init_4 : en_lkC "EvenSteps$Slope" true [(.putfield 43, 3, 7, 1, [(6, 0)], 0, 0), (.aload_n 0, 1, 0, 0, [], 0, 0), (.lload_n 3, 1, 3, 0, [], 0, 0), (.lconst 0, 1, 0, 0, [], 0, 0), (.lcmp, 1, 0, 0, [], 0, 0), (.ifCond .ne 21, 3, 5, 0, [], 0, 0), (.aload_n 0, 1, 0, 0, [], 0, 0), (.getfield 31, 3, 4, 1, [(6, 0)], 0, 0), (.aload_n 0, 1, 0, 0, [], 0, 0), (.getfield 38, 3, 6, 1, [(6, 0)], 0, 0), (.aload_n 0, 1, 0, 0, [], 0, 0), (.getfield 9, 3, 0, 2, [(6, 0)], 0, 0), (.invokestatic 46, 3, 3, 0, [(0, 41)], 0, 0), (.goto 26, 3, 6, 0, [], 0, 0)] := ⟨lk_102, ⟨trivial, ⟨trivial, ⟨trivial, ⟨trivial, ⟨trivial, ⟨trivial, ⟨lk_103, ⟨trivial, ⟨lk_104, ⟨trivial, ⟨lk_105, ⟨lk_106, ⟨trivial, trivial⟩⟩⟩⟩⟩⟩⟩⟩⟩⟩⟩⟩⟩⟩
set_option maxRecDepth 100000 in
set_option maxHeartbeats 4000000 in
theorem n_X7_init_5 : en_lkC "EvenSteps$Slope" true [(.aload_n 0, 1, 0, 0, [], 0, 0), (.getfield 31, 3, 4, 1, [(6, 0)], 0, 0), (.aload_n 0, 1, 0, 0, [], 0, 0), (.getfield 35, 3, 5, 1, [(6, 0)], 0, 0), (.aload_n 0, 1, 0, 0, [], 0, 0), (.getfield 38, 3, 6, 1, [(6, 0)], 0, 0), (.aload_n 0, 1, 0, 0, [], 0, 0), (.getfield 43, 3, 7, 1, [(6, 0)], 0, 0), (.aload_n 0, 1, 0, 0, [], 0, 0), (.getfield 9, 3, 0, 2, [(6, 0)], 0, 0), (.invokestatic 50, 3, 5, 0, [(0, 42)], 0, 0)] := ⟨trivial, ⟨lk_103, ⟨trivial, ⟨lk_107, ⟨trivial, ⟨lk_104, ⟨trivial, ⟨lk_108, ⟨trivial, ⟨lk_105, ⟨lk_109, trivial⟩⟩⟩⟩⟩⟩⟩⟩⟩⟩⟩
set_option maxRecDepth 100000 in
set_option maxHeartbeats 4000000 in
theorem n_X7_init_6 : en_lkC "EvenSteps$Slope" true [(.putfield 54, 3, 1, 0, [(6, 0)], 0, 0), (.aload_n 0, 1, 0, 0, [], 0, 0), (.aload_n 0, 1, 0, 0, [], 0, 0), (.getfield 9, 3, 0, 2, [(6, 0)], 0, 0), (.aload_n 0, 1, 0, 0, [], 0, 0), (.getfield 54, 3, 1, 0, [(6, 0)], 0, 0), (.aload_n 0, 1, 0, 0, [], 0, 0), (.getfield 15, 3, 2, 2, [(6, 0)], 0, 0), (.invokestatic 58, 3, 3, 0, [(0, 43)], 0, 0), (.putfield 62, 3, 3, 0, [(6, 0)], 0, 0), (.return_, 1, 0, 0, [], 0, 0)] := ⟨lk_110, ⟨trivial, ⟨trivial, ⟨lk_105, ⟨trivial, ⟨lk_111, ⟨trivial, ⟨lk_112, ⟨lk_113, ⟨lk_114, ⟨trivial, trivial⟩⟩⟩⟩⟩⟩⟩⟩⟩⟩⟩
set_option maxRecDepth 100000 in
set_option maxHeartbeats 4000000 in
theorem n_X7_init : en_lkM (⟨"EvenSteps$Slope", "<init>", "(JJJJ)V"⟩, prog_9_method_1_code, 13, none, p_X7_init) := (List.forall_mem_cons.mpr ⟨n_X7_init_0, (List.forall_mem_cons.mpr ⟨n_X7_init_1, (List.forall_mem_cons.mpr ⟨n_X7_init_2, (List.forall_mem_cons.mpr ⟨n_X7_init_3, (List.forall_mem_cons.mpr ⟨n_X7_init_4, (List.forall_mem_cons.mpr ⟨n_X7_init_5, (List.forall_mem_cons.mpr ⟨n_X7_init_6, (fun _ h => absurd h List.not_mem_nil)⟩)⟩)⟩)⟩)⟩)⟩)⟩)
set_option maxRecDepth 100000 in
set_option maxHeartbeats 4000000 in
theorem k_X7_squareIn : en_ckM (⟨"EvenSteps$Slope", "squareIn", "(J)J"⟩, prog_9_method_2_code, 4, (some .long), p_X7_squareIn) = true := by decide +kernel
set_option maxRecDepth 100000 in
set_option maxHeartbeats 4000000 in
theorem n_X7_squareIn_0 : en_lkC "EvenSteps$Slope" false [(.ldc2_w 65, 3, 0, 0, [], 0, 7), (.lstore_n 2, 1, 2, 0, [], 0, 0)] := ⟨wd_278, ⟨trivial, trivial⟩⟩
set_option maxRecDepth 100000 in
set_option maxHeartbeats 4000000 in
theorem n_X7_squareIn_1 : en_lkC "EvenSteps$Slope" false [(.lload_n 2, 1, 2, 0, [], 0, 0), (.lconst 1, 1, 0, 0, [], 0, 1), (.lcmp, 1, 0, 0, [], 0, 0), (.ifCond .le 22, 3, 3, 0, [], 0, 0), (.lload_n 0, 1, 0, 0, [], 0, 0), (.lload_n 2, 1, 2, 0, [], 0, 0), (.lload_n 2, 1, 2, 0, [], 0, 0), (.lmul, 1, 0, 0, [], 0, 0), (.lrem, 1, 0, 0, [], 0, 0), (.lconst 0, 1, 0, 0, [], 0, 0), (.lcmp, 1, 0, 0, [], 0, 0), (.ifCond .ne 5, 3, 2, 0, [], 0, 0), (.lload_n 2, 1, 2, 0, [], 0, 0), (.lreturn, 1, 0, 0, [], 0, 0)] := ⟨trivial, ⟨trivial, ⟨trivial, ⟨trivial, ⟨trivial, ⟨trivial, ⟨trivial, ⟨trivial, ⟨trivial, ⟨trivial, ⟨trivial, ⟨trivial, ⟨trivial, ⟨trivial, trivial⟩⟩⟩⟩⟩⟩⟩⟩⟩⟩⟩⟩⟩⟩
set_option maxRecDepth 100000 in
set_option maxHeartbeats 4000000 in
theorem n_X7_squareIn_2 : en_lkC "EvenSteps$Slope" false [(.lload_n 2, 1, 2, 0, [], 0, 0), (.lconst 1, 1, 0, 0, [], 0, 1), (.lsub, 1, 0, 0, [], 0, 0), (.lstore_n 2, 1, 2, 0, [], 0, 0), (.goto (-22), 3, 1, 0, [], 0, 0)] := ⟨trivial, ⟨trivial, ⟨trivial, ⟨trivial, ⟨trivial, trivial⟩⟩⟩⟩⟩
set_option maxRecDepth 100000 in
set_option maxHeartbeats 4000000 in
theorem n_X7_squareIn_3 : en_lkC "EvenSteps$Slope" false [(.lconst 1, 1, 0, 0, [], 0, 1), (.lreturn, 1, 0, 0, [], 0, 0)] := ⟨trivial, ⟨trivial, trivial⟩⟩
set_option maxRecDepth 100000 in
set_option maxHeartbeats 4000000 in
theorem n_X7_squareIn : en_lkM (⟨"EvenSteps$Slope", "squareIn", "(J)J"⟩, prog_9_method_2_code, 4, (some .long), p_X7_squareIn) := (List.forall_mem_cons.mpr ⟨n_X7_squareIn_0, (List.forall_mem_cons.mpr ⟨n_X7_squareIn_1, (List.forall_mem_cons.mpr ⟨n_X7_squareIn_2, (List.forall_mem_cons.mpr ⟨n_X7_squareIn_3, (fun _ h => absurd h List.not_mem_nil)⟩)⟩)⟩)⟩)
set_option maxRecDepth 100000 in
set_option maxHeartbeats 4000000 in
theorem k_X7_findQuotients : en_ckM (⟨"EvenSteps$Slope", "findQuotients", "(JJ[I)I"⟩, prog_9_method_3_code, 14, (some .int), p_X7_findQuotients) = true := by decide +kernel
set_option maxRecDepth 100000 in
set_option maxHeartbeats 4000000 in
theorem n_X7_findQuotients_0 : en_lkC "EvenSteps$Slope" false [(.iconst 0, 1, 0, 0, [], 0, 0), (.istore 5, 2, 5, 0, [], 0, 0), (.lload_n 0, 1, 0, 0, [], 0, 0), (.lstore 6, 2, 6, 0, [], 0, 0), (.lload_n 2, 1, 2, 0, [], 0, 0), (.lstore 8, 2, 8, 0, [], 0, 0)] := ⟨trivial, ⟨trivial, ⟨trivial, ⟨trivial, ⟨trivial, ⟨trivial, trivial⟩⟩⟩⟩⟩⟩
set_option maxRecDepth 100000 in
set_option maxHeartbeats 4000000 in
theorem n_X7_findQuotients_1 : en_lkC "EvenSteps$Slope" false [(.iload 5, 2, 5, 0, [], 0, 0), (.aload 4, 2, 4, 0, [], 0, 0), (.arraylength, 1, 0, 0, [], 0, 0), (.if_icmp .ge 51, 3, 2, 0, [], 0, 0), (.lload 8, 2, 8, 0, [], 0, 0), (.lconst 0, 1, 0, 0, [], 0, 0), (.lcmp, 1, 0, 0, [], 0, 0), (.ifCond .le 44, 3, 2, 0, [], 0, 0), (.lload 6, 2, 6, 0, [], 0, 0), (.lload 8, 2, 8, 0, [], 0, 0), (.invokestatic 67, 3, 2, 1, [(0, 212)], 0, 0), (.lstore 10, 2, 10, 0, [], 0, 0), (.aload 4, 2, 4, 0, [], 0, 0), (.iload 5, 2, 5, 0, [], 0, 0), (.lload 10, 2, 10, 0, [], 0, 0), (.l2i, 1, 0, 0, [], 0, 0), (.iastore, 1, 0, 0, [], 0, 0), (.iinc 5 1, 3, 5, 0, [], 1, 0), (.lload 6, 2, 6, 0, [], 0, 0), (.lload 10, 2, 10, 0, [], 0, 0), (.lload 8, 2, 8, 0, [], 0, 0), (.lmul, 1, 0, 0, [], 0, 0), (.lsub, 1, 0, 0, [], 0, 0), (.lstore 12, 2, 12, 0, [], 0, 0), (.lload 8, 2, 8, 0, [], 0, 0), (.lstore 6, 2, 6, 0, [], 0, 0), (.lload 12, 2, 12, 0, [], 0, 0), (.lstore 8, 2, 8, 0, [], 0, 0), (.goto (-53), 3, 1, 0, [], 0, 0)] := ⟨trivial, ⟨trivial, ⟨trivial, ⟨trivial, ⟨trivial, ⟨trivial, ⟨trivial, ⟨trivial, ⟨trivial, ⟨trivial, ⟨lk_116, ⟨trivial, ⟨trivial, ⟨trivial, ⟨trivial, ⟨trivial, ⟨trivial, ⟨trivial, ⟨trivial, ⟨trivial, ⟨trivial, ⟨trivial, ⟨trivial, ⟨trivial, ⟨trivial, ⟨trivial, ⟨trivial, ⟨trivial, ⟨trivial, trivial⟩⟩⟩⟩⟩⟩⟩⟩⟩⟩⟩⟩⟩⟩⟩⟩⟩⟩⟩⟩⟩⟩⟩⟩⟩⟩⟩⟩⟩
set_option maxRecDepth 100000 in
set_option maxHeartbeats 4000000 in
theorem n_X7_findQuotients_2 : en_lkC "EvenSteps$Slope" false [(.iload 5, 2, 5, 0, [], 0, 0), (.ireturn, 1, 0, 0, [], 0, 0)] := ⟨trivial, ⟨trivial, trivial⟩⟩
set_option maxRecDepth 100000 in
set_option maxHeartbeats 4000000 in
theorem n_X7_findQuotients : en_lkM (⟨"EvenSteps$Slope", "findQuotients", "(JJ[I)I"⟩, prog_9_method_3_code, 14, (some .int), p_X7_findQuotients) := (List.forall_mem_cons.mpr ⟨n_X7_findQuotients_0, (List.forall_mem_cons.mpr ⟨n_X7_findQuotients_1, (List.forall_mem_cons.mpr ⟨n_X7_findQuotients_2, (fun _ h => absurd h List.not_mem_nil)⟩)⟩)⟩)
set_option maxRecDepth 100000 in
set_option maxHeartbeats 4000000 in
theorem k_X7_findRootQuotients : en_ckM (⟨"EvenSteps$Slope", "findRootQuotients", "(JJJJ[I)I"⟩, prog_9_method_4_code, 20, (some .int), p_X7_findRootQuotients) = true := by decide +kernel
set_option maxRecDepth 100000 in
set_option maxHeartbeats 4000000 in
theorem n_X7_findRootQuotients_0 : en_lkC "EvenSteps$Slope" false [(.lload_n 2, 1, 2, 0, [], 0, 0), (.lload_n 2, 1, 2, 0, [], 0, 0), (.lmul, 1, 0, 0, [], 0, 0), (.lload 6, 2, 6, 0, [], 0, 0), (.lmul, 1, 0, 0, [], 0, 0), (.lload 4, 2, 4, 0, [], 0, 0), (.lmul, 1, 0, 0, [], 0, 0), (.lload 4, 2, 4, 0, [], 0, 0), (.lmul, 1, 0, 0, [], 0, 0), (.lstore 9, 2, 9, 0, [], 0, 0), (.lload 9, 2, 9, 0, [], 0, 0), (.invokestatic 70, 3, 1, 1, [(0, 127)], 0, 0), (.lstore 11, 2, 11, 0, [], 0, 0), (.lload_n 2, 1, 2, 0, [], 0, 0), (.lconst 0, 1, 0, 0, [], 0, 0), (.lcmp, 1, 0, 0, [], 0, 0), (.ifCond .le 10, 3, 1, 0, [], 0, 0), (.lload_n 0, 1, 0, 0, [], 0, 0), (.lload 4, 2, 4, 0, [], 0, 0), (.lmul, 1, 0, 0, [], 0, 0), (.goto 8, 3, 2, 0, [], 0, 0)] := ⟨trivial, ⟨trivial, ⟨trivial, ⟨trivial, ⟨trivial, ⟨trivial, ⟨trivial, ⟨trivial, ⟨trivial, ⟨trivial, ⟨trivial, ⟨lk_117, ⟨trivial, ⟨trivial, ⟨trivial, ⟨trivial, ⟨trivial, ⟨trivial, ⟨trivial, ⟨trivial, ⟨trivial, trivial⟩⟩⟩⟩⟩⟩⟩⟩⟩⟩⟩⟩⟩⟩⟩⟩⟩⟩⟩⟩⟩
set_option maxRecDepth 100000 in
set_option maxHeartbeats 4000000 in
theorem n_X7_findRootQuotients_1 : en_lkC "EvenSteps$Slope" false [(.lload_n 0, 1, 0, 0, [], 0, 0), (.lneg, 1, 0, 0, [], 0, 0), (.lload 4, 2, 4, 0, [], 0, 0), (.lmul, 1, 0, 0, [], 0, 0)] := ⟨trivial, ⟨trivial, ⟨trivial, ⟨trivial, trivial⟩⟩⟩⟩
set_option maxRecDepth 100000 in
set_option maxHeartbeats 4000000 in
theorem n_X7_findRootQuotients_2 : en_lkC "EvenSteps$Slope" false [(.lstore 13, 2, 13, 0, [], 0, 0), (.lload_n 2, 1, 2, 0, [], 0, 0), (.lconst 0, 1, 0, 0, [], 0, 0), (.lcmp, 1, 0, 0, [], 0, 0), (.ifCond .le 11, 3, 3, 0, [], 0, 0), (.lload 4, 2, 4, 0, [], 0, 0), (.lload 4, 2, 4, 0, [], 0, 0), (.lmul, 1, 0, 0, [], 0, 0), (.goto 9, 3, 4, 0, [], 0, 0)] := ⟨trivial, ⟨trivial, ⟨trivial, ⟨trivial, ⟨trivial, ⟨trivial, ⟨trivial, ⟨trivial, ⟨trivial, trivial⟩⟩⟩⟩⟩⟩⟩⟩⟩
set_option maxRecDepth 100000 in
set_option maxHeartbeats 4000000 in
theorem n_X7_findRootQuotients_3 : en_lkC "EvenSteps$Slope" false [(.lload 4, 2, 4, 0, [], 0, 0), (.lneg, 1, 0, 0, [], 0, 0), (.lload 4, 2, 4, 0, [], 0, 0), (.lmul, 1, 0, 0, [], 0, 0)] := ⟨trivial, ⟨trivial, ⟨trivial, ⟨trivial, trivial⟩⟩⟩⟩
set_option maxRecDepth 100000 in
set_option maxHeartbeats 4000000 in
theorem n_X7_findRootQuotients_4 : en_lkC "EvenSteps$Slope" false [(.lstore 15, 2, 15, 0, [], 0, 0), (.iconst 0, 1, 0, 0, [], 0, 0), (.istore 17, 2, 17, 0, [], 0, 0)] := ⟨trivial, ⟨trivial, ⟨trivial, trivial⟩⟩⟩
set_option maxRecDepth 100000 in
set_option maxHeartbeats 4000000 in
theorem n_X7_findRootQuotients_5 : en_lkC "EvenSteps$Slope" false [(.iload 17, 2, 17, 0, [], 0, 0), (.aload 8, 2, 8, 0, [], 0, 0), (.arraylength, 1, 0, 0, [], 0, 0), (.if_icmp .ge 83, 3, 8, 0, [], 0, 0), (.lload 15, 2, 15, 0, [], 0, 0), (.lconst 0, 1, 0, 0, [], 0, 0), (.lcmp, 1, 0, 0, [], 0, 0), (.ifCond .eq 76, 3, 8, 0, [], 0, 0), (.lload 15, 2, 15, 0, [], 0, 0), (.lconst 0, 1, 0, 0, [], 0, 0), (.lcmp, 1, 0, 0, [], 0, 0), (.ifCond .le 16, 3, 6, 0, [], 0, 0), (.lload 13, 2, 13, 0, [], 0, 0), (.lload 11, 2, 11, 0, [], 0, 0), (.ladd, 1, 0, 0, [], 0, 0), (.lload 15, 2, 15, 0, [], 0, 0), (.invokestatic 67, 3, 2, 1, [(0, 212)], 0, 0), (.goto 17, 3, 7, 0, [], 0, 0)] := ⟨trivial, ⟨trivial, ⟨trivial, ⟨trivial, ⟨trivial, ⟨trivial, ⟨trivial, ⟨trivial, ⟨trivial, ⟨trivial, ⟨trivial, ⟨trivial, ⟨trivial, ⟨trivial, ⟨trivial, ⟨trivial, ⟨lk_116, ⟨trivial, trivial⟩⟩⟩⟩⟩⟩⟩⟩⟩⟩⟩⟩⟩⟩⟩⟩⟩⟩
set_option maxRecDepth 100000 in
set_option maxHeartbeats 4000000 in
theorem n_X7_findRootQuotients_6 : en_lkC "EvenSteps$Slope" false [(.lload 13, 2, 13, 0, [], 0, 0), (.lneg, 1, 0, 0, [], 0, 0), (.lload 11, 2, 11, 0, [], 0, 0), (.lsub, 1, 0, 0, [], 0, 0), (.lconst 1, 1, 0, 0, [], 0, 1), (.lsub, 1, 0, 0, [], 0, 0), (.lload 15, 2, 15, 0, [], 0, 0), (.lneg, 1, 0, 0, [], 0, 0), (.invokestatic 67, 3, 2, 1, [(0, 212)], 0, 0)] := ⟨trivial, ⟨trivial, ⟨trivial, ⟨trivial, ⟨trivial, ⟨trivial, ⟨trivial, ⟨trivial, ⟨lk_116, trivial⟩⟩⟩⟩⟩⟩⟩⟩⟩
set_option maxRecDepth 100000 in
set_option maxHeartbeats 4000000 in
theorem n_X7_findRootQuotients_7 : en_lkC "EvenSteps$Slope" false [(.lstore 18, 2, 18, 0, [], 0, 0), (.aload 8, 2, 8, 0, [], 0, 0), (.iload 17, 2, 17, 0, [], 0, 0), (.lload 18, 2, 18, 0, [], 0, 0), (.l2i, 1, 0, 0, [], 0, 0), (.iastore, 1, 0, 0, [], 0, 0), (.iinc 17 1, 3, 17, 0, [], 1, 0), (.lload 18, 2, 18, 0, [], 0, 0), (.lload 15, 2, 15, 0, [], 0, 0), (.lmul, 1, 0, 0, [], 0, 0), (.lload 13, 2, 13, 0, [], 0, 0), (.lsub, 1, 0, 0, [], 0, 0), (.lstore 13, 2, 13, 0, [], 0, 0), (.lload 9, 2, 9, 0, [], 0, 0), (.lload 13, 2, 13, 0, [], 0, 0), (.lload 13, 2, 13, 0, [], 0, 0), (.lmul, 1, 0, 0, [], 0, 0), (.lsub, 1, 0, 0, [], 0, 0), (.lload 15, 2, 15, 0, [], 0, 0), (.ldiv, 1, 0, 0, [], 0, 0), (.lstore 15, 2, 15, 0, [], 0, 0), (.goto (-85), 3, 5, 0, [], 0, 0)] := ⟨trivial, ⟨trivial, ⟨trivial, ⟨trivial, ⟨trivial, ⟨trivial, ⟨trivial, ⟨trivial, ⟨trivial, ⟨trivial, ⟨trivial, ⟨trivial, ⟨trivial, ⟨trivial, ⟨trivial, ⟨trivial, ⟨trivial, ⟨trivial, ⟨trivial, ⟨trivial, ⟨trivial, ⟨trivial, trivial⟩⟩⟩⟩⟩⟩⟩⟩⟩⟩⟩⟩⟩⟩⟩⟩⟩⟩⟩⟩⟩⟩
set_option maxRecDepth 100000 in
set_option maxHeartbeats 4000000 in
theorem n_X7_findRootQuotients_8 : en_lkC "EvenSteps$Slope" false [(.iload 17, 2, 17, 0, [], 0, 0), (.ireturn, 1, 0, 0, [], 0, 0)] := ⟨trivial, ⟨trivial, trivial⟩⟩
set_option maxRecDepth 100000 in
set_option maxHeartbeats 4000000 in
theorem n_X7_findRootQuotients : en_lkM (⟨"EvenSteps$Slope", "findRootQuotients", "(JJJJ[I)I"⟩, prog_9_method_4_code, 20, (some .int), p_X7_findRootQuotients) := (List.forall_mem_cons.mpr ⟨n_X7_findRootQuotients_0, (List.forall_mem_cons.mpr ⟨n_X7_findRootQuotients_1, (List.forall_mem_cons.mpr ⟨n_X7_findRootQuotients_2, (List.forall_mem_cons.mpr ⟨n_X7_findRootQuotients_3, (List.forall_mem_cons.mpr ⟨n_X7_findRootQuotients_4, (List.forall_mem_cons.mpr ⟨n_X7_findRootQuotients_5, (List.forall_mem_cons.mpr ⟨n_X7_findRootQuotients_6, (List.forall_mem_cons.mpr ⟨n_X7_findRootQuotients_7, (List.forall_mem_cons.mpr ⟨n_X7_findRootQuotients_8, (fun _ h => absurd h List.not_mem_nil)⟩)⟩)⟩)⟩)⟩)⟩)⟩)⟩)⟩)
set_option maxRecDepth 100000 in
set_option maxHeartbeats 4000000 in
theorem k_X7_findLines : en_ckM (⟨"EvenSteps$Slope", "findLines", "([II[I)I"⟩, prog_9_method_5_code, 11, (some .int), p_X7_findLines) = true := by decide +kernel
set_option maxRecDepth 100000 in
set_option maxHeartbeats 4000000 in
theorem n_X7_findLines_0 : en_lkC "EvenSteps$Slope" false [(.lconst 0, 1, 0, 0, [], 0, 0), (.lstore_n 3, 1, 3, 0, [], 0, 0), (.lconst 1, 1, 0, 0, [], 0, 1), (.lstore 5, 2, 5, 0, [], 0, 0), (.aload_n 2, 1, 2, 0, [], 0, 0), (.iconst 0, 1, 0, 0, [], 0, 0), (.iconst 1, 1, 0, 0, [], 1, 0), (.iastore, 1, 0, 0, [], 0, 0), (.iconst 1, 1, 0, 0, [], 1, 0), (.istore 7, 2, 7, 0, [], 0, 0), (.iconst 1, 1, 0, 0, [], 1, 0), (.istore 8, 2, 8, 0, [], 0, 0)] := ⟨trivial, ⟨trivial, ⟨trivial, ⟨trivial, ⟨trivial, ⟨trivial, ⟨trivial, ⟨trivial, ⟨trivial, ⟨trivial, ⟨trivial, ⟨trivial, trivial⟩⟩⟩⟩⟩⟩⟩⟩⟩⟩⟩⟩
set_option maxRecDepth 100000 in
set_option maxHeartbeats 4000000 in
theorem n_X7_findLines_1 : en_lkC "EvenSteps$Slope" false [(.iload 8, 2, 8, 0, [], 0, 0), (.iload_n 1, 1, 1, 0, [], 0, 0), (.if_icmp .ge 64, 3, 4, 0, [], 0, 0), (.iload 7, 2, 7, 0, [], 0, 0), (.aload_n 2, 1, 2, 0, [], 0, 0), (.arraylength, 1, 0, 0, [], 0, 0), (.if_icmp .ge 57, 3, 4, 0, [], 0, 0), (.aload_n 0, 1, 0, 0, [], 0, 0), (.iload 8, 2, 8, 0, [], 0, 0), (.iaload, 1, 0, 0, [], 0, 0), (.i2l, 1, 0, 0, [], 0, 0), (.lload 5, 2, 5, 0, [], 0, 0), (.lmul, 1, 0, 0, [], 0, 0), (.lload_n 3, 1, 3, 0, [], 0, 0), (.ladd, 1, 0, 0, [], 0, 0), (.lstore 9, 2, 9, 0, [], 0, 0), (.lload 5, 2, 5, 0, [], 0, 0), (.lstore_n 3, 1, 3, 0, [], 0, 0), (.lload 9, 2, 9, 0, [], 0, 0), (.lstore 5, 2, 5, 0, [], 0, 0), (.lload 5, 2, 5, 0, [], 0, 0), (.ldc2_w 73, 3, 0, 0, [], 0, 10000), (.lcmp, 1, 0, 0, [], 0, 0), (.ifCond .le 6, 3, 2, 0, [], 0, 0), (.iload 7, 2, 7, 0, [], 0, 0), (.ireturn, 1, 0, 0, [], 0, 0)] := ⟨trivial, ⟨trivial, ⟨trivial, ⟨trivial, ⟨trivial, ⟨trivial, ⟨trivial, ⟨trivial, ⟨trivial, ⟨trivial, ⟨trivial, ⟨trivial, ⟨trivial, ⟨trivial, ⟨trivial, ⟨trivial, ⟨trivial, ⟨trivial, ⟨trivial, ⟨trivial, ⟨trivial, ⟨wd_302, ⟨trivial, ⟨trivial, ⟨trivial, ⟨trivial, trivial⟩⟩⟩⟩⟩⟩⟩⟩⟩⟩⟩⟩⟩⟩⟩⟩⟩⟩⟩⟩⟩⟩⟩⟩⟩⟩
set_option maxRecDepth 100000 in
set_option maxHeartbeats 4000000 in
theorem n_X7_findLines_2 : en_lkC "EvenSteps$Slope" false [(.lload 5, 2, 5, 0, [], 0, 0), (.lconst 1, 1, 0, 0, [], 0, 1), (.lcmp, 1, 0, 0, [], 0, 0), (.ifCond .le 13, 3, 3, 0, [], 0, 0), (.aload_n 2, 1, 2, 0, [], 0, 0), (.iload 7, 2, 7, 0, [], 0, 0), (.lload 5, 2, 5, 0, [], 0, 0), (.l2i, 1, 0, 0, [], 0, 0), (.iastore, 1, 0, 0, [], 0, 0), (.iinc 7 1, 3, 7, 0, [], 1, 0)] := ⟨trivial, ⟨trivial, ⟨trivial, ⟨trivial, ⟨trivial, ⟨trivial, ⟨trivial, ⟨trivial, ⟨trivial, ⟨trivial, trivial⟩⟩⟩⟩⟩⟩⟩⟩⟩⟩
set_option maxRecDepth 100000 in
set_option maxHeartbeats 4000000 in
theorem n_X7_findLines_3 : en_lkC "EvenSteps$Slope" false [(.iinc 8 1, 3, 8, 0, [], 1, 0), (.goto (-64), 3, 1, 0, [], 0, 0)] := ⟨trivial, ⟨trivial, trivial⟩⟩
set_option maxRecDepth 100000 in
set_option maxHeartbeats 4000000 in
theorem n_X7_findLines_4 : en_lkC "EvenSteps$Slope" false [(.iload 7, 2, 7, 0, [], 0, 0), (.ireturn, 1, 0, 0, [], 0, 0)] := ⟨trivial, ⟨trivial, trivial⟩⟩
set_option maxRecDepth 100000 in
set_option maxHeartbeats 4000000 in
theorem n_X7_findLines : en_lkM (⟨"EvenSteps$Slope", "findLines", "([II[I)I"⟩, prog_9_method_5_code, 11, (some .int), p_X7_findLines) := (List.forall_mem_cons.mpr ⟨n_X7_findLines_0, (List.forall_mem_cons.mpr ⟨n_X7_findLines_1, (List.forall_mem_cons.mpr ⟨n_X7_findLines_2, (List.forall_mem_cons.mpr ⟨n_X7_findLines_3, (List.forall_mem_cons.mpr ⟨n_X7_findLines_4, (fun _ h => absurd h List.not_mem_nil)⟩)⟩)⟩)⟩)⟩)
set_option maxRecDepth 100000 in
set_option maxHeartbeats 4000000 in
theorem k_X7_wholeOf : en_ckM (⟨"EvenSteps$Slope", "wholeOf", "(JJJ)J"⟩, prog_9_method_6_code, 15, (some .long), p_X7_wholeOf) = true := by decide +kernel
set_option maxRecDepth 100000 in
set_option maxHeartbeats 4000000 in
theorem n_X7_wholeOf_0 : en_lkC "EvenSteps$Slope" false [(.lload 5, 2, 5, 0, [], 0, 0), (.lload_n 1, 1, 1, 0, [], 0, 0), (.lmul, 1, 0, 0, [], 0, 0), (.aload_n 0, 1, 0, 0, [], 0, 0), (.getfield 35, 3, 5, 1, [(6, 0)], 0, 0), (.lmul, 1, 0, 0, [], 0, 0), (.lstore 7, 2, 7, 0, [], 0, 0), (.lload 7, 2, 7, 0, [], 0, 0), (.lload 7, 2, 7, 0, [], 0, 0), (.lmul, 1, 0, 0, [], 0, 0), (.aload_n 0, 1, 0, 0, [], 0, 0), (.getfield 43, 3, 7, 1, [(6, 0)], 0, 0), (.lmul, 1, 0, 0, [], 0, 0), (.invokestatic 70, 3, 1, 1, [(0, 127)], 0, 0), (.lstore 9, 2, 9, 0, [], 0, 0), (.lload 5, 2, 5, 0, [], 0, 0), (.lload_n 1, 1, 1, 0, [], 0, 0), (.lmul, 1, 0, 0, [], 0, 0), (.aload_n 0, 1, 0, 0, [], 0, 0), (.getfield 31, 3, 4, 1, [(6, 0)], 0, 0), (.lmul, 1, 0, 0, [], 0, 0), (.lload_n 3, 1, 3, 0, [], 0, 0), (.aload_n 0, 1, 0, 0, [], 0, 0), (.getfield 38, 3, 6, 1, [(6, 0)], 0, 0), (.lmul, 1, 0, 0, [], 0, 0), (.ladd, 1, 0, 0, [], 0, 0), (.lload 7, 2, 7, 0, [], 0, 0), (.lconst 0, 1, 0, 0, [], 0, 0), (.lcmp, 1, 0, 0, [], 0, 0), (.ifCond .ge 11, 3, 1, 0, [], 0, 0), (.lload 9, 2, 9, 0, [], 0, 0), (.lneg, 1, 0, 0, [], 0, 0), (.lconst 1, 1, 0, 0, [], 0, 1), (.lsub, 1, 0, 0, [], 0, 0), (.goto 5, 3, 2, 0, [], 0, 0)] := ⟨trivial, ⟨trivial, ⟨trivial, ⟨trivial, ⟨lk_119, ⟨trivial, ⟨trivial, ⟨trivial, ⟨trivial, ⟨trivial, ⟨trivial, ⟨lk_120, ⟨trivial, ⟨lk_117, ⟨trivial, ⟨trivial, ⟨trivial, ⟨trivial, ⟨trivial, ⟨lk_121, ⟨trivial, ⟨trivial, ⟨trivial, ⟨lk_122, ⟨trivial, ⟨trivial, ⟨trivial, ⟨trivial, ⟨trivial, ⟨trivial, ⟨trivial, ⟨trivial, ⟨trivial, ⟨trivial, ⟨trivial, trivial⟩⟩⟩⟩⟩⟩⟩⟩⟩⟩⟩⟩⟩⟩⟩⟩⟩⟩⟩⟩⟩⟩⟩⟩⟩⟩⟩⟩⟩⟩⟩⟩⟩⟩⟩
set_option maxRecDepth 100000 in
set_option maxHeartbeats 4000000 in
theorem n_X7_wholeOf_1 : en_lkC "EvenSteps$Slope" false [(.lload 9, 2, 9, 0, [], 0, 0)] := ⟨trivial, trivial⟩
set_option maxRecDepth 100000 in
set_option maxHeartbeats 4000000 in
theorem n_X7_wholeOf_2 : en_lkC "EvenSteps$Slope" false [(.ladd, 1, 0, 0, [], 0, 0), (.lstore 11, 2, 11, 0, [], 0, 0), (.aload_n 0, 1, 0, 0, [], 0, 0), (.getfield 38, 3, 6, 1, [(6, 0)], 0, 0), (.lload 5, 2, 5, 0, [], 0, 0), (.lmul, 1, 0, 0, [], 0, 0), (.lstore 13, 2, 13, 0, [], 0, 0), (.lload 13, 2, 13, 0, [], 0, 0), (.lconst 1, 1, 0, 0, [], 0, 1), (.lcmp, 1, 0, 0, [], 0, 0), (.ifCond .ge 7, 3, 3, 0, [], 0, 0), (.lconst 0, 1, 0, 0, [], 0, 0), (.goto 10, 3, 4, 0, [], 0, 0)] := ⟨trivial, ⟨trivial, ⟨trivial, ⟨lk_122, ⟨trivial, ⟨trivial, ⟨trivial, ⟨trivial, ⟨trivial, ⟨trivial, ⟨trivial, ⟨trivial, ⟨trivial, trivial⟩⟩⟩⟩⟩⟩⟩⟩⟩⟩⟩⟩⟩
set_option maxRecDepth 100000 in
set_option maxHeartbeats 4000000 in
theorem n_X7_wholeOf_3 : en_lkC "EvenSteps$Slope" false [(.lload 11, 2, 11, 0, [], 0, 0), (.lload 13, 2, 13, 0, [], 0, 0), (.invokestatic 67, 3, 2, 1, [(0, 212)], 0, 0)] := ⟨trivial, ⟨trivial, ⟨lk_116, trivial⟩⟩⟩
set_option maxRecDepth 100000 in
set_option maxHeartbeats 4000000 in
theorem n_X7_wholeOf_4 : en_lkC "EvenSteps$Slope" false [(.lreturn, 1, 0, 0, [], 0, 0)] := ⟨trivial, trivial⟩
set_option maxRecDepth 100000 in
set_option maxHeartbeats 4000000 in
theorem n_X7_wholeOf : en_lkM (⟨"EvenSteps$Slope", "wholeOf", "(JJJ)J"⟩, prog_9_method_6_code, 15, (some .long), p_X7_wholeOf) := (List.forall_mem_cons.mpr ⟨n_X7_wholeOf_0, (List.forall_mem_cons.mpr ⟨n_X7_wholeOf_1, (List.forall_mem_cons.mpr ⟨n_X7_wholeOf_2, (List.forall_mem_cons.mpr ⟨n_X7_wholeOf_3, (List.forall_mem_cons.mpr ⟨n_X7_wholeOf_4, (fun _ h => absurd h List.not_mem_nil)⟩)⟩)⟩)⟩)⟩)
set_option maxRecDepth 100000 in
set_option maxHeartbeats 4000000 in
theorem k_X7_signOfSum : en_ckM (⟨"EvenSteps$Slope", "signOfSum", "(JJ)I"⟩, prog_9_method_7_code, 5, (some .int), p_X7_signOfSum) = true := by decide +kernel
set_option maxRecDepth 100000 in
set_option maxHeartbeats 4000000 in
theorem n_X7_signOfSum_0 : en_lkC "EvenSteps$Slope" false [(.lload_n 1, 1, 1, 0, [], 0, 0), (.aload_n 0, 1, 0, 0, [], 0, 0), (.getfield 38, 3, 6, 1, [(6, 0)], 0, 0), (.lmul, 1, 0, 0, [], 0, 0), (.lload_n 3, 1, 3, 0, [], 0, 0), (.aload_n 0, 1, 0, 0, [], 0, 0), (.getfield 31, 3, 4, 1, [(6, 0)], 0, 0), (.lmul, 1, 0, 0, [], 0, 0), (.ladd, 1, 0, 0, [], 0, 0), (.lload_n 3, 1, 3, 0, [], 0, 0), (.aload_n 0, 1, 0, 0, [], 0, 0), (.getfield 35, 3, 5, 1, [(6, 0)], 0, 0), (.lmul, 1, 0, 0, [], 0, 0), (.aload_n 0, 1, 0, 0, [], 0, 0), (.getfield 43, 3, 7, 1, [(6, 0)], 0, 0), (.invokestatic 75, 3, 3, 0, [(0, 128)], 0, 0), (.ireturn, 1, 0, 0, [], 0, 0)] := ⟨trivial, ⟨trivial, ⟨lk_122, ⟨trivial, ⟨trivial, ⟨trivial, ⟨lk_121, ⟨trivial, ⟨trivial, ⟨trivial, ⟨trivial, ⟨lk_119, ⟨trivial, ⟨trivial, ⟨lk_120, ⟨lk_123, ⟨trivial, trivial⟩⟩⟩⟩⟩⟩⟩⟩⟩⟩⟩⟩⟩⟩⟩⟩⟩
set_option maxRecDepth 100000 in
set_option maxHeartbeats 4000000 in
theorem n_X7_signOfSum : en_lkM (⟨"EvenSteps$Slope", "signOfSum", "(JJ)I"⟩, prog_9_method_7_code, 5, (some .int), p_X7_signOfSum) := (List.forall_mem_cons.mpr ⟨n_X7_signOfSum_0, (fun _ h => absurd h List.not_mem_nil)⟩)
set_option maxRecDepth 100000 in
set_option maxHeartbeats 4000000 in
theorem k_X7_sharesWith : en_ckM (⟨"EvenSteps$Slope", "sharesWith", "(LEvenSteps$Slope;)Z"⟩, prog_9_method_8_code, 6, (some .boolean), p_X7_sharesWith) = true := by decide +kernel
set_option maxRecDepth 100000 in
set_option maxHeartbeats 4000000 in
theorem n_X7_sharesWith_0 : en_lkC "EvenSteps$Slope" false [(.aload_n 0, 1, 0, 0, [], 0, 0), (.getfield 35, 3, 5, 1, [(6, 0)], 0, 0), (.lconst 0, 1, 0, 0, [], 0, 0), (.lcmp, 1, 0, 0, [], 0, 0), (.ifCond .eq 24, 3, 1, 0, [], 0, 0), (.aload_n 1, 1, 1, 0, [], 0, 0), (.getfield 35, 3, 5, 1, [(6, 0)], 0, 0), (.lconst 0, 1, 0, 0, [], 0, 0), (.lcmp, 1, 0, 0, [], 0, 0), (.ifCond .eq 15, 3, 1, 0, [], 0, 0), (.aload_n 0, 1, 0, 0, [], 0, 0), (.getfield 43, 3, 7, 1, [(6, 0)], 0, 0), (.aload_n 1, 1, 1, 0, [], 0, 0), (.getfield 43, 3, 7, 1, [(6, 0)], 0, 0), (.lcmp, 1, 0, 0, [], 0, 0), (.ifCond .eq 5, 3, 2, 0, [], 0, 0)] := ⟨trivial, ⟨lk_119, ⟨trivial, ⟨trivial, ⟨trivial, ⟨trivial, ⟨lk_119, ⟨trivial, ⟨trivial, ⟨trivial, ⟨trivial, ⟨lk_120, ⟨trivial, ⟨lk_120, ⟨trivial, ⟨trivial, trivial⟩⟩⟩⟩⟩⟩⟩⟩⟩⟩⟩⟩⟩⟩⟩⟩
set_option maxRecDepth 100000 in
set_option maxHeartbeats 4000000 in
theorem n_X7_sharesWith_1 : en_lkC "EvenSteps$Slope" false [(.iconst 0, 1, 0, 0, [], 0, 0), (.ireturn, 1, 0, 3, [], 0, 0)] := ⟨trivial, ⟨trivial, trivial⟩⟩
set_option maxRecDepth 100000 in
set_option maxHeartbeats 4000000 in
theorem n_X7_sharesWith_2 : en_lkC "EvenSteps$Slope" false [(.aload_n 0, 1, 0, 0, [], 0, 0), (.getfield 31, 3, 4, 1, [(6, 0)], 0, 0), (.aload_n 0, 1, 0, 0, [], 0, 0), (.getfield 38, 3, 6, 1, [(6, 0)], 0, 0), (.lsub, 1, 0, 0, [], 0, 0), (.lstore_n 2, 1, 2, 0, [], 0, 0), (.aload_n 1, 1, 1, 0, [], 0, 0), (.getfield 31, 3, 4, 1, [(6, 0)], 0, 0), (.aload_n 1, 1, 1, 0, [], 0, 0), (.getfield 38, 3, 6, 1, [(6, 0)], 0, 0), (.lsub, 1, 0, 0, [], 0, 0), (.lstore 4, 2, 4, 0, [], 0, 0), (.lload_n 2, 1, 2, 0, [], 0, 0), (.lload 4, 2, 4, 0, [], 0, 0), (.lmul, 1, 0, 0, [], 0, 0), (.aload_n 0, 1, 0, 0, [], 0, 0), (.getfield 35, 3, 5, 1, [(6, 0)], 0, 0), (.aload_n 1, 1, 1, 0, [], 0, 0), (.getfield 35, 3, 5, 1, [(6, 0)], 0, 0), (.lmul, 1, 0, 0, [], 0, 0), (.aload_n 0, 1, 0, 0, [], 0, 0), (.getfield 43, 3, 7, 1, [(6, 0)], 0, 0), (.lmul, 1, 0, 0, [], 0, 0), (.ladd, 1, 0, 0, [], 0, 0), (.aload_n 0, 1, 0, 0, [], 0, 0), (.getfield 38, 3, 6, 1, [(6, 0)], 0, 0), (.aload_n 1, 1, 1, 0, [], 0, 0), (.getfield 38, 3, 6, 1, [(6, 0)], 0, 0), (.lmul, 1, 0, 0, [], 0, 0), (.lcmp, 1, 0, 0, [], 0, 0), (.ifCond .ne 26, 3, 3, 0, [], 0, 0), (.lload_n 2, 1, 2, 0, [], 0, 0), (.aload_n 1, 1, 1, 0, [], 0, 0), (.getfield 35, 3, 5, 1, [(6, 0)], 0, 0), (.lmul, 1, 0, 0, [], 0, 0), (.lload 4, 2, 4, 0, [], 0, 0), (.aload_n 0, 1, 0, 0, [], 0, 0), (.getfield 35, 3, 5, 1, [(6, 0)], 0, 0), (.lmul, 1, 0, 0, [], 0, 0), (.ladd, 1, 0, 0, [], 0, 0), (.lconst 0, 1, 0, 0, [], 0, 0), (.lcmp, 1, 0, 0, [], 0, 0), (.ifCond .ne 7, 3, 3, 0, [], 0, 0), (.iconst 1, 1, 0, 0, [], 1, 0), (.goto 4, 3, 4, 0, [], 0, 0)] := ⟨trivial, ⟨lk_121, ⟨trivial, ⟨lk_122, ⟨trivial, ⟨trivial, ⟨trivial, ⟨lk_121, ⟨trivial, ⟨lk_122, ⟨trivial, ⟨trivial, ⟨trivial, ⟨trivial, ⟨trivial, ⟨trivial, ⟨lk_119, ⟨trivial, ⟨lk_119, ⟨trivial, ⟨trivial, ⟨lk_120, ⟨trivial, ⟨trivial, ⟨trivial, ⟨lk_122, ⟨trivial, ⟨lk_122, ⟨trivial, ⟨trivial, ⟨trivial, ⟨trivial, ⟨trivial, ⟨lk_119, ⟨trivial, ⟨trivial, ⟨trivial, ⟨lk_119, ⟨trivial, ⟨trivial, ⟨trivial, ⟨trivial, ⟨trivial, ⟨trivial, ⟨trivial, trivial⟩⟩⟩⟩⟩⟩⟩⟩⟩⟩⟩⟩⟩⟩⟩⟩⟩⟩⟩⟩⟩⟩⟩⟩⟩⟩⟩⟩⟩⟩⟩⟩⟩⟩⟩⟩⟩⟩⟩⟩⟩⟩⟩⟩⟩
set_option maxRecDepth 100000 in
set_option maxHeartbeats 4000000 in
theorem n_X7_sharesWith_3 : en_lkC "EvenSteps$Slope" false [(.iconst 0, 1, 0, 0, [], 0, 0)] := ⟨trivial, trivial⟩
set_option maxRecDepth 100000 in
set_option maxHeartbeats 4000000 in
theorem n_X7_sharesWith_4 : en_lkC "EvenSteps$Slope" false [(.ireturn, 1, 0, 3, [], 0, 0)] := ⟨trivial, trivial⟩
set_option maxRecDepth 100000 in
set_option maxHeartbeats 4000000 in
theorem n_X7_sharesWith : en_lkM (⟨"EvenSteps$Slope", "sharesWith", "(LEvenSteps$Slope;)Z"⟩, prog_9_method_8_code, 6, (some .boolean), p_X7_sharesWith) := (List.forall_mem_cons.mpr ⟨n_X7_sharesWith_0, (List.forall_mem_cons.mpr ⟨n_X7_sharesWith_1, (List.forall_mem_cons.mpr ⟨n_X7_sharesWith_2, (List.forall_mem_cons.mpr ⟨n_X7_sharesWith_3, (List.forall_mem_cons.mpr ⟨n_X7_sharesWith_4, (fun _ h => absurd h List.not_mem_nil)⟩)⟩)⟩)⟩)⟩)
set_option maxRecDepth 100000 in
set_option maxHeartbeats 4000000 in
theorem k_X7_hasUnlikePoints : en_ckM (⟨"EvenSteps$Slope", "hasUnlikePoints", "(I)Z"⟩, prog_9_method_9_code, 2, (some .boolean), p_X7_hasUnlikePoints) = true := by decide +kernel
set_option maxRecDepth 100000 in
set_option maxHeartbeats 4000000 in
theorem n_X7_hasUnlikePoints_0 : en_lkC "EvenSteps$Slope" false [(.aload_n 0, 1, 0, 0, [], 0, 0), (.getfield 35, 3, 5, 1, [(6, 0)], 0, 0), (.lconst 0, 1, 0, 0, [], 0, 0), (.lcmp, 1, 0, 0, [], 0, 0), (.ifCond .ne 13, 3, 1, 0, [], 0, 0), (.iload_n 1, 1, 1, 0, [], 0, 0), (.i2l, 1, 0, 0, [], 0, 0), (.aload_n 0, 1, 0, 0, [], 0, 0), (.getfield 38, 3, 6, 1, [(6, 0)], 0, 0), (.lcmp, 1, 0, 0, [], 0, 0), (.ifCond .gt 7, 3, 2, 0, [], 0, 0)] := ⟨trivial, ⟨lk_119, ⟨trivial, ⟨trivial, ⟨trivial, ⟨trivial, ⟨trivial, ⟨trivial, ⟨lk_122, ⟨trivial, ⟨trivial, trivial⟩⟩⟩⟩⟩⟩⟩⟩⟩⟩⟩
set_option maxRecDepth 100000 in
set_option maxHeartbeats 4000000 in
theorem n_X7_hasUnlikePoints_1 : en_lkC "EvenSteps$Slope" false [(.iconst 1, 1, 0, 0, [], 1, 0), (.goto 4, 3, 3, 0, [], 0, 0)] := ⟨trivial, ⟨trivial, trivial⟩⟩
set_option maxRecDepth 100000 in
set_option maxHeartbeats 4000000 in
theorem n_X7_hasUnlikePoints_2 : en_lkC "EvenSteps$Slope" false [(.iconst 0, 1, 0, 0, [], 0, 0)] := ⟨trivial, trivial⟩
set_option maxRecDepth 100000 in
set_option maxHeartbeats 4000000 in
theorem n_X7_hasUnlikePoints_3 : en_lkC "EvenSteps$Slope" false [(.ireturn, 1, 0, 3, [], 0, 0)] := ⟨trivial, trivial⟩
set_option maxRecDepth 100000 in
set_option maxHeartbeats 4000000 in
theorem n_X7_hasUnlikePoints : en_lkM (⟨"EvenSteps$Slope", "hasUnlikePoints", "(I)Z"⟩, prog_9_method_9_code, 2, (some .boolean), p_X7_hasUnlikePoints) := (List.forall_mem_cons.mpr ⟨n_X7_hasUnlikePoints_0, (List.forall_mem_cons.mpr ⟨n_X7_hasUnlikePoints_1, (List.forall_mem_cons.mpr ⟨n_X7_hasUnlikePoints_2, (List.forall_mem_cons.mpr ⟨n_X7_hasUnlikePoints_3, (fun _ h => absurd h List.not_mem_nil)⟩)⟩)⟩)⟩)
set_option maxRecDepth 100000 in
set_option maxHeartbeats 4000000 in
theorem k_X8_init : en_ckM (⟨"EvenSteps$Stretch", "<init>", "()V"⟩, prog_10_method_1_code, 1, none, p_X8_init) = true := by decide +kernel
set_option maxRecDepth 100000 in
set_option maxHeartbeats 4000000 in
theorem n_X8_init_0 : en_lkC "EvenSteps$Stretch" true [(.aload_n 0, 1, 0, 0, [], 0, 0), (.invokespecial 3, 3, 0, 9, [], 0, 0), (.aload_n 0, 1, 0, 0, [], 0, 0), (.bipush 41, 2, 0, 0, [], 41, 0), (.newarray .int, 2, 0, 0, [], 0, 0), (.putfield 9, 3, 7, 2, [(7, 0)], 0, 0), (.return_, 1, 0, 0, [], 0, 0)] := ⟨trivial, ⟨(Or.inl ⟨rfl, wd_114, wd_85, wd_86⟩), ⟨trivial, ⟨trivial, ⟨(Or.inl ⟨rfl, wd_108⟩), ⟨lk_125, ⟨trivial, trivial⟩⟩⟩⟩⟩⟩⟩
set_option maxRecDepth 100000 in
set_option maxHeartbeats 4000000 in
theorem n_X8_init : en_lkM (⟨"EvenSteps$Stretch", "<init>", "()V"⟩, prog_10_method_1_code, 1, none, p_X8_init) := (List.forall_mem_cons.mpr ⟨n_X8_init_0, (fun _ h => absurd h List.not_mem_nil)⟩)
set_option maxRecDepth 100000 in
set_option maxHeartbeats 4000000 in
theorem k_X8_read : en_ckM (⟨"EvenSteps$Stretch", "read", "(LEvenSteps$Row;II)Z"⟩, prog_10_method_2_code, 6, (some .boolean), p_X8_read) = true := by decide +kernel
set_option maxRecDepth 100000 in
set_option maxHeartbeats 4000000 in
theorem n_X8_read_0 : en_lkC "EvenSteps$Stretch" false [(.aload_n 1, 1, 1, 0, [], 0, 0), (.ifnull 25, 3, 1, 0, [], 0, 0), (.iload_n 2, 1, 2, 0, [], 0, 0), (.ifCond .lt 21, 3, 1, 0, [], 0, 0), (.iload_n 2, 1, 2, 0, [], 0, 0), (.sipush 10000, 3, 0, 0, [], 10000, 0), (.if_icmp .gt 14, 3, 1, 0, [], 0, 0), (.iload_n 3, 1, 3, 0, [], 0, 0), (.iconst 1, 1, 0, 0, [], 1, 0), (.if_icmp .lt 9, 3, 1, 0, [], 0, 0), (.iload_n 3, 1, 3, 0, [], 0, 0), (.bipush 40, 2, 0, 0, [], 40, 0), (.if_icmp .le 5, 3, 2, 0, [], 0, 0)] := ⟨trivial, ⟨trivial, ⟨trivial, ⟨trivial, ⟨trivial, ⟨trivial, ⟨trivial, ⟨trivial, ⟨trivial, ⟨trivial, ⟨trivial, ⟨trivial, ⟨trivial, trivial⟩⟩⟩⟩⟩⟩⟩⟩⟩⟩⟩⟩⟩
set_option maxRecDepth 100000 in
set_option maxHeartbeats 4000000 in
theorem n_X8_read_1 : en_lkC "EvenSteps$Stretch" false [(.iconst 0, 1, 0, 0, [], 0, 0), (.ireturn, 1, 0, 3, [], 0, 0)] := ⟨trivial, ⟨trivial, trivial⟩⟩
set_option maxRecDepth 100000 in
set_option maxHeartbeats 4000000 in
theorem n_X8_read_2 : en_lkC "EvenSteps$Stretch" false [(.aload_n 0, 1, 0, 0, [], 0, 0), (.iload_n 3, 1, 3, 0, [], 0, 0), (.putfield 15, 3, 8, 0, [(7, 0)], 0, 0), (.iconst 0, 1, 0, 0, [], 0, 0), (.istore 4, 2, 4, 0, [], 0, 0)] := ⟨trivial, ⟨trivial, ⟨lk_126, ⟨trivial, ⟨trivial, trivial⟩⟩⟩⟩⟩
set_option maxRecDepth 100000 in
set_option maxHeartbeats 4000000 in
theorem n_X8_read_3 : en_lkC "EvenSteps$Stretch" false [(.iload 4, 2, 4, 0, [], 0, 0), (.iload_n 3, 1, 3, 0, [], 0, 0), (.if_icmp .ge 45, 3, 5, 0, [], 0, 0), (.aload_n 1, 1, 1, 0, [], 0, 0), (.iload_n 2, 1, 2, 0, [], 0, 0), (.iload 4, 2, 4, 0, [], 0, 0), (.iadd, 1, 0, 0, [], 0, 0), (.invokevirtual 19, 3, 1, 0, [(1, 9), (2, 17), (3, 17), (4, 17), (8, 57)], 0, 0), (.istore 5, 2, 5, 0, [], 0, 0), (.iload 5, 2, 5, 0, [], 0, 0), (.ifCond .ge 5, 3, 4, 0, [], 0, 0), (.iconst 0, 1, 0, 0, [], 0, 0), (.ireturn, 1, 0, 3, [], 0, 0)] := ⟨trivial, ⟨trivial, ⟨trivial, ⟨trivial, ⟨trivial, ⟨trivial, ⟨trivial, ⟨lk_127, ⟨trivial, ⟨trivial, ⟨trivial, ⟨trivial, ⟨trivial, trivial⟩⟩⟩⟩⟩⟩⟩⟩⟩⟩⟩⟩⟩
set_option maxRecDepth 100000 in
set_option maxHeartbeats 4000000 in
theorem n_X8_read_4 : en_lkC "EvenSteps$Stretch" false [(.aload_n 0, 1, 0, 0, [], 0, 0), (.getfield 9, 3, 7, 2, [(7, 0)], 0, 0), (.iload 4, 2, 4, 0, [], 0, 0), (.iconst 1, 1, 0, 0, [], 1, 0), (.iadd, 1, 0, 0, [], 0, 0), (.aload_n 0, 1, 0, 0, [], 0, 0), (.getfield 9, 3, 7, 2, [(7, 0)], 0, 0), (.iload 4, 2, 4, 0, [], 0, 0), (.iaload, 1, 0, 0, [], 0, 0), (.iload 5, 2, 5, 0, [], 0, 0), (.iadd, 1, 0, 0, [], 0, 0), (.iastore, 1, 0, 0, [], 0, 0), (.iinc 4 1, 3, 4, 0, [], 1, 0), (.goto (-45), 3, 3, 0, [], 0, 0)] := ⟨trivial, ⟨lk_128, ⟨trivial, ⟨trivial, ⟨trivial, ⟨trivial, ⟨lk_128, ⟨trivial, ⟨trivial, ⟨trivial, ⟨trivial, ⟨trivial, ⟨trivial, ⟨trivial, trivial⟩⟩⟩⟩⟩⟩⟩⟩⟩⟩⟩⟩⟩⟩
set_option maxRecDepth 100000 in
set_option maxHeartbeats 4000000 in
theorem n_X8_read_5 : en_lkC "EvenSteps$Stretch" false [(.iconst 1, 1, 0, 0, [], 1, 0), (.ireturn, 1, 0, 3, [], 0, 0)] := ⟨trivial, ⟨trivial, trivial⟩⟩
set_option maxRecDepth 100000 in
set_option maxHeartbeats 4000000 in
theorem n_X8_read : en_lkM (⟨"EvenSteps$Stretch", "read", "(LEvenSteps$Row;II)Z"⟩, prog_10_method_2_code, 6, (some .boolean), p_X8_read) := (List.forall_mem_cons.mpr ⟨n_X8_read_0, (List.forall_mem_cons.mpr ⟨n_X8_read_1, (List.forall_mem_cons.mpr ⟨n_X8_read_2, (List.forall_mem_cons.mpr ⟨n_X8_read_3, (List.forall_mem_cons.mpr ⟨n_X8_read_4, (List.forall_mem_cons.mpr ⟨n_X8_read_5, (fun _ h => absurd h List.not_mem_nil)⟩)⟩)⟩)⟩)⟩)⟩)
set_option maxRecDepth 100000 in
set_option maxHeartbeats 4000000 in
theorem k_X8_sumFrom : en_ckM (⟨"EvenSteps$Stretch", "sumFrom", "(II)I"⟩, prog_10_method_3_code, 3, (some .int), p_X8_sumFrom) = true := by decide +kernel
set_option maxRecDepth 100000 in
set_option maxHeartbeats 4000000 in
theorem n_X8_sumFrom_0 : en_lkC "EvenSteps$Stretch" false [(.aload_n 0, 1, 0, 0, [], 0, 0), (.getfield 9, 3, 7, 2, [(7, 0)], 0, 0), (.iload_n 1, 1, 1, 0, [], 0, 0), (.iload_n 2, 1, 2, 0, [], 0, 0), (.iadd, 1, 0, 0, [], 0, 0), (.iaload, 1, 0, 0, [], 0, 0), (.aload_n 0, 1, 0, 0, [], 0, 0), (.getfield 9, 3, 7, 2, [(7, 0)], 0, 0), (.iload_n 1, 1, 1, 0, [], 0, 0), (.iaload, 1, 0, 0, [], 0, 0), (.isub, 1, 0, 0, [], 0, 0), (.ireturn, 1, 0, 0, [], 0, 0)] := ⟨trivial, ⟨lk_128, ⟨trivial, ⟨trivial, ⟨trivial, ⟨trivial, ⟨trivial, ⟨lk_128, ⟨trivial, ⟨trivial, ⟨trivial, ⟨trivial, trivial⟩⟩⟩⟩⟩⟩⟩⟩⟩⟩⟩⟩
set_option maxRecDepth 100000 in
set_option maxHeartbeats 4000000 in
theorem n_X8_sumFrom : en_lkM (⟨"EvenSteps$Stretch", "sumFrom", "(II)I"⟩, prog_10_method_3_code, 3, (some .int), p_X8_sumFrom) := (List.forall_mem_cons.mpr ⟨n_X8_sumFrom_0, (fun _ h => absurd h List.not_mem_nil)⟩)
set_option maxRecDepth 100000 in
set_option maxHeartbeats 4000000 in
theorem k_X8_compareSums : en_ckM (⟨"EvenSteps$Stretch", "compareSums", "(I)V"⟩, prog_10_method_4_code, 4, none, p_X8_compareSums) = true := by decide +kernel
set_option maxRecDepth 100000 in
set_option maxHeartbeats 4000000 in
theorem n_X8_compareSums_0 : en_lkC "EvenSteps$Stretch" false [(.aload_n 0, 1, 0, 0, [], 0, 0), (.aload_n 0, 1, 0, 0, [], 0, 0), (.iconst 0, 1, 0, 0, [], 0, 0), (.iload_n 1, 1, 1, 0, [], 0, 0), (.invokevirtual 25, 3, 2, 0, [(7, 50)], 0, 0), (.putfield 29, 3, 9, 0, [(7, 0)], 0, 0), (.aload_n 0, 1, 0, 0, [], 0, 0), (.aload_n 0, 1, 0, 0, [], 0, 0), (.getfield 29, 3, 9, 0, [(7, 0)], 0, 0), (.putfield 32, 3, 10, 0, [(7, 0)], 0, 0), (.iconst 1, 1, 0, 0, [], 1, 0), (.istore_n 2, 1, 2, 0, [], 0, 0)] := ⟨trivial, ⟨trivial, ⟨trivial, ⟨trivial, ⟨lk_129, ⟨lk_130, ⟨trivial, ⟨trivial, ⟨lk_131, ⟨lk_132, ⟨trivial, ⟨trivial, trivial⟩⟩⟩⟩⟩⟩⟩⟩⟩⟩⟩⟩
set_option maxRecDepth 100000 in
set_option maxHeartbeats 4000000 in
theorem n_X8_compareSums_1 : en_lkC "EvenSteps$Stretch" false [(.iload_n 2, 1, 2, 0, [], 0, 0), (.iload_n 1, 1, 1, 0, [], 0, 0), (.iadd, 1, 0, 0, [], 0, 0), (.aload_n 0, 1, 0, 0, [], 0, 0), (.getfield 15, 3, 8, 0, [(7, 0)], 0, 0), (.if_icmp .gt 40, 3, 2, 0, [], 0, 0), (.aload_n 0, 1, 0, 0, [], 0, 0), (.iload_n 2, 1, 2, 0, [], 0, 0), (.iload_n 1, 1, 1, 0, [], 0, 0), (.invokevirtual 25, 3, 2, 0, [(7, 50)], 0, 0), (.istore_n 3, 1, 3, 0, [], 0, 0), (.aload_n 0, 1, 0, 0, [], 0, 0), (.aload_n 0, 1, 0, 0, [], 0, 0), (.getfield 29, 3, 9, 0, [(7, 0)], 0, 0), (.iload_n 3, 1, 3, 0, [], 0, 0), (.invokestatic 35, 3, 2, 0, [(0, 219)], 0, 0), (.putfield 29, 3, 9, 0, [(7, 0)], 0, 0), (.aload_n 0, 1, 0, 0, [], 0, 0), (.aload_n 0, 1, 0, 0, [], 0, 0), (.getfield 32, 3, 10, 0, [(7, 0)], 0, 0), (.iload_n 3, 1, 3, 0, [], 0, 0), (.invokestatic 40, 3, 2, 0, [(0, 217)], 0, 0), (.putfield 32, 3, 10, 0, [(7, 0)], 0, 0), (.iinc 2 1, 3, 2, 0, [], 1, 0), (.goto (-44), 3, 1, 0, [], 0, 0)] := ⟨trivial, ⟨trivial, ⟨trivial, ⟨trivial, ⟨lk_133, ⟨trivial, ⟨trivial, ⟨trivial, ⟨trivial, ⟨lk_129, ⟨trivial, ⟨trivial, ⟨trivial, ⟨lk_131, ⟨trivial, ⟨lk_134, ⟨lk_130, ⟨trivial, ⟨trivial, ⟨lk_135, ⟨trivial, ⟨lk_136, ⟨lk_132, ⟨trivial, ⟨trivial, trivial⟩⟩⟩⟩⟩⟩⟩⟩⟩⟩⟩⟩⟩⟩⟩⟩⟩⟩⟩⟩⟩⟩⟩⟩⟩
set_option maxRecDepth 100000 in
set_option maxHeartbeats 4000000 in
theorem n_X8_compareSums_2 : en_lkC "EvenSteps$Stretch" false [(.return_, 1, 0, 0, [], 0, 0)] := ⟨trivial, trivial⟩
set_option maxRecDepth 100000 in
set_option maxHeartbeats 4000000 in
theorem n_X8_compareSums : en_lkM (⟨"EvenSteps$Stretch", "compareSums", "(I)V"⟩, prog_10_method_4_code, 4, none, p_X8_compareSums) := (List.forall_mem_cons.mpr ⟨n_X8_compareSums_0, (List.forall_mem_cons.mpr ⟨n_X8_compareSums_1, (List.forall_mem_cons.mpr ⟨n_X8_compareSums_2, (fun _ h => absurd h List.not_mem_nil)⟩)⟩)⟩)
set_option maxRecDepth 100000 in
set_option maxHeartbeats 4000000 in
theorem k_X8_findClash : en_ckM (⟨"EvenSteps$Stretch", "findClash", "()Z"⟩, prog_10_method_5_code, 2, (some .boolean), p_X8_findClash) = true := by decide +kernel
set_option maxRecDepth 100000 in
set_option maxHeartbeats 4000000 in
theorem n_X8_findClash_0 : en_lkC "EvenSteps$Stretch" false [(.iconst 1, 1, 0, 0, [], 1, 0), (.istore_n 1, 1, 1, 0, [], 0, 0)] := ⟨trivial, ⟨trivial, trivial⟩⟩
set_option maxRecDepth 100000 in
set_option maxHeartbeats 4000000 in
theorem n_X8_findClash_1 : en_lkC "EvenSteps$Stretch" false [(.iload_n 1, 1, 1, 0, [], 0, 0), (.aload_n 0, 1, 0, 0, [], 0, 0), (.getfield 15, 3, 8, 0, [(7, 0)], 0, 0), (.if_icmp .gt 38, 3, 3, 0, [], 0, 0), (.aload_n 0, 1, 0, 0, [], 0, 0), (.iload_n 1, 1, 1, 0, [], 0, 0), (.invokevirtual 43, 3, 1, 4, [(7, 51)], 0, 0), (.aload_n 0, 1, 0, 0, [], 0, 0), (.getfield 32, 3, 10, 0, [(7, 0)], 0, 0), (.aload_n 0, 1, 0, 0, [], 0, 0), (.getfield 29, 3, 9, 0, [(7, 0)], 0, 0), (.isub, 1, 0, 0, [], 0, 0), (.iconst 1, 1, 0, 0, [], 1, 0), (.if_icmp .le 14, 3, 2, 0, [], 0, 0), (.aload_n 0, 1, 0, 0, [], 0, 0), (.iload_n 1, 1, 1, 0, [], 0, 0), (.putfield 47, 3, 0, 0, [(7, 0)], 0, 0), (.aload_n 0, 1, 0, 0, [], 0, 0), (.iload_n 1, 1, 1, 0, [], 0, 0), (.invokevirtual 50, 3, 1, 3, [(7, 53)], 0, 0), (.ireturn, 1, 0, 3, [], 0, 0)] := ⟨trivial, ⟨trivial, ⟨lk_133, ⟨trivial, ⟨trivial, ⟨trivial, ⟨lk_137, ⟨trivial, ⟨lk_135, ⟨trivial, ⟨lk_131, ⟨trivial, ⟨trivial, ⟨trivial, ⟨trivial, ⟨trivial, ⟨lk_138, ⟨trivial, ⟨trivial, ⟨lk_139, ⟨trivial, trivial⟩⟩⟩⟩⟩⟩⟩⟩⟩⟩⟩⟩⟩⟩⟩⟩⟩⟩⟩⟩⟩
set_option maxRecDepth 100000 in
set_option maxHeartbeats 4000000 in
theorem n_X8_findClash_2 : en_lkC "EvenSteps$Stretch" false [(.iinc 1 1, 3, 1, 0, [], 1, 0), (.goto (-40), 3, 1, 0, [], 0, 0)] := ⟨trivial, ⟨trivial, trivial⟩⟩
set_option maxRecDepth 100000 in
set_option maxHeartbeats 4000000 in
theorem n_X8_findClash_3 : en_lkC "EvenSteps$Stretch" false [(.iconst 0, 1, 0, 0, [], 0, 0), (.ireturn, 1, 0, 3, [], 0, 0)] := ⟨trivial, ⟨trivial, trivial⟩⟩
set_option maxRecDepth 100000 in
set_option maxHeartbeats 4000000 in
theorem n_X8_findClash : en_lkM (⟨"EvenSteps$Stretch", "findClash", "()Z"⟩, prog_10_method_5_code, 2, (some .boolean), p_X8_findClash) := (List.forall_mem_cons.mpr ⟨n_X8_findClash_0, (List.forall_mem_cons.mpr ⟨n_X8_findClash_1, (List.forall_mem_cons.mpr ⟨n_X8_findClash_2, (List.forall_mem_cons.mpr ⟨n_X8_findClash_3, (fun _ h => absurd h List.not_mem_nil)⟩)⟩)⟩)⟩)
set_option maxRecDepth 100000 in
set_option maxHeartbeats 4000000 in
theorem k_X8_findClashPlaces : en_ckM (⟨"EvenSteps$Stretch", "findClashPlaces", "(I)Z"⟩, prog_10_method_6_code, 4, (some .boolean), p_X8_findClashPlaces) = true := by decide +kernel
set_option maxRecDepth 100000 in
set_option maxHeartbeats 4000000 in
theorem n_X8_findClashPlaces_0 : en_lkC "EvenSteps$Stretch" false [(.iconst 0, 1, 0, 0, [], 0, 0), (.istore_n 2, 1, 2, 0, [], 0, 0)] := ⟨trivial, ⟨trivial, trivial⟩⟩
set_option maxRecDepth 100000 in
set_option maxHeartbeats 4000000 in
theorem n_X8_findClashPlaces_1 : en_lkC "EvenSteps$Stretch" false [(.iload_n 2, 1, 2, 0, [], 0, 0), (.iload_n 1, 1, 1, 0, [], 0, 0), (.iadd, 1, 0, 0, [], 0, 0), (.aload_n 0, 1, 0, 0, [], 0, 0), (.getfield 15, 3, 8, 0, [(7, 0)], 0, 0), (.if_icmp .gt 61, 3, 5, 0, [], 0, 0), (.iload_n 2, 1, 2, 0, [], 0, 0), (.iconst 1, 1, 0, 0, [], 1, 0), (.iadd, 1, 0, 0, [], 0, 0), (.istore_n 3, 1, 3, 0, [], 0, 0)] := ⟨trivial, ⟨trivial, ⟨trivial, ⟨trivial, ⟨lk_133, ⟨trivial, ⟨trivial, ⟨trivial, ⟨trivial, ⟨trivial, trivial⟩⟩⟩⟩⟩⟩⟩⟩⟩⟩
set_option maxRecDepth 100000 in
set_option maxHeartbeats 4000000 in
theorem n_X8_findClashPlaces_2 : en_lkC "EvenSteps$Stretch" false [(.iload_n 3, 1, 3, 0, [], 0, 0), (.iload_n 1, 1, 1, 0, [], 0, 0), (.iadd, 1, 0, 0, [], 0, 0), (.aload_n 0, 1, 0, 0, [], 0, 0), (.getfield 15, 3, 8, 0, [(7, 0)], 0, 0), (.if_icmp .gt 41, 3, 4, 0, [], 0, 0), (.aload_n 0, 1, 0, 0, [], 0, 0), (.iload_n 2, 1, 2, 0, [], 0, 0), (.iload_n 1, 1, 1, 0, [], 0, 0), (.invokevirtual 25, 3, 2, 0, [(7, 50)], 0, 0), (.aload_n 0, 1, 0, 0, [], 0, 0), (.iload_n 3, 1, 3, 0, [], 0, 0), (.iload_n 1, 1, 1, 0, [], 0, 0), (.invokevirtual 25, 3, 2, 0, [(7, 50)], 0, 0), (.isub, 1, 0, 0, [], 0, 0), (.invokestatic 54, 3, 1, 0, [(0, 215)], 0, 0), (.iconst 1, 1, 0, 0, [], 1, 0), (.if_icmp .le 15, 3, 3, 0, [], 0, 0), (.aload_n 0, 1, 0, 0, [], 0, 0), (.iload_n 2, 1, 2, 0, [], 0, 0), (.putfield 57, 3, 1, 0, [(7, 0)], 0, 0), (.aload_n 0, 1, 0, 0, [], 0, 0), (.iload_n 3, 1, 3, 0, [], 0, 0), (.putfield 60, 3, 2, 0, [(7, 0)], 0, 0), (.iconst 1, 1, 0, 0, [], 1, 0), (.ireturn, 1, 0, 3, [], 0, 0)] := ⟨trivial, ⟨trivial, ⟨trivial, ⟨trivial, ⟨lk_133, ⟨trivial, ⟨trivial, ⟨trivial, ⟨trivial, ⟨lk_129, ⟨trivial, ⟨trivial, ⟨trivial, ⟨lk_129, ⟨trivial, ⟨lk_140, ⟨trivial, ⟨trivial, ⟨trivial, ⟨trivial, ⟨lk_141, ⟨trivial, ⟨trivial, ⟨lk_142, ⟨trivial, ⟨trivial, trivial⟩⟩⟩⟩⟩⟩⟩⟩⟩⟩⟩⟩⟩⟩⟩⟩⟩⟩⟩⟩⟩⟩⟩⟩⟩⟩
set_option maxRecDepth 100000 in
set_option maxHeartbeats 4000000 in
theorem n_X8_findClashPlaces_3 : en_lkC "EvenSteps$Stretch" false [(.iinc 3 1, 3, 3, 0, [], 1, 0), (.goto (-45), 3, 2, 0, [], 0, 0)] := ⟨trivial, ⟨trivial, trivial⟩⟩
set_option maxRecDepth 100000 in
set_option maxHeartbeats 4000000 in
theorem n_X8_findClashPlaces_4 : en_lkC "EvenSteps$Stretch" false [(.iinc 2 1, 3, 2, 0, [], 1, 0), (.goto (-65), 3, 1, 0, [], 0, 0)] := ⟨trivial, ⟨trivial, trivial⟩⟩
set_option maxRecDepth 100000 in
set_option maxHeartbeats 4000000 in
theorem n_X8_findClashPlaces_5 : en_lkC "EvenSteps$Stretch" false [(.iconst 0, 1, 0, 0, [], 0, 0), (.ireturn, 1, 0, 3, [], 0, 0)] := ⟨trivial, ⟨trivial, trivial⟩⟩
set_option maxRecDepth 100000 in
set_option maxHeartbeats 4000000 in
theorem n_X8_findClashPlaces : en_lkM (⟨"EvenSteps$Stretch", "findClashPlaces", "(I)Z"⟩, prog_10_method_6_code, 4, (some .boolean), p_X8_findClashPlaces) := (List.forall_mem_cons.mpr ⟨n_X8_findClashPlaces_0, (List.forall_mem_cons.mpr ⟨n_X8_findClashPlaces_1, (List.forall_mem_cons.mpr ⟨n_X8_findClashPlaces_2, (List.forall_mem_cons.mpr ⟨n_X8_findClashPlaces_3, (List.forall_mem_cons.mpr ⟨n_X8_findClashPlaces_4, (List.forall_mem_cons.mpr ⟨n_X8_findClashPlaces_5, (fun _ h => absurd h List.not_mem_nil)⟩)⟩)⟩)⟩)⟩)⟩)
set_option maxRecDepth 100000 in
set_option maxHeartbeats 4000000 in
theorem k_X8_findRange : en_ckM (⟨"EvenSteps$Stretch", "findRange", "()Z"⟩, prog_10_method_7_code, 2, (some .boolean), p_X8_findRange) = true := by decide +kernel
set_option maxRecDepth 100000 in
set_option maxHeartbeats 4000000 in
theorem n_X8_findRange_0 : en_lkC "EvenSteps$Stretch" false [(.iconst 1, 1, 0, 0, [], 1, 0), (.istore_n 1, 1, 1, 0, [], 0, 0)] := ⟨trivial, ⟨trivial, trivial⟩⟩
set_option maxRecDepth 100000 in
set_option maxHeartbeats 4000000 in
theorem n_X8_findRange_1 : en_lkC "EvenSteps$Stretch" false [(.iload_n 1, 1, 1, 0, [], 0, 0), (.aload_n 0, 1, 0, 0, [], 0, 0), (.getfield 15, 3, 8, 0, [(7, 0)], 0, 0), (.if_icmp .gt 94, 3, 6, 0, [], 0, 0), (.aload_n 0, 1, 0, 0, [], 0, 0), (.iload_n 1, 1, 1, 0, [], 0, 0), (.invokevirtual 43, 3, 1, 4, [(7, 51)], 0, 0), (.iload_n 1, 1, 1, 0, [], 0, 0), (.iconst 1, 1, 0, 0, [], 1, 0), (.if_icmp .eq 23, 3, 2, 0, [], 0, 0), (.aload_n 0, 1, 0, 0, [], 0, 0), (.getfield 32, 3, 10, 0, [(7, 0)], 0, 0), (.iconst 1, 1, 0, 0, [], 1, 0), (.isub, 1, 0, 0, [], 0, 0), (.aload_n 0, 1, 0, 0, [], 0, 0), (.getfield 63, 3, 4, 0, [(7, 0)], 0, 0), (.imul, 1, 0, 0, [], 0, 0), (.aload_n 0, 1, 0, 0, [], 0, 0), (.getfield 66, 3, 3, 0, [(7, 0)], 0, 0), (.iload_n 1, 1, 1, 0, [], 0, 0), (.imul, 1, 0, 0, [], 0, 0), (.if_icmp .le 18, 3, 3, 0, [], 0, 0)] := ⟨trivial, ⟨trivial, ⟨lk_133, ⟨trivial, ⟨trivial, ⟨trivial, ⟨lk_137, ⟨trivial, ⟨trivial, ⟨trivial, ⟨trivial, ⟨lk_135, ⟨trivial, ⟨trivial, ⟨trivial, ⟨lk_143, ⟨trivial, ⟨trivial, ⟨lk_144, ⟨trivial, ⟨trivial, ⟨trivial, trivial⟩⟩⟩⟩⟩⟩⟩⟩⟩⟩⟩⟩⟩⟩⟩⟩⟩⟩⟩⟩⟩⟩
set_option maxRecDepth 100000 in
set_option maxHeartbeats 4000000 in
theorem n_X8_findRange_2 : en_lkC "EvenSteps$Stretch" false [(.aload_n 0, 1, 0, 0, [], 0, 0), (.aload_n 0, 1, 0, 0, [], 0, 0), (.getfield 32, 3, 10, 0, [(7, 0)], 0, 0), (.iconst 1, 1, 0, 0, [], 1, 0), (.isub, 1, 0, 0, [], 0, 0), (.putfield 66, 3, 3, 0, [(7, 0)], 0, 0), (.aload_n 0, 1, 0, 0, [], 0, 0), (.iload_n 1, 1, 1, 0, [], 0, 0), (.putfield 63, 3, 4, 0, [(7, 0)], 0, 0)] := ⟨trivial, ⟨trivial, ⟨lk_135, ⟨trivial, ⟨trivial, ⟨lk_145, ⟨trivial, ⟨trivial, ⟨lk_146, trivial⟩⟩⟩⟩⟩⟩⟩⟩⟩
set_option maxRecDepth 100000 in
set_option maxHeartbeats 4000000 in
theorem n_X8_findRange_3 : en_lkC "EvenSteps$Stretch" false [(.iload_n 1, 1, 1, 0, [], 0, 0), (.iconst 1, 1, 0, 0, [], 1, 0), (.if_icmp .eq 23, 3, 4, 0, [], 0, 0), (.aload_n 0, 1, 0, 0, [], 0, 0), (.getfield 29, 3, 9, 0, [(7, 0)], 0, 0), (.iconst 1, 1, 0, 0, [], 1, 0), (.iadd, 1, 0, 0, [], 0, 0), (.aload_n 0, 1, 0, 0, [], 0, 0), (.getfield 69, 3, 6, 0, [(7, 0)], 0, 0), (.imul, 1, 0, 0, [], 0, 0), (.aload_n 0, 1, 0, 0, [], 0, 0), (.getfield 72, 3, 5, 0, [(7, 0)], 0, 0), (.iload_n 1, 1, 1, 0, [], 0, 0), (.imul, 1, 0, 0, [], 0, 0), (.if_icmp .ge 18, 3, 5, 0, [], 0, 0)] := ⟨trivial, ⟨trivial, ⟨trivial, ⟨trivial, ⟨lk_131, ⟨trivial, ⟨trivial, ⟨trivial, ⟨lk_147, ⟨trivial, ⟨trivial, ⟨lk_148, ⟨trivial, ⟨trivial, ⟨trivial, trivial⟩⟩⟩⟩⟩⟩⟩⟩⟩⟩⟩⟩⟩⟩⟩
set_option maxRecDepth 100000 in
set_option maxHeartbeats 4000000 in
theorem n_X8_findRange_4 : en_lkC "EvenSteps$Stretch" false [(.aload_n 0, 1, 0, 0, [], 0, 0), (.aload_n 0, 1, 0, 0, [], 0, 0), (.getfield 29, 3, 9, 0, [(7, 0)], 0, 0), (.iconst 1, 1, 0, 0, [], 1, 0), (.iadd, 1, 0, 0, [], 0, 0), (.putfield 72, 3, 5, 0, [(7, 0)], 0, 0), (.aload_n 0, 1, 0, 0, [], 0, 0), (.iload_n 1, 1, 1, 0, [], 0, 0), (.putfield 69, 3, 6, 0, [(7, 0)], 0, 0)] := ⟨trivial, ⟨trivial, ⟨lk_131, ⟨trivial, ⟨trivial, ⟨lk_149, ⟨trivial, ⟨trivial, ⟨lk_150, trivial⟩⟩⟩⟩⟩⟩⟩⟩⟩
set_option maxRecDepth 100000 in
set_option maxHeartbeats 4000000 in
theorem n_X8_findRange_5 : en_lkC "EvenSteps$Stretch" false [(.iinc 1 1, 3, 1, 0, [], 1, 0), (.goto (-96), 3, 1, 0, [], 0, 0)] := ⟨trivial, ⟨trivial, trivial⟩⟩
set_option maxRecDepth 100000 in
set_option maxHeartbeats 4000000 in
theorem n_X8_findRange_6 : en_lkC "EvenSteps$Stretch" false [(.aload_n 0, 1, 0, 0, [], 0, 0), (.getfield 66, 3, 3, 0, [(7, 0)], 0, 0), (.aload_n 0, 1, 0, 0, [], 0, 0), (.getfield 69, 3, 6, 0, [(7, 0)], 0, 0), (.imul, 1, 0, 0, [], 0, 0), (.aload_n 0, 1, 0, 0, [], 0, 0), (.getfield 72, 3, 5, 0, [(7, 0)], 0, 0), (.aload_n 0, 1, 0, 0, [], 0, 0), (.getfield 63, 3, 4, 0, [(7, 0)], 0, 0), (.imul, 1, 0, 0, [], 0, 0), (.if_icmp .ge 7, 3, 7, 0, [], 0, 0), (.iconst 1, 1, 0, 0, [], 1, 0), (.goto 4, 3, 8, 0, [], 0, 0)] := ⟨trivial, ⟨lk_144, ⟨trivial, ⟨lk_147, ⟨trivial, ⟨trivial, ⟨lk_148, ⟨trivial, ⟨lk_143, ⟨trivial, ⟨trivial, ⟨trivial, ⟨trivial, trivial⟩⟩⟩⟩⟩⟩⟩⟩⟩⟩⟩⟩⟩
set_option maxRecDepth 100000 in
set_option maxHeartbeats 4000000 in
theorem n_X8_findRange_7 : en_lkC "EvenSteps$Stretch" false [(.iconst 0, 1, 0, 0, [], 0, 0)] := ⟨trivial, trivial⟩
set_option maxRecDepth 100000 in
set_option maxHeartbeats 4000000 in
theorem n_X8_findRange_8 : en_lkC "EvenSteps$Stretch" false [(.ireturn, 1, 0, 3, [], 0, 0)] := ⟨trivial, trivial⟩
set_option maxRecDepth 100000 in
set_option maxHeartbeats 4000000 in
theorem n_X8_findRange : en_lkM (⟨"EvenSteps$Stretch", "findRange", "()Z"⟩, prog_10_method_7_code, 2, (some .boolean), p_X8_findRange) := (List.forall_mem_cons.mpr ⟨n_X8_findRange_0, (List.forall_mem_cons.mpr ⟨n_X8_findRange_1, (List.forall_mem_cons.mpr ⟨n_X8_findRange_2, (List.forall_mem_cons.mpr ⟨n_X8_findRange_3, (List.forall_mem_cons.mpr ⟨n_X8_findRange_4, (List.forall_mem_cons.mpr ⟨n_X8_findRange_5, (List.forall_mem_cons.mpr ⟨n_X8_findRange_6, (List.forall_mem_cons.mpr ⟨n_X8_findRange_7, (List.forall_mem_cons.mpr ⟨n_X8_findRange_8, (fun _ h => absurd h List.not_mem_nil)⟩)⟩)⟩)⟩)⟩)⟩)⟩)⟩)⟩)
set_option maxRecDepth 100000 in
set_option maxHeartbeats 4000000 in
theorem k_X9_init : en_ckM (⟨"EvenSteps$Told", "<init>", "(I[I)V"⟩, prog_11_method_1_code, 3, none, p_X9_init) = true := by decide +kernel
set_option maxRecDepth 100000 in
set_option maxHeartbeats 4000000 in
theorem n_X9_init_0 : en_lkC "EvenSteps$Told" true [(.aload_n 0, 1, 0, 0, [], 0, 0), (.iload_n 1, 1, 1, 0, [], 0, 0), (.invokespecial 3, 3, 1, 4, [(1, 29), (2, 29), (3, 29), (4, 29), (8, 29)], 0, 0), (.aload_n 0, 1, 0, 0, [], 0, 0), (.aload_n 2, 1, 2, 0, [], 0, 0), (.putfield 9, 3, 2, 2, [(8, 0)], 0, 0), (.return_, 1, 0, 0, [], 0, 0)] := ⟨trivial, ⟨trivial, ⟨(Or.inr ⟨by decide, Or.inl lk_151⟩), ⟨trivial, ⟨trivial, ⟨lk_152, ⟨trivial, trivial⟩⟩⟩⟩⟩⟩⟩
set_option maxRecDepth 100000 in
set_option maxHeartbeats 4000000 in
theorem n_X9_init : en_lkM (⟨"EvenSteps$Told", "<init>", "(I[I)V"⟩, prog_11_method_1_code, 3, none, p_X9_init) := (List.forall_mem_cons.mpr ⟨n_X9_init_0, (fun _ h => absurd h List.not_mem_nil)⟩)
set_option maxRecDepth 100000 in
set_option maxHeartbeats 4000000 in
theorem k_X9_kindNumber : en_ckM (⟨"EvenSteps$Told", "kindNumber", "()I"⟩, prog_11_method_2_code, 1, (some .int), p_X9_kindNumber) = true := by decide +kernel
set_option maxRecDepth 100000 in
set_option maxHeartbeats 4000000 in
theorem n_X9_kindNumber_0 : en_lkC "EvenSteps$Told" false [(.iconst 0, 1, 0, 0, [], 0, 0), (.ireturn, 1, 0, 0, [], 0, 0)] := ⟨trivial, ⟨trivial, trivial⟩⟩
set_option maxRecDepth 100000 in
set_option maxHeartbeats 4000000 in
theorem n_X9_kindNumber : en_lkM (⟨"EvenSteps$Told", "kindNumber", "()I"⟩, prog_11_method_2_code, 1, (some .int), p_X9_kindNumber) := (List.forall_mem_cons.mpr ⟨n_X9_kindNumber_0, (fun _ h => absurd h List.not_mem_nil)⟩)
set_option maxRecDepth 100000 in
set_option maxHeartbeats 4000000 in
theorem k_X9_stepAt : en_ckM (⟨"EvenSteps$Told", "stepAt", "(I)I"⟩, prog_11_method_3_code, 2, (some .int), p_X9_stepAt) = true := by decide +kernel
set_option maxRecDepth 100000 in
set_option maxHeartbeats 4000000 in
theorem n_X9_stepAt_0 : en_lkC "EvenSteps$Told" false [(.iload_n 1, 1, 1, 0, [], 0, 0), (.ifCond .lt 12, 3, 1, 0, [], 0, 0), (.iload_n 1, 1, 1, 0, [], 0, 0), (.aload_n 0, 1, 0, 0, [], 0, 0), (.getfield 9, 3, 2, 2, [(8, 0)], 0, 0), (.arraylength, 1, 0, 0, [], 0, 0), (.if_icmp .lt 7, 3, 2, 0, [], 0, 0)] := ⟨trivial, ⟨trivial, ⟨trivial, ⟨trivial, ⟨lk_153, ⟨trivial, ⟨trivial, trivial⟩⟩⟩⟩⟩⟩⟩
set_option maxRecDepth 100000 in
set_option maxHeartbeats 4000000 in
theorem n_X9_stepAt_1 : en_lkC "EvenSteps$Told" false [(.iconst (-1), 1, 0, 0, [], (-1), 0), (.goto 9, 3, 3, 0, [], 0, 0)] := ⟨trivial, ⟨trivial, trivial⟩⟩
set_option maxRecDepth 100000 in
set_option maxHeartbeats 4000000 in
theorem n_X9_stepAt_2 : en_lkC "EvenSteps$Told" false [(.aload_n 0, 1, 0, 0, [], 0, 0), (.getfield 9, 3, 2, 2, [(8, 0)], 0, 0), (.iload_n 1, 1, 1, 0, [], 0, 0), (.iaload, 1, 0, 0, [], 0, 0)] := ⟨trivial, ⟨lk_153, ⟨trivial, ⟨trivial, trivial⟩⟩⟩⟩
set_option maxRecDepth 100000 in
set_option maxHeartbeats 4000000 in
theorem n_X9_stepAt_3 : en_lkC "EvenSteps$Told" false [(.ireturn, 1, 0, 0, [], 0, 0)] := ⟨trivial, trivial⟩
set_option maxRecDepth 100000 in
set_option maxHeartbeats 4000000 in
theorem n_X9_stepAt : en_lkM (⟨"EvenSteps$Told", "stepAt", "(I)I"⟩, prog_11_method_3_code, 2, (some .int), p_X9_stepAt) := (List.forall_mem_cons.mpr ⟨n_X9_stepAt_0, (List.forall_mem_cons.mpr ⟨n_X9_stepAt_1, (List.forall_mem_cons.mpr ⟨n_X9_stepAt_2, (List.forall_mem_cons.mpr ⟨n_X9_stepAt_3, (fun _ h => absurd h List.not_mem_nil)⟩)⟩)⟩)⟩)
set_option maxRecDepth 100000 in
set_option maxHeartbeats 4000000 in
theorem k_X9_sumOf : en_ckM (⟨"EvenSteps$Told", "sumOf", "(I)I"⟩, prog_11_method_4_code, 4, (some .int), p_X9_sumOf) = true := by decide +kernel
set_option maxRecDepth 100000 in
set_option maxHeartbeats 4000000 in
theorem n_X9_sumOf_0 : en_lkC "EvenSteps$Told" false [(.iload_n 1, 1, 1, 0, [], 0, 0), (.aload_n 0, 1, 0, 0, [], 0, 0), (.getfield 9, 3, 2, 2, [(8, 0)], 0, 0), (.arraylength, 1, 0, 0, [], 0, 0), (.if_icmp .le 5, 3, 1, 0, [], 0, 0), (.iconst (-1), 1, 0, 0, [], (-1), 0), (.ireturn, 1, 0, 0, [], 0, 0)] := ⟨trivial, ⟨trivial, ⟨lk_153, ⟨trivial, ⟨trivial, ⟨trivial, ⟨trivial, trivial⟩⟩⟩⟩⟩⟩⟩
set_option maxRecDepth 100000 in
set_option maxHeartbeats 4000000 in
theorem n_X9_sumOf_1 : en_lkC "EvenSteps$Told" false [(.iconst 0, 1, 0, 0, [], 0, 0), (.istore_n 2, 1, 2, 0, [], 0, 0), (.iconst 0, 1, 0, 0, [], 0, 0), (.istore_n 3, 1, 3, 0, [], 0, 0)] := ⟨trivial, ⟨trivial, ⟨trivial, ⟨trivial, trivial⟩⟩⟩⟩
set_option maxRecDepth 100000 in
set_option maxHeartbeats 4000000 in
theorem n_X9_sumOf_2 : en_lkC "EvenSteps$Told" false [(.iload_n 3, 1, 3, 0, [], 0, 0), (.iload_n 1, 1, 1, 0, [], 0, 0), (.if_icmp .ge 18, 3, 3, 0, [], 0, 0), (.iload_n 2, 1, 2, 0, [], 0, 0), (.aload_n 0, 1, 0, 0, [], 0, 0), (.getfield 9, 3, 2, 2, [(8, 0)], 0, 0), (.iload_n 3, 1, 3, 0, [], 0, 0), (.iaload, 1, 0, 0, [], 0, 0), (.iadd, 1, 0, 0, [], 0, 0), (.istore_n 2, 1, 2, 0, [], 0, 0), (.iinc 3 1, 3, 3, 0, [], 1, 0), (.goto (-17), 3, 2, 0, [], 0, 0)] := ⟨trivial, ⟨trivial, ⟨trivial, ⟨trivial, ⟨trivial, ⟨lk_153, ⟨trivial, ⟨trivial, ⟨trivial, ⟨trivial, ⟨trivial, ⟨trivial, trivial⟩⟩⟩⟩⟩⟩⟩⟩⟩⟩⟩⟩
set_option maxRecDepth 100000 in
set_option maxHeartbeats 4000000 in
theorem n_X9_sumOf_3 : en_lkC "EvenSteps$Told" false [(.iload_n 2, 1, 2, 0, [], 0, 0), (.ireturn, 1, 0, 0, [], 0, 0)] := ⟨trivial, ⟨trivial, trivial⟩⟩
set_option maxRecDepth 100000 in
set_option maxHeartbeats 4000000 in
theorem n_X9_sumOf : en_lkM (⟨"EvenSteps$Told", "sumOf", "(I)I"⟩, prog_11_method_4_code, 4, (some .int), p_X9_sumOf) := (List.forall_mem_cons.mpr ⟨n_X9_sumOf_0, (List.forall_mem_cons.mpr ⟨n_X9_sumOf_1, (List.forall_mem_cons.mpr ⟨n_X9_sumOf_2, (List.forall_mem_cons.mpr ⟨n_X9_sumOf_3, (fun _ h => absurd h List.not_mem_nil)⟩)⟩)⟩)⟩)
set_option maxRecDepth 100000 in
set_option maxHeartbeats 4000000 in
theorem k_X10_init : en_ckM (⟨"EvenSteps$Trace", "<init>", "()V"⟩, prog_12_method_1_code, 1, none, p_X10_init) = true := by decide +kernel
set_option maxRecDepth 100000 in
set_option maxHeartbeats 4000000 in
theorem n_X10_init_0 : en_lkC "EvenSteps$Trace" true [(.aload_n 0, 1, 0, 0, [], 0, 0), (.invokespecial 1, 3, 0, 9, [], 0, 0), (.aload_n 0, 1, 0, 0, [], 0, 0), (.bipush 50, 2, 0, 0, [], 50, 0), (.newarray .int, 2, 0, 0, [], 0, 0), (.putfield 7, 3, 0, 2, [(9, 0)], 0, 0), (.return_, 1, 0, 0, [], 0, 0)] := ⟨trivial, ⟨(Or.inl ⟨rfl, wd_98, wd_85, wd_86⟩), ⟨trivial, ⟨trivial, ⟨(Or.inl ⟨rfl, wd_108⟩), ⟨lk_155, ⟨trivial, trivial⟩⟩⟩⟩⟩⟩⟩
set_option maxRecDepth 100000 in
set_option maxHeartbeats 4000000 in
theorem n_X10_init : en_lkM (⟨"EvenSteps$Trace", "<init>", "()V"⟩, prog_12_method_1_code, 1, none, p_X10_init) := (List.forall_mem_cons.mpr ⟨n_X10_init_0, (fun _ h => absurd h List.not_mem_nil)⟩)
set_option maxRecDepth 100000 in
set_option maxHeartbeats 4000000 in
theorem k_X10_add : en_ckM (⟨"EvenSteps$Trace", "add", "(I)V"⟩, prog_12_method_2_code, 2, none, p_X10_add) = true := by decide +kernel
set_option maxRecDepth 100000 in
set_option maxHeartbeats 4000000 in
theorem n_X10_add_0 : en_lkC "EvenSteps$Trace" false [(.aload_n 0, 1, 0, 0, [], 0, 0), (.getfield 13, 3, 1, 0, [(9, 0)], 0, 0), (.ifCond .lt 35, 3, 1, 0, [], 0, 0), (.aload_n 0, 1, 0, 0, [], 0, 0), (.getfield 13, 3, 1, 0, [(9, 0)], 0, 0), (.aload_n 0, 1, 0, 0, [], 0, 0), (.getfield 7, 3, 0, 2, [(9, 0)], 0, 0), (.arraylength, 1, 0, 0, [], 0, 0), (.if_icmp .ge 23, 3, 1, 0, [], 0, 0), (.aload_n 0, 1, 0, 0, [], 0, 0), (.getfield 7, 3, 0, 2, [(9, 0)], 0, 0), (.aload_n 0, 1, 0, 0, [], 0, 0), (.getfield 13, 3, 1, 0, [(9, 0)], 0, 0), (.iload_n 1, 1, 1, 0, [], 0, 0), (.iastore, 1, 0, 0, [], 0, 0), (.aload_n 0, 1, 0, 0, [], 0, 0), (.dup, 1, 0, 0, [], 0, 0), (.getfield 13, 3, 1, 0, [(9, 0)], 0, 0), (.iconst 1, 1, 0, 0, [], 1, 0), (.iadd, 1, 0, 0, [], 0, 0), (.putfield 13, 3, 1, 0, [(9, 0)], 0, 0)] := ⟨trivial, ⟨lk_156, ⟨trivial, ⟨trivial, ⟨lk_156, ⟨trivial, ⟨lk_157, ⟨trivial, ⟨trivial, ⟨trivial, ⟨lk_157, ⟨trivial, ⟨lk_156, ⟨trivial, ⟨trivial, ⟨trivial, ⟨trivial, ⟨lk_156, ⟨trivial, ⟨trivial, ⟨lk_158, trivial⟩⟩⟩⟩⟩⟩⟩⟩⟩⟩⟩⟩⟩⟩⟩⟩⟩⟩⟩⟩⟩
set_option maxRecDepth 100000 in
set_option maxHeartbeats 4000000 in
theorem n_X10_add_1 : en_lkC "EvenSteps$Trace" false [(.return_, 1, 0, 0, [], 0, 0)] := ⟨trivial, trivial⟩
set_option maxRecDepth 100000 in
set_option maxHeartbeats 4000000 in
theorem n_X10_add : en_lkM (⟨"EvenSteps$Trace", "add", "(I)V"⟩, prog_12_method_2_code, 2, none, p_X10_add) := (List.forall_mem_cons.mpr ⟨n_X10_add_0, (List.forall_mem_cons.mpr ⟨n_X10_add_1, (fun _ h => absurd h List.not_mem_nil)⟩)⟩)
set_option maxRecDepth 100000 in
set_option maxHeartbeats 4000000 in
theorem k_X11_init : en_ckM (⟨"EvenSteps", "<init>", "()V"⟩, prog_1_method_1_code, 2, none, p_X11_init) = true := by decide +kernel
set_option maxRecDepth 100000 in
set_option maxHeartbeats 4000000 in
theorem n_X11_init_0 : en_lkC "EvenSteps" true [(.aload_n 0, 1, 0, 0, [], 0, 0), (.invokespecial 1, 3, 0, 9, [], 0, 0), (.aload_n 0, 1, 0, 0, [], 0, 0), (.bipush 8, 2, 0, 0, [], 8, 0), (.anewarray 9, 3, 2, 0, [], 0, 0), (.putfield 11, 3, 0, 2, [(10, 0)], 0, 0), (.aload_n 0, 1, 0, 0, [], 0, 0), (.bipush 10, 2, 0, 0, [], 10, 0), (.anewarray 15, 3, 3, 0, [], 0, 0), (.putfield 17, 3, 1, 2, [(10, 0)], 0, 0), (.aload_n 0, 1, 0, 0, [], 0, 0), (.iconst 4, 1, 0, 0, [], 4, 0), (.anewarray 21, 3, 4, 0, [], 0, 0), (.putfield 23, 3, 2, 2, [(10, 0)], 0, 0), (.aload_n 0, 1, 0, 0, [], 0, 0), (.new 27, 3, 9, 0, [], 0, 0), (.dup, 1, 0, 0, [], 0, 0), (.invokespecial 29, 3, 0, 4, [(9, 59)], 0, 0), (.putfield 30, 3, 3, 2, [(10, 0)], 0, 0), (.aload_n 0, 1, 0, 0, [], 0, 0), (.new 34, 3, 7, 0, [], 0, 0), (.dup, 1, 0, 0, [], 0, 0), (.invokespecial 36, 3, 0, 4, [(7, 48)], 0, 0), (.putfield 37, 3, 4, 2, [(10, 0)], 0, 0), (.aload_n 0, 1, 0, 0, [], 0, 0), (.new 41, 3, 0, 0, [], 0, 0), (.dup, 1, 0, 0, [], 0, 0), (.invokespecial 43, 3, 0, 4, [(0, 0)], 0, 0), (.putfield 44, 3, 5, 2, [(10, 0)], 0, 0), (.aload_n 0, 1, 0, 0, [], 0, 0), (.sipush 212, 3, 0, 0, [], 212, 0), (.newarray .int, 2, 0, 0, [], 0, 0), (.putfield 48, 3, 6, 2, [(10, 0)], 0, 0), (.aload_n 0, 1, 0, 0, [], 0, 0), (.sipush 200, 3, 0, 0, [], 200, 0), (.newarray .int, 2, 0, 0, [], 0, 0), (.putfield 52, 3, 7, 2, [(10, 0)], 0, 0), (.iconst 0, 1, 0, 0, [], 0, 0), (.istore_n 1, 1, 1, 0, [], 0, 0)] := ⟨trivial, ⟨(Or.inl ⟨rfl, wd_84, wd_85, wd_86⟩), ⟨trivial, ⟨trivial, ⟨⟨wd_87, by decide +kernel⟩, ⟨lk_161, ⟨trivial, ⟨trivial, ⟨⟨wd_89, by decide +kernel⟩, ⟨lk_163, ⟨trivial, ⟨trivial, ⟨⟨wd_91, by decide +kernel⟩, ⟨lk_165, ⟨trivial, ⟨⟨"EvenSteps$Trace", en_T9, 2, rfl, wd_93⟩, ⟨trivial, ⟨(Or.inr ⟨by decide, Or.inl lk_167⟩), ⟨lk_168, ⟨trivial, ⟨⟨"EvenSteps$Stretch", en_T7, 11, rfl, wd_109⟩, ⟨trivial, ⟨(Or.inr ⟨by decide, Or.inl lk_170⟩), ⟨lk_171, ⟨trivial, ⟨⟨"EvenSteps$Circle", en_T0, 8, rfl, wd_156⟩, ⟨trivial, ⟨(Or.inr ⟨by decide, Or.inl lk_173⟩), ⟨lk_174, ⟨trivial, ⟨trivial, ⟨(Or.inl ⟨rfl, wd_108⟩), ⟨lk_175, ⟨trivial, ⟨trivial, ⟨(Or.inl ⟨rfl, wd_108⟩), ⟨lk_176, ⟨trivial, ⟨trivial, trivial⟩⟩⟩⟩⟩⟩⟩⟩⟩⟩⟩⟩⟩⟩⟩⟩⟩⟩⟩⟩⟩⟩⟩⟩⟩⟩⟩⟩⟩⟩⟩⟩⟩⟩⟩⟩⟩⟩⟩
set_option maxRecDepth 100000 in
set_option maxHeartbeats 4000000 in
theorem n_X11_init_1 : en_lkC "EvenSteps" true [(.iload_n 1, 1, 1, 0, [], 0, 0), (.iconst 4, 1, 0, 0, [], 4, 0), (.if_icmp .ge 22, 3, 2, 0, [], 0, 0), (.aload_n 0, 1, 0, 0, [], 0, 0), (.getfield 23, 3, 2, 2, [(10, 0)], 0, 0), (.iload_n 1, 1, 1, 0, [], 0, 0), (.new 21, 3, 5, 0, [], 0, 0), (.dup, 1, 0, 0, [], 0, 0), (.invokespecial 55, 3, 0, 4, [(5, 34)], 0, 0), (.aastore, 1, 0, 0, [], 0, 0), (.iinc 1 1, 3, 1, 0, [], 1, 0), (.goto (-21), 3, 1, 0, [], 0, 0)] := ⟨trivial, ⟨trivial, ⟨trivial, ⟨trivial, ⟨lk_177, ⟨trivial, ⟨⟨"EvenSteps$Sheet", en_T5, 3, rfl, wd_91⟩, ⟨trivial, ⟨(Or.inr ⟨by decide, Or.inl lk_179⟩), ⟨trivial, ⟨trivial, ⟨trivial, trivial⟩⟩⟩⟩⟩⟩⟩⟩⟩⟩⟩⟩
set_option maxRecDepth 100000 in
set_option maxHeartbeats 4000000 in
theorem n_X11_init_2 : en_lkC "EvenSteps" true [(.return_, 1, 0, 0, [], 0, 0)] := ⟨trivial, trivial⟩
set_option maxRecDepth 100000 in
set_option maxHeartbeats 4000000 in
theorem n_X11_init : en_lkM (⟨"EvenSteps", "<init>", "()V"⟩, prog_1_method_1_code, 2, none, p_X11_init) := (List.forall_mem_cons.mpr ⟨n_X11_init_0, (List.forall_mem_cons.mpr ⟨n_X11_init_1, (List.forall_mem_cons.mpr ⟨n_X11_init_2, (fun _ h => absurd h List.not_mem_nil)⟩)⟩)⟩)
set_option maxRecDepth 100000 in
set_option maxHeartbeats 4000000 in
theorem k_X11_slope : en_ckM (⟨"EvenSteps", "slope", "(IIII)I"⟩, prog_1_method_2_code, 5, (some .int), p_X11_slope) = true := by decide +kernel
set_option maxRecDepth 100000 in
set_option maxHeartbeats 4000000 in
theorem n_X11_slope_0 : en_lkC "EvenSteps" false [(.iload_n 1, 1, 1, 0, [], 0, 0), (.sipush (-1000), 3, 0, 0, [], (-1000), 0), (.if_icmp .lt 33, 3, 1, 0, [], 0, 0), (.iload_n 1, 1, 1, 0, [], 0, 0), (.sipush 1000, 3, 0, 0, [], 1000, 0), (.if_icmp .gt 26, 3, 1, 0, [], 0, 0), (.iload_n 2, 1, 2, 0, [], 0, 0), (.bipush (-20), 2, 0, 0, [], (-20), 0), (.if_icmp .lt 20, 3, 1, 0, [], 0, 0), (.iload_n 2, 1, 2, 0, [], 0, 0), (.bipush 20, 2, 0, 0, [], 20, 0), (.if_icmp .gt 14, 3, 1, 0, [], 0, 0), (.iload_n 3, 1, 3, 0, [], 0, 0), (.iconst 1, 1, 0, 0, [], 1, 0), (.if_icmp .lt 9, 3, 1, 0, [], 0, 0), (.iload_n 3, 1, 3, 0, [], 0, 0), (.bipush 100, 2, 0, 0, [], 100, 0), (.if_icmp .le 9, 3, 2, 0, [], 0, 0)] := ⟨trivial, ⟨trivial, ⟨trivial, ⟨trivial, ⟨trivial, ⟨trivial, ⟨trivial, ⟨trivial, ⟨trivial, ⟨trivial, ⟨trivial, ⟨trivial, ⟨trivial, ⟨trivial, ⟨trivial, ⟨trivial, ⟨trivial, ⟨trivial, trivial⟩⟩⟩⟩⟩⟩⟩⟩⟩⟩⟩⟩⟩⟩⟩⟩⟩⟩
set_option maxRecDepth 100000 in
set_option maxHeartbeats 4000000 in
theorem n_X11_slope_1 : en_lkC "EvenSteps" false [(.aload_n 0, 1, 0, 0, [], 0, 0), (.iconst 1, 1, 0, 0, [], 1, 0), (.invokevirtual 56, 3, 1, 0, [(10, 120)], 0, 0), (.ireturn, 1, 0, 0, [], 0, 0)] := ⟨trivial, ⟨trivial, ⟨lk_180, ⟨trivial, trivial⟩⟩⟩⟩
set_option maxRecDepth 100000 in
set_option maxHeartbeats 4000000 in
theorem n_X11_slope_2 : en_lkC "EvenSteps" false [(.iload_n 2, 1, 2, 0, [], 0, 0), (.ifCond .eq 30, 3, 4, 0, [], 0, 0), (.iload 4, 2, 4, 0, [], 0, 0), (.iconst 2, 1, 0, 0, [], 2, 0), (.if_icmp .lt 18, 3, 3, 0, [], 0, 0), (.iload 4, 2, 4, 0, [], 0, 0), (.bipush 50, 2, 0, 0, [], 50, 0), (.if_icmp .gt 11, 3, 3, 0, [], 0, 0), (.iload 4, 2, 4, 0, [], 0, 0), (.invokestatic 60, 3, 1, 3, [(0, 126)], 0, 0), (.ifCond .eq 9, 3, 4, 0, [], 0, 0)] := ⟨trivial, ⟨trivial, ⟨trivial, ⟨trivial, ⟨trivial, ⟨trivial, ⟨trivial, ⟨trivial, ⟨trivial, ⟨lk_181, ⟨trivial, trivial⟩⟩⟩⟩⟩⟩⟩⟩⟩⟩⟩
set_option maxRecDepth 100000 in
set_option maxHeartbeats 4000000 in
theorem n_X11_slope_3 : en_lkC "EvenSteps" false [(.aload_n 0, 1, 0, 0, [], 0, 0), (.iconst 1, 1, 0, 0, [], 1, 0), (.invokevirtual 56, 3, 1, 0, [(10, 120)], 0, 0), (.ireturn, 1, 0, 0, [], 0, 0)] := ⟨trivial, ⟨trivial, ⟨lk_180, ⟨trivial, trivial⟩⟩⟩⟩
set_option maxRecDepth 100000 in
set_option maxHeartbeats 4000000 in
theorem n_X11_slope_4 : en_lkC "EvenSteps" false [(.aload_n 0, 1, 0, 0, [], 0, 0), (.getfield 64, 3, 8, 0, [(10, 0)], 0, 0), (.bipush 8, 2, 0, 0, [], 8, 0), (.if_icmp .lt 9, 3, 5, 0, [], 0, 0), (.aload_n 0, 1, 0, 0, [], 0, 0), (.iconst 2, 1, 0, 0, [], 2, 0), (.invokevirtual 56, 3, 1, 0, [(10, 120)], 0, 0), (.ireturn, 1, 0, 0, [], 0, 0)] := ⟨trivial, ⟨lk_182, ⟨trivial, ⟨trivial, ⟨trivial, ⟨trivial, ⟨lk_180, ⟨trivial, trivial⟩⟩⟩⟩⟩⟩⟩⟩
set_option maxRecDepth 100000 in
set_option maxHeartbeats 4000000 in
theorem n_X11_slope_5 : en_lkC "EvenSteps" false [(.iload_n 1, 1, 1, 0, [], 0, 0), (.i2l, 1, 0, 0, [], 0, 0), (.iload_n 2, 1, 2, 0, [], 0, 0), (.i2l, 1, 0, 0, [], 0, 0), (.iload 4, 2, 4, 0, [], 0, 0), (.i2l, 1, 0, 0, [], 0, 0), (.invokestatic 68, 3, 3, 0, [(0, 128)], 0, 0), (.ifCond .le 23, 3, 6, 0, [], 0, 0), (.iload_n 1, 1, 1, 0, [], 0, 0), (.i2l, 1, 0, 0, [], 0, 0), (.ldc2_w 72, 3, 0, 0, [], 0, 20), (.iload_n 3, 1, 3, 0, [], 0, 0), (.i2l, 1, 0, 0, [], 0, 0), (.lmul, 1, 0, 0, [], 0, 0), (.lsub, 1, 0, 0, [], 0, 0), (.iload_n 2, 1, 2, 0, [], 0, 0), (.i2l, 1, 0, 0, [], 0, 0), (.iload 4, 2, 4, 0, [], 0, 0), (.i2l, 1, 0, 0, [], 0, 0), (.invokestatic 68, 3, 3, 0, [(0, 128)], 0, 0), (.ifCond .le 9, 3, 7, 0, [], 0, 0)] := ⟨trivial, ⟨trivial, ⟨trivial, ⟨trivial, ⟨trivial, ⟨trivial, ⟨lk_183, ⟨trivial, ⟨trivial, ⟨trivial, ⟨wd_269, ⟨trivial, ⟨trivial, ⟨trivial, ⟨trivial, ⟨trivial, ⟨trivial, ⟨trivial, ⟨trivial, ⟨lk_183, ⟨trivial, trivial⟩⟩⟩⟩⟩⟩⟩⟩⟩⟩⟩⟩⟩⟩⟩⟩⟩⟩⟩⟩⟩
set_option maxRecDepth 100000 in
set_option maxHeartbeats 4000000 in
theorem n_X11_slope_6 : en_lkC "EvenSteps" false [(.aload_n 0, 1, 0, 0, [], 0, 0), (.iconst 3, 1, 0, 0, [], 3, 0), (.invokevirtual 56, 3, 1, 0, [(10, 120)], 0, 0), (.ireturn, 1, 0, 0, [], 0, 0)] := ⟨trivial, ⟨trivial, ⟨lk_180, ⟨trivial, trivial⟩⟩⟩⟩
set_option maxRecDepth 100000 in
set_option maxHeartbeats 4000000 in
theorem n_X11_slope_7 : en_lkC "EvenSteps" false [(.aload_n 0, 1, 0, 0, [], 0, 0), (.getfield 11, 3, 0, 2, [(10, 0)], 0, 0), (.aload_n 0, 1, 0, 0, [], 0, 0), (.getfield 64, 3, 8, 0, [(10, 0)], 0, 0), (.new 9, 3, 6, 0, [], 0, 0), (.dup, 1, 0, 0, [], 0, 0), (.iload_n 1, 1, 1, 0, [], 0, 0), (.i2l, 1, 0, 0, [], 0, 0), (.iload_n 2, 1, 2, 0, [], 0, 0), (.i2l, 1, 0, 0, [], 0, 0), (.iload_n 3, 1, 3, 0, [], 0, 0), (.i2l, 1, 0, 0, [], 0, 0), (.iload 4, 2, 4, 0, [], 0, 0), (.i2l, 1, 0, 0, [], 0, 0), (.invokespecial 74, 3, 4, 4, [(6, 39)], 0, 0), (.aastore, 1, 0, 0, [], 0, 0), (.aload_n 0, 1, 0, 0, [], 0, 0), (.dup, 1, 0, 0, [], 0, 0), (.getfield 64, 3, 8, 0, [(10, 0)], 0, 0), (.iconst 1, 1, 0, 0, [], 1, 0), (.iadd, 1, 0, 0, [], 0, 0), (.putfield 64, 3, 8, 0, [(10, 0)], 0, 0), (.aload_n 0, 1, 0, 0, [], 0, 0), (.aload_n 0, 1, 0, 0, [], 0, 0), (.getfield 64, 3, 8, 0, [(10, 0)], 0, 0), (.iconst 1, 1, 0, 0, [], 1, 0), (.isub, 1, 0, 0, [], 0, 0), (.invokevirtual 77, 3, 1, 0, [(10, 121)], 0, 0), (.ireturn, 1, 0, 0, [], 0, 0)] := ⟨trivial, ⟨lk_185, ⟨trivial, ⟨lk_182, ⟨⟨"EvenSteps$Slope", en_T6, 8, rfl, wd_87⟩, ⟨trivial, ⟨trivial, ⟨trivial, ⟨trivial, ⟨trivial, ⟨trivial, ⟨trivial, ⟨trivial, ⟨trivial, ⟨(Or.inr ⟨by decide, Or.inl lk_187⟩), ⟨trivial, ⟨trivial, ⟨trivial, ⟨lk_182, ⟨trivial, ⟨trivial, ⟨lk_188, ⟨trivial, ⟨trivial, ⟨lk_182, ⟨trivial, ⟨trivial, ⟨lk_189, ⟨trivial, trivial⟩⟩⟩⟩⟩⟩⟩⟩⟩⟩⟩⟩⟩⟩⟩⟩⟩⟩⟩⟩⟩⟩⟩⟩⟩⟩⟩⟩⟩
set_option maxRecDepth 100000 in
set_option maxHeartbeats 4000000 in
theorem n_X11_slope : en_lkM (⟨"EvenSteps", "slope", "(IIII)I"⟩, prog_1_method_2_code, 5, (some .int), p_X11_slope) := (List.forall_mem_cons.mpr ⟨n_X11_slope_0, (List.forall_mem_cons.mpr ⟨n_X11_slope_1, (List.forall_mem_cons.mpr ⟨n_X11_slope_2, (List.forall_mem_cons.mpr ⟨n_X11_slope_3, (List.forall_mem_cons.mpr ⟨n_X11_slope_4, (List.forall_mem_cons.mpr ⟨n_X11_slope_5, (List.forall_mem_cons.mpr ⟨n_X11_slope_6, (List.forall_mem_cons.mpr ⟨n_X11_slope_7, (fun _ h => absurd h List.not_mem_nil)⟩)⟩)⟩)⟩)⟩)⟩)⟩)⟩)
set_option maxRecDepth 100000 in
set_option maxHeartbeats 4000000 in
theorem k_X11_row : en_ckM (⟨"EvenSteps", "row", "(III)I"⟩, prog_1_method_3_code, 5, (some .int), p_X11_row) = true := by decide +kernel
set_option maxRecDepth 100000 in
set_option maxHeartbeats 4000000 in
theorem n_X11_row_0 : en_lkC "EvenSteps" false [(.iload_n 1, 1, 1, 0, [], 0, 0), (.ifCond .lt 28, 3, 1, 0, [], 0, 0), (.iload_n 1, 1, 1, 0, [], 0, 0), (.iconst 4, 1, 0, 0, [], 4, 0), (.if_icmp .ge 23, 3, 1, 0, [], 0, 0), (.iload_n 2, 1, 2, 0, [], 0, 0), (.ifCond .lt 19, 3, 1, 0, [], 0, 0), (.iload_n 2, 1, 2, 0, [], 0, 0), (.iconst 2, 1, 0, 0, [], 2, 0), (.if_icmp .gt 14, 3, 1, 0, [], 0, 0), (.iload_n 3, 1, 3, 0, [], 0, 0), (.iconst 1, 1, 0, 0, [], 1, 0), (.if_icmp .lt 9, 3, 1, 0, [], 0, 0), (.iload_n 3, 1, 3, 0, [], 0, 0), (.bipush 40, 2, 0, 0, [], 40, 0), (.if_icmp .le 9, 3, 2, 0, [], 0, 0)] := ⟨trivial, ⟨trivial, ⟨trivial, ⟨trivial, ⟨trivial, ⟨trivial, ⟨trivial, ⟨trivial, ⟨trivial, ⟨trivial, ⟨trivial, ⟨trivial, ⟨trivial, ⟨trivial, ⟨trivial, ⟨trivial, trivial⟩⟩⟩⟩⟩⟩⟩⟩⟩⟩⟩⟩⟩⟩⟩⟩
set_option maxRecDepth 100000 in
set_option maxHeartbeats 4000000 in
theorem n_X11_row_1 : en_lkC "EvenSteps" false [(.aload_n 0, 1, 0, 0, [], 0, 0), (.iconst 1, 1, 0, 0, [], 1, 0), (.invokevirtual 56, 3, 1, 0, [(10, 120)], 0, 0), (.ireturn, 1, 0, 0, [], 0, 0)] := ⟨trivial, ⟨trivial, ⟨lk_180, ⟨trivial, trivial⟩⟩⟩⟩
set_option maxRecDepth 100000 in
set_option maxHeartbeats 4000000 in
theorem n_X11_row_2 : en_lkC "EvenSteps" false [(.aload_n 0, 1, 0, 0, [], 0, 0), (.getfield 80, 3, 9, 0, [(10, 0)], 0, 0), (.bipush 10, 2, 0, 0, [], 10, 0), (.if_icmp .lt 9, 3, 3, 0, [], 0, 0), (.aload_n 0, 1, 0, 0, [], 0, 0), (.iconst 2, 1, 0, 0, [], 2, 0), (.invokevirtual 56, 3, 1, 0, [(10, 120)], 0, 0), (.ireturn, 1, 0, 0, [], 0, 0)] := ⟨trivial, ⟨lk_190, ⟨trivial, ⟨trivial, ⟨trivial, ⟨trivial, ⟨lk_180, ⟨trivial, trivial⟩⟩⟩⟩⟩⟩⟩⟩
set_option maxRecDepth 100000 in
set_option maxHeartbeats 4000000 in
theorem n_X11_row_3 : en_lkC "EvenSteps" false [(.aload_n 0, 1, 0, 0, [], 0, 0), (.getfield 23, 3, 2, 2, [(10, 0)], 0, 0), (.iload_n 1, 1, 1, 0, [], 0, 0), (.aaload, 1, 0, 0, [], 0, 0), (.astore 4, 2, 4, 0, [], 0, 0), (.aload 4, 2, 4, 0, [], 0, 0), (.invokevirtual 83, 3, 0, 3, [(5, 35)], 0, 0), (.ifCond .eq 10, 3, 4, 0, [], 0, 0), (.aload_n 0, 1, 0, 0, [], 0, 0), (.bipush 10, 2, 0, 0, [], 10, 0), (.invokevirtual 56, 3, 1, 0, [(10, 120)], 0, 0), (.ireturn, 1, 0, 0, [], 0, 0)] := ⟨trivial, ⟨lk_191, ⟨trivial, ⟨trivial, ⟨trivial, ⟨trivial, ⟨lk_192, ⟨trivial, ⟨trivial, ⟨trivial, ⟨lk_180, ⟨trivial, trivial⟩⟩⟩⟩⟩⟩⟩⟩⟩⟩⟩⟩
set_option maxRecDepth 100000 in
set_option maxHeartbeats 4000000 in
theorem n_X11_row_4 : en_lkC "EvenSteps" false [(.aload 4, 2, 4, 0, [], 0, 0), (.getfield 87, 3, 1, 0, [(5, 0)], 0, 0), (.iload_n 2, 1, 2, 0, [], 0, 0), (.if_icmp .eq 10, 3, 5, 0, [], 0, 0), (.aload_n 0, 1, 0, 0, [], 0, 0), (.bipush 11, 2, 0, 0, [], 11, 0), (.invokevirtual 56, 3, 1, 0, [(10, 120)], 0, 0), (.ireturn, 1, 0, 0, [], 0, 0)] := ⟨trivial, ⟨lk_193, ⟨trivial, ⟨trivial, ⟨trivial, ⟨trivial, ⟨lk_180, ⟨trivial, trivial⟩⟩⟩⟩⟩⟩⟩⟩
set_option maxRecDepth 100000 in
set_option maxHeartbeats 4000000 in
theorem n_X11_row_5 : en_lkC "EvenSteps" false [(.iload_n 3, 1, 3, 0, [], 0, 0), (.aload 4, 2, 4, 0, [], 0, 0), (.getfield 90, 3, 2, 0, [(5, 0)], 0, 0), (.if_icmp .le 10, 3, 6, 0, [], 0, 0), (.aload_n 0, 1, 0, 0, [], 0, 0), (.bipush 12, 2, 0, 0, [], 12, 0), (.invokevirtual 56, 3, 1, 0, [(10, 120)], 0, 0), (.ireturn, 1, 0, 0, [], 0, 0)] := ⟨trivial, ⟨trivial, ⟨lk_194, ⟨trivial, ⟨trivial, ⟨trivial, ⟨lk_180, ⟨trivial, trivial⟩⟩⟩⟩⟩⟩⟩⟩
set_option maxRecDepth 100000 in
set_option maxHeartbeats 4000000 in
theorem n_X11_row_6 : en_lkC "EvenSteps" false [(.aload 4, 2, 4, 0, [], 0, 0), (.iload_n 3, 1, 3, 0, [], 0, 0), (.invokevirtual 93, 3, 1, 3, [(5, 37)], 0, 0), (.ifCond .ne 9, 3, 7, 0, [], 0, 0), (.aload_n 0, 1, 0, 0, [], 0, 0), (.iconst 3, 1, 0, 0, [], 3, 0), (.invokevirtual 56, 3, 1, 0, [(10, 120)], 0, 0), (.ireturn, 1, 0, 0, [], 0, 0)] := ⟨trivial, ⟨trivial, ⟨lk_195, ⟨trivial, ⟨trivial, ⟨trivial, ⟨lk_180, ⟨trivial, trivial⟩⟩⟩⟩⟩⟩⟩⟩
set_option maxRecDepth 100000 in
set_option maxHeartbeats 4000000 in
theorem n_X11_row_7 : en_lkC "EvenSteps" false [(.aload_n 0, 1, 0, 0, [], 0, 0), (.new 96, 3, 8, 0, [], 0, 0), (.dup, 1, 0, 0, [], 0, 0), (.aload_n 0, 1, 0, 0, [], 0, 0), (.getfield 80, 3, 9, 0, [(10, 0)], 0, 0), (.aload 4, 2, 4, 0, [], 0, 0), (.iload_n 3, 1, 3, 0, [], 0, 0), (.invokevirtual 98, 3, 1, 2, [(5, 38)], 0, 0), (.invokespecial 102, 3, 2, 4, [(8, 55)], 0, 0), (.invokevirtual 105, 3, 1, 0, [(10, 122)], 0, 0), (.ireturn, 1, 0, 0, [], 0, 0)] := ⟨trivial, ⟨⟨"EvenSteps$Told", en_T8, 3, rfl, wd_348⟩, ⟨trivial, ⟨trivial, ⟨lk_190, ⟨trivial, ⟨trivial, ⟨lk_197, ⟨(Or.inr ⟨by decide, Or.inl lk_198⟩), ⟨lk_199, ⟨trivial, trivial⟩⟩⟩⟩⟩⟩⟩⟩⟩⟩⟩
set_option maxRecDepth 100000 in
set_option maxHeartbeats 4000000 in
theorem n_X11_row : en_lkM (⟨"EvenSteps", "row", "(III)I"⟩, prog_1_method_3_code, 5, (some .int), p_X11_row) := (List.forall_mem_cons.mpr ⟨n_X11_row_0, (List.forall_mem_cons.mpr ⟨n_X11_row_1, (List.forall_mem_cons.mpr ⟨n_X11_row_2, (List.forall_mem_cons.mpr ⟨n_X11_row_3, (List.forall_mem_cons.mpr ⟨n_X11_row_4, (List.forall_mem_cons.mpr ⟨n_X11_row_5, (List.forall_mem_cons.mpr ⟨n_X11_row_6, (List.forall_mem_cons.mpr ⟨n_X11_row_7, (fun _ h => absurd h List.not_mem_nil)⟩)⟩)⟩)⟩)⟩)⟩)⟩)⟩)
set_option maxRecDepth 100000 in
set_option maxHeartbeats 4000000 in
theorem k_X11_even : en_ckM (⟨"EvenSteps", "even", "(III)I"⟩, prog_1_method_4_code, 5, (some .int), p_X11_even) = true := by decide +kernel
set_option maxRecDepth 100000 in
set_option maxHeartbeats 4000000 in
theorem n_X11_even_0 : en_lkC "EvenSteps" false [(.aload_n 0, 1, 0, 0, [], 0, 0), (.iload_n 1, 1, 1, 0, [], 0, 0), (.invokevirtual 109, 3, 1, 2, [(10, 123)], 0, 0), (.astore 4, 2, 4, 0, [], 0, 0), (.aload 4, 2, 4, 0, [], 0, 0), (.ifnull 23, 3, 1, 0, [], 0, 0), (.iload_n 3, 1, 3, 0, [], 0, 0), (.iconst 1, 1, 0, 0, [], 1, 0), (.if_icmp .lt 18, 3, 1, 0, [], 0, 0), (.iload_n 3, 1, 3, 0, [], 0, 0), (.bipush 100, 2, 0, 0, [], 100, 0), (.if_icmp .gt 12, 3, 1, 0, [], 0, 0), (.iload_n 2, 1, 2, 0, [], 0, 0), (.ifCond .lt 8, 3, 1, 0, [], 0, 0), (.iload_n 2, 1, 2, 0, [], 0, 0), (.iload_n 3, 1, 3, 0, [], 0, 0), (.if_icmp .lt 9, 3, 2, 0, [], 0, 0)] := ⟨trivial, ⟨trivial, ⟨lk_200, ⟨trivial, ⟨trivial, ⟨trivial, ⟨trivial, ⟨trivial, ⟨trivial, ⟨trivial, ⟨trivial, ⟨trivial, ⟨trivial, ⟨trivial, ⟨trivial, ⟨trivial, ⟨trivial, trivial⟩⟩⟩⟩⟩⟩⟩⟩⟩⟩⟩⟩⟩⟩⟩⟩⟩
set_option maxRecDepth 100000 in
set_option maxHeartbeats 4000000 in
theorem n_X11_even_1 : en_lkC "EvenSteps" false [(.aload_n 0, 1, 0, 0, [], 0, 0), (.iconst 1, 1, 0, 0, [], 1, 0), (.invokevirtual 56, 3, 1, 0, [(10, 120)], 0, 0), (.ireturn, 1, 0, 0, [], 0, 0)] := ⟨trivial, ⟨trivial, ⟨lk_180, ⟨trivial, trivial⟩⟩⟩⟩
set_option maxRecDepth 100000 in
set_option maxHeartbeats 4000000 in
theorem n_X11_even_2 : en_lkC "EvenSteps" false [(.aload_n 0, 1, 0, 0, [], 0, 0), (.getfield 80, 3, 9, 0, [(10, 0)], 0, 0), (.bipush 10, 2, 0, 0, [], 10, 0), (.if_icmp .lt 9, 3, 3, 0, [], 0, 0), (.aload_n 0, 1, 0, 0, [], 0, 0), (.iconst 2, 1, 0, 0, [], 2, 0), (.invokevirtual 56, 3, 1, 0, [(10, 120)], 0, 0), (.ireturn, 1, 0, 0, [], 0, 0)] := ⟨trivial, ⟨lk_190, ⟨trivial, ⟨trivial, ⟨trivial, ⟨trivial, ⟨lk_180, ⟨trivial, trivial⟩⟩⟩⟩⟩⟩⟩⟩
set_option maxRecDepth 100000 in
set_option maxHeartbeats 4000000 in
theorem n_X11_even_3 : en_lkC "EvenSteps" false [(.aload_n 0, 1, 0, 0, [], 0, 0), (.new 113, 3, 2, 0, [], 0, 0), (.dup, 1, 0, 0, [], 0, 0), (.aload_n 0, 1, 0, 0, [], 0, 0), (.getfield 80, 3, 9, 0, [(10, 0)], 0, 0), (.aload 4, 2, 4, 0, [], 0, 0), (.iload_n 1, 1, 1, 0, [], 0, 0), (.iload_n 2, 1, 2, 0, [], 0, 0), (.iload_n 3, 1, 3, 0, [], 0, 0), (.invokespecial 115, 3, 5, 4, [(2, 15), (3, 15), (4, 15)], 0, 0), (.invokevirtual 105, 3, 1, 0, [(10, 122)], 0, 0), (.ireturn, 1, 0, 0, [], 0, 0)] := ⟨trivial, ⟨⟨"EvenSteps$Even", en_T2, 6, rfl, wd_419⟩, ⟨trivial, ⟨trivial, ⟨lk_190, ⟨trivial, ⟨trivial, ⟨trivial, ⟨trivial, ⟨(Or.inr ⟨by decide, Or.inl lk_202⟩), ⟨lk_199, ⟨trivial, trivial⟩⟩⟩⟩⟩⟩⟩⟩⟩⟩⟩⟩
set_option maxRecDepth 100000 in
set_option maxHeartbeats 4000000 in
theorem n_X11_even : en_lkM (⟨"EvenSteps", "even", "(III)I"⟩, prog_1_method_4_code, 5, (some .int), p_X11_even) := (List.forall_mem_cons.mpr ⟨n_X11_even_0, (List.forall_mem_cons.mpr ⟨n_X11_even_1, (List.forall_mem_cons.mpr ⟨n_X11_even_2, (List.forall_mem_cons.mpr ⟨n_X11_even_3, (fun _ h => absurd h List.not_mem_nil)⟩)⟩)⟩)⟩)
set_option maxRecDepth 100000 in
set_option maxHeartbeats 4000000 in
theorem k_X11_ring : en_ckM (⟨"EvenSteps", "ring", "(II)I"⟩, prog_1_method_5_code, 3, (some .int), p_X11_ring) = true := by decide +kernel
set_option maxRecDepth 100000 in
set_option maxHeartbeats 4000000 in
theorem n_X11_ring_0 : en_lkC "EvenSteps" false [(.iload_n 2, 1, 2, 0, [], 0, 0), (.iconst 1, 1, 0, 0, [], 1, 0), (.if_icmp .lt 19, 3, 1, 0, [], 0, 0), (.iload_n 2, 1, 2, 0, [], 0, 0), (.bipush 60, 2, 0, 0, [], 60, 0), (.if_icmp .gt 13, 3, 1, 0, [], 0, 0), (.iload_n 1, 1, 1, 0, [], 0, 0), (.iconst 1, 1, 0, 0, [], 1, 0), (.if_icmp .lt 8, 3, 1, 0, [], 0, 0), (.iload_n 1, 1, 1, 0, [], 0, 0), (.iload_n 2, 1, 2, 0, [], 0, 0), (.if_icmp .le 9, 3, 2, 0, [], 0, 0)] := ⟨trivial, ⟨trivial, ⟨trivial, ⟨trivial, ⟨trivial, ⟨trivial, ⟨trivial, ⟨trivial, ⟨trivial, ⟨trivial, ⟨trivial, ⟨trivial, trivial⟩⟩⟩⟩⟩⟩⟩⟩⟩⟩⟩⟩
set_option maxRecDepth 100000 in
set_option maxHeartbeats 4000000 in
theorem n_X11_ring_1 : en_lkC "EvenSteps" false [(.aload_n 0, 1, 0, 0, [], 0, 0), (.iconst 1, 1, 0, 0, [], 1, 0), (.invokevirtual 56, 3, 1, 0, [(10, 120)], 0, 0), (.ireturn, 1, 0, 0, [], 0, 0)] := ⟨trivial, ⟨trivial, ⟨lk_180, ⟨trivial, trivial⟩⟩⟩⟩
set_option maxRecDepth 100000 in
set_option maxHeartbeats 4000000 in
theorem n_X11_ring_2 : en_lkC "EvenSteps" false [(.aload_n 0, 1, 0, 0, [], 0, 0), (.getfield 80, 3, 9, 0, [(10, 0)], 0, 0), (.bipush 10, 2, 0, 0, [], 10, 0), (.if_icmp .lt 9, 3, 3, 0, [], 0, 0), (.aload_n 0, 1, 0, 0, [], 0, 0), (.iconst 2, 1, 0, 0, [], 2, 0), (.invokevirtual 56, 3, 1, 0, [(10, 120)], 0, 0), (.ireturn, 1, 0, 0, [], 0, 0)] := ⟨trivial, ⟨lk_190, ⟨trivial, ⟨trivial, ⟨trivial, ⟨trivial, ⟨lk_180, ⟨trivial, trivial⟩⟩⟩⟩⟩⟩⟩⟩
set_option maxRecDepth 100000 in
set_option maxHeartbeats 4000000 in
theorem n_X11_ring_3 : en_lkC "EvenSteps" false [(.aload_n 0, 1, 0, 0, [], 0, 0), (.new 118, 3, 4, 0, [], 0, 0), (.dup, 1, 0, 0, [], 0, 0), (.aload_n 0, 1, 0, 0, [], 0, 0), (.getfield 80, 3, 9, 0, [(10, 0)], 0, 0), (.iload_n 1, 1, 1, 0, [], 0, 0), (.iload_n 2, 1, 2, 0, [], 0, 0), (.invokespecial 120, 3, 3, 4, [(4, 25)], 0, 0), (.invokevirtual 105, 3, 1, 0, [(10, 122)], 0, 0), (.ireturn, 1, 0, 0, [], 0, 0)] := ⟨trivial, ⟨⟨"EvenSteps$Ring", en_T4, 6, rfl, wd_447⟩, ⟨trivial, ⟨trivial, ⟨lk_190, ⟨trivial, ⟨trivial, ⟨(Or.inr ⟨by decide, Or.inl lk_204⟩), ⟨lk_199, ⟨trivial, trivial⟩⟩⟩⟩⟩⟩⟩⟩⟩⟩
set_option maxRecDepth 100000 in
set_option maxHeartbeats 4000000 in
theorem n_X11_ring : en_lkM (⟨"EvenSteps", "ring", "(II)I"⟩, prog_1_method_5_code, 3, (some .int), p_X11_ring) := (List.forall_mem_cons.mpr ⟨n_X11_ring_0, (List.forall_mem_cons.mpr ⟨n_X11_ring_1, (List.forall_mem_cons.mpr ⟨n_X11_ring_2, (List.forall_mem_cons.mpr ⟨n_X11_ring_3, (fun _ h => absurd h List.not_mem_nil)⟩)⟩)⟩)⟩)
set_option maxRecDepth 100000 in
set_option maxHeartbeats 4000000 in
theorem k_X11_cut : en_ckM (⟨"EvenSteps", "cut", "(IIIII)I"⟩, prog_1_method_6_code, 7, (some .int), p_X11_cut) = true := by decide +kernel
set_option maxRecDepth 100000 in
set_option maxHeartbeats 4000000 in
theorem n_X11_cut_0 : en_lkC "EvenSteps" false [(.aload_n 0, 1, 0, 0, [], 0, 0), (.iload_n 1, 1, 1, 0, [], 0, 0), (.invokevirtual 123, 3, 1, 2, [(10, 124)], 0, 0), (.astore 6, 2, 6, 0, [], 0, 0), (.aload 6, 2, 6, 0, [], 0, 0), (.ifnull 21, 3, 1, 0, [], 0, 0), (.iload_n 2, 1, 2, 0, [], 0, 0), (.iload_n 3, 1, 3, 0, [], 0, 0), (.invokestatic 127, 3, 2, 3, [(0, 125)], 0, 0), (.ifCond .eq 13, 3, 1, 0, [], 0, 0), (.iload 4, 2, 4, 0, [], 0, 0), (.iload 5, 2, 5, 0, [], 0, 0), (.invokestatic 127, 3, 2, 3, [(0, 125)], 0, 0), (.ifCond .ne 9, 3, 2, 0, [], 0, 0)] := ⟨trivial, ⟨trivial, ⟨lk_205, ⟨trivial, ⟨trivial, ⟨trivial, ⟨trivial, ⟨trivial, ⟨lk_206, ⟨trivial, ⟨trivial, ⟨trivial, ⟨lk_206, ⟨trivial, trivial⟩⟩⟩⟩⟩⟩⟩⟩⟩⟩⟩⟩⟩⟩
set_option maxRecDepth 100000 in
set_option maxHeartbeats 4000000 in
theorem n_X11_cut_1 : en_lkC "EvenSteps" false [(.aload_n 0, 1, 0, 0, [], 0, 0), (.iconst 1, 1, 0, 0, [], 1, 0), (.invokevirtual 56, 3, 1, 0, [(10, 120)], 0, 0), (.ireturn, 1, 0, 0, [], 0, 0)] := ⟨trivial, ⟨trivial, ⟨lk_180, ⟨trivial, trivial⟩⟩⟩⟩
set_option maxRecDepth 100000 in
set_option maxHeartbeats 4000000 in
theorem n_X11_cut_2 : en_lkC "EvenSteps" false [(.aload_n 0, 1, 0, 0, [], 0, 0), (.getfield 80, 3, 9, 0, [(10, 0)], 0, 0), (.bipush 10, 2, 0, 0, [], 10, 0), (.if_icmp .lt 9, 3, 3, 0, [], 0, 0), (.aload_n 0, 1, 0, 0, [], 0, 0), (.iconst 2, 1, 0, 0, [], 2, 0), (.invokevirtual 56, 3, 1, 0, [(10, 120)], 0, 0), (.ireturn, 1, 0, 0, [], 0, 0)] := ⟨trivial, ⟨lk_190, ⟨trivial, ⟨trivial, ⟨trivial, ⟨trivial, ⟨lk_180, ⟨trivial, trivial⟩⟩⟩⟩⟩⟩⟩⟩
set_option maxRecDepth 100000 in
set_option maxHeartbeats 4000000 in
theorem n_X11_cut_3 : en_lkC "EvenSteps" false [(.aload_n 0, 1, 0, 0, [], 0, 0), (.new 131, 3, 1, 0, [], 0, 0), (.dup, 1, 0, 0, [], 0, 0), (.aload_n 0, 1, 0, 0, [], 0, 0), (.getfield 80, 3, 9, 0, [(10, 0)], 0, 0), (.aload 6, 2, 6, 0, [], 0, 0), (.iload_n 2, 1, 2, 0, [], 0, 0), (.iload_n 3, 1, 3, 0, [], 0, 0), (.iload 4, 2, 4, 0, [], 0, 0), (.iload 5, 2, 5, 0, [], 0, 0), (.invokespecial 133, 3, 6, 4, [(1, 7)], 0, 0), (.invokevirtual 105, 3, 1, 0, [(10, 122)], 0, 0), (.ireturn, 1, 0, 0, [], 0, 0)] := ⟨trivial, ⟨⟨"EvenSteps$Cut", en_T1, 11, rfl, wd_474⟩, ⟨trivial, ⟨trivial, ⟨lk_190, ⟨trivial, ⟨trivial, ⟨trivial, ⟨trivial, ⟨trivial, ⟨(Or.inr ⟨by decide, Or.inl lk_208⟩), ⟨lk_199, ⟨trivial, trivial⟩⟩⟩⟩⟩⟩⟩⟩⟩⟩⟩⟩⟩
set_option maxRecDepth 100000 in
set_option maxHeartbeats 4000000 in
theorem n_X11_cut : en_lkM (⟨"EvenSteps", "cut", "(IIIII)I"⟩, prog_1_method_6_code, 7, (some .int), p_X11_cut) := (List.forall_mem_cons.mpr ⟨n_X11_cut_0, (List.forall_mem_cons.mpr ⟨n_X11_cut_1, (List.forall_mem_cons.mpr ⟨n_X11_cut_2, (List.forall_mem_cons.mpr ⟨n_X11_cut_3, (fun _ h => absurd h List.not_mem_nil)⟩)⟩)⟩)⟩)
set_option maxRecDepth 100000 in
set_option maxHeartbeats 4000000 in
theorem k_X11_points : en_ckM (⟨"EvenSteps", "points", "(I)I"⟩, prog_1_method_7_code, 3, (some .int), p_X11_points) = true := by decide +kernel
set_option maxRecDepth 100000 in
set_option maxHeartbeats 4000000 in
theorem n_X11_points_0 : en_lkC "EvenSteps" false [(.aload_n 0, 1, 0, 0, [], 0, 0), (.iload_n 1, 1, 1, 0, [], 0, 0), (.invokevirtual 109, 3, 1, 2, [(10, 123)], 0, 0), (.astore_n 2, 1, 2, 0, [], 0, 0), (.aload_n 2, 1, 2, 0, [], 0, 0), (.ifnonnull 9, 3, 1, 0, [], 0, 0), (.aload_n 0, 1, 0, 0, [], 0, 0), (.iconst 1, 1, 0, 0, [], 1, 0), (.invokevirtual 56, 3, 1, 0, [(10, 120)], 0, 0), (.ireturn, 1, 0, 0, [], 0, 0)] := ⟨trivial, ⟨trivial, ⟨lk_200, ⟨trivial, ⟨trivial, ⟨trivial, ⟨trivial, ⟨trivial, ⟨lk_180, ⟨trivial, trivial⟩⟩⟩⟩⟩⟩⟩⟩⟩⟩
set_option maxRecDepth 100000 in
set_option maxHeartbeats 4000000 in
theorem n_X11_points_1 : en_lkC "EvenSteps" false [(.aload_n 0, 1, 0, 0, [], 0, 0), (.getfield 80, 3, 9, 0, [(10, 0)], 0, 0), (.bipush 10, 2, 0, 0, [], 10, 0), (.if_icmp .lt 9, 3, 2, 0, [], 0, 0), (.aload_n 0, 1, 0, 0, [], 0, 0), (.iconst 2, 1, 0, 0, [], 2, 0), (.invokevirtual 56, 3, 1, 0, [(10, 120)], 0, 0), (.ireturn, 1, 0, 0, [], 0, 0)] := ⟨trivial, ⟨lk_190, ⟨trivial, ⟨trivial, ⟨trivial, ⟨trivial, ⟨lk_180, ⟨trivial, trivial⟩⟩⟩⟩⟩⟩⟩⟩
set_option maxRecDepth 100000 in
set_option maxHeartbeats 4000000 in
theorem n_X11_points_2 : en_lkC "EvenSteps" false [(.aload_n 0, 1, 0, 0, [], 0, 0), (.new 136, 3, 3, 0, [], 0, 0), (.dup, 1, 0, 0, [], 0, 0), (.aload_n 0, 1, 0, 0, [], 0, 0), (.getfield 80, 3, 9, 0, [(10, 0)], 0, 0), (.aload_n 2, 1, 2, 0, [], 0, 0), (.iload_n 1, 1, 1, 0, [], 0, 0), (.invokespecial 138, 3, 3, 4, [(3, 21)], 0, 0), (.invokevirtual 105, 3, 1, 0, [(10, 122)], 0, 0), (.ireturn, 1, 0, 0, [], 0, 0)] := ⟨trivial, ⟨⟨"EvenSteps$Points", en_T3, 6, rfl, wd_514⟩, ⟨trivial, ⟨trivial, ⟨lk_190, ⟨trivial, ⟨trivial, ⟨(Or.inr ⟨by decide, Or.inl lk_210⟩), ⟨lk_199, ⟨trivial, trivial⟩⟩⟩⟩⟩⟩⟩⟩⟩⟩
set_option maxRecDepth 100000 in
set_option maxHeartbeats 4000000 in
theorem n_X11_points : en_lkM (⟨"EvenSteps", "points", "(I)I"⟩, prog_1_method_7_code, 3, (some .int), p_X11_points) := (List.forall_mem_cons.mpr ⟨n_X11_points_0, (List.forall_mem_cons.mpr ⟨n_X11_points_1, (List.forall_mem_cons.mpr ⟨n_X11_points_2, (fun _ h => absurd h List.not_mem_nil)⟩)⟩)⟩)
set_option maxRecDepth 100000 in
set_option maxHeartbeats 4000000 in
theorem k_X11_drop : en_ckM (⟨"EvenSteps", "drop", "(I)I"⟩, prog_1_method_8_code, 2, (some .int), p_X11_drop) = true := by decide +kernel
set_option maxRecDepth 100000 in
set_option maxHeartbeats 4000000 in
theorem n_X11_drop_0 : en_lkC "EvenSteps" false [(.iload_n 1, 1, 1, 0, [], 0, 0), (.ifCond .ne 8, 3, 1, 0, [], 0, 0), (.aload_n 0, 1, 0, 0, [], 0, 0), (.invokevirtual 141, 3, 0, 0, [(10, 69)], 0, 0), (.ireturn, 1, 0, 0, [], 0, 0)] := ⟨trivial, ⟨trivial, ⟨trivial, ⟨lk_211, ⟨trivial, trivial⟩⟩⟩⟩⟩
set_option maxRecDepth 100000 in
set_option maxHeartbeats 4000000 in
theorem n_X11_drop_1 : en_lkC "EvenSteps" false [(.iload_n 1, 1, 1, 0, [], 0, 0), (.iconst 1, 1, 0, 0, [], 1, 0), (.if_icmp .ne 10, 3, 2, 0, [], 0, 0), (.aload_n 0, 1, 0, 0, [], 0, 0), (.invokevirtual 145, 3, 0, 0, [(10, 70)], 0, 0), (.goto 8, 3, 3, 0, [], 0, 0)] := ⟨trivial, ⟨trivial, ⟨trivial, ⟨trivial, ⟨lk_212, ⟨trivial, trivial⟩⟩⟩⟩⟩⟩
set_option maxRecDepth 100000 in
set_option maxHeartbeats 4000000 in
theorem n_X11_drop_2 : en_lkC "EvenSteps" false [(.aload_n 0, 1, 0, 0, [], 0, 0), (.iconst 1, 1, 0, 0, [], 1, 0), (.invokevirtual 56, 3, 1, 0, [(10, 120)], 0, 0)] := ⟨trivial, ⟨trivial, ⟨lk_180, trivial⟩⟩⟩
set_option maxRecDepth 100000 in
set_option maxHeartbeats 4000000 in
theorem n_X11_drop_3 : en_lkC "EvenSteps" false [(.ireturn, 1, 0, 0, [], 0, 0)] := ⟨trivial, trivial⟩
set_option maxRecDepth 100000 in
set_option maxHeartbeats 4000000 in
theorem n_X11_drop : en_lkM (⟨"EvenSteps", "drop", "(I)I"⟩, prog_1_method_8_code, 2, (some .int), p_X11_drop) := (List.forall_mem_cons.mpr ⟨n_X11_drop_0, (List.forall_mem_cons.mpr ⟨n_X11_drop_1, (List.forall_mem_cons.mpr ⟨n_X11_drop_2, (List.forall_mem_cons.mpr ⟨n_X11_drop_3, (fun _ h => absurd h List.not_mem_nil)⟩)⟩)⟩)⟩)
set_option maxRecDepth 100000 in
set_option maxHeartbeats 4000000 in
theorem k_X11_dropRow : en_ckM (⟨"EvenSteps", "dropRow", "()I"⟩, prog_1_method_9_code, 1, (some .int), p_X11_dropRow) = true := by decide +kernel
set_option maxRecDepth 100000 in
set_option maxHeartbeats 4000000 in
theorem n_X11_dropRow_0 : en_lkC "EvenSteps" false [(.aload_n 0, 1, 0, 0, [], 0, 0), (.getfield 80, 3, 9, 0, [(10, 0)], 0, 0), (.iconst 1, 1, 0, 0, [], 1, 0), (.if_icmp .ge 9, 3, 1, 0, [], 0, 0), (.aload_n 0, 1, 0, 0, [], 0, 0), (.iconst 3, 1, 0, 0, [], 3, 0), (.invokevirtual 56, 3, 1, 0, [(10, 120)], 0, 0), (.ireturn, 1, 0, 0, [], 0, 0)] := ⟨trivial, ⟨lk_190, ⟨trivial, ⟨trivial, ⟨trivial, ⟨trivial, ⟨lk_180, ⟨trivial, trivial⟩⟩⟩⟩⟩⟩⟩⟩
set_option maxRecDepth 100000 in
set_option maxHeartbeats 4000000 in
theorem n_X11_dropRow_1 : en_lkC "EvenSteps" false [(.aload_n 0, 1, 0, 0, [], 0, 0), (.dup, 1, 0, 0, [], 0, 0), (.getfield 80, 3, 9, 0, [(10, 0)], 0, 0), (.iconst 1, 1, 0, 0, [], 1, 0), (.isub, 1, 0, 0, [], 0, 0), (.putfield 80, 3, 9, 0, [(10, 0)], 0, 0), (.aload_n 0, 1, 0, 0, [], 0, 0), (.getfield 17, 3, 1, 2, [(10, 0)], 0, 0), (.aload_n 0, 1, 0, 0, [], 0, 0), (.getfield 80, 3, 9, 0, [(10, 0)], 0, 0), (.aconst_null, 1, 0, 0, [], 0, 0), (.aastore, 1, 0, 0, [], 0, 0), (.aload_n 0, 1, 0, 0, [], 0, 0), (.aload_n 0, 1, 0, 0, [], 0, 0), (.getfield 80, 3, 9, 0, [(10, 0)], 0, 0), (.invokevirtual 77, 3, 1, 0, [(10, 121)], 0, 0), (.ireturn, 1, 0, 0, [], 0, 0)] := ⟨trivial, ⟨trivial, ⟨lk_190, ⟨trivial, ⟨trivial, ⟨lk_213, ⟨trivial, ⟨lk_214, ⟨trivial, ⟨lk_190, ⟨trivial, ⟨trivial, ⟨trivial, ⟨trivial, ⟨lk_190, ⟨lk_189, ⟨trivial, trivial⟩⟩⟩⟩⟩⟩⟩⟩⟩⟩⟩⟩⟩⟩⟩⟩⟩
set_option maxRecDepth 100000 in
set_option maxHeartbeats 4000000 in
theorem n_X11_dropRow : en_lkM (⟨"EvenSteps", "dropRow", "()I"⟩, prog_1_method_9_code, 1, (some .int), p_X11_dropRow) := (List.forall_mem_cons.mpr ⟨n_X11_dropRow_0, (List.forall_mem_cons.mpr ⟨n_X11_dropRow_1, (fun _ h => absurd h List.not_mem_nil)⟩)⟩)
set_option maxRecDepth 100000 in
set_option maxHeartbeats 4000000 in
theorem k_X11_dropSlope : en_ckM (⟨"EvenSteps", "dropSlope", "()I"⟩, prog_1_method_10_code, 1, (some .int), p_X11_dropSlope) = true := by decide +kernel
set_option maxRecDepth 100000 in
set_option maxHeartbeats 4000000 in
theorem n_X11_dropSlope_0 : en_lkC "EvenSteps" false [(.aload_n 0, 1, 0, 0, [], 0, 0), (.getfield 64, 3, 8, 0, [(10, 0)], 0, 0), (.iconst 1, 1, 0, 0, [], 1, 0), (.if_icmp .lt 16, 3, 1, 0, [], 0, 0), (.aload_n 0, 1, 0, 0, [], 0, 0), (.aload_n 0, 1, 0, 0, [], 0, 0), (.getfield 64, 3, 8, 0, [(10, 0)], 0, 0), (.iconst 1, 1, 0, 0, [], 1, 0), (.isub, 1, 0, 0, [], 0, 0), (.invokevirtual 148, 3, 1, 3, [(10, 71)], 0, 0), (.ifCond .eq 9, 3, 2, 0, [], 0, 0)] := ⟨trivial, ⟨lk_182, ⟨trivial, ⟨trivial, ⟨trivial, ⟨trivial, ⟨lk_182, ⟨trivial, ⟨trivial, ⟨lk_215, ⟨trivial, trivial⟩⟩⟩⟩⟩⟩⟩⟩⟩⟩⟩
set_option maxRecDepth 100000 in
set_option maxHeartbeats 4000000 in
theorem n_X11_dropSlope_1 : en_lkC "EvenSteps" false [(.aload_n 0, 1, 0, 0, [], 0, 0), (.iconst 3, 1, 0, 0, [], 3, 0), (.invokevirtual 56, 3, 1, 0, [(10, 120)], 0, 0), (.ireturn, 1, 0, 0, [], 0, 0)] := ⟨trivial, ⟨trivial, ⟨lk_180, ⟨trivial, trivial⟩⟩⟩⟩
set_option maxRecDepth 100000 in
set_option maxHeartbeats 4000000 in
theorem n_X11_dropSlope_2 : en_lkC "EvenSteps" false [(.aload_n 0, 1, 0, 0, [], 0, 0), (.dup, 1, 0, 0, [], 0, 0), (.getfield 64, 3, 8, 0, [(10, 0)], 0, 0), (.iconst 1, 1, 0, 0, [], 1, 0), (.isub, 1, 0, 0, [], 0, 0), (.putfield 64, 3, 8, 0, [(10, 0)], 0, 0), (.aload_n 0, 1, 0, 0, [], 0, 0), (.getfield 11, 3, 0, 2, [(10, 0)], 0, 0), (.aload_n 0, 1, 0, 0, [], 0, 0), (.getfield 64, 3, 8, 0, [(10, 0)], 0, 0), (.aconst_null, 1, 0, 0, [], 0, 0), (.aastore, 1, 0, 0, [], 0, 0), (.aload_n 0, 1, 0, 0, [], 0, 0), (.aload_n 0, 1, 0, 0, [], 0, 0), (.getfield 64, 3, 8, 0, [(10, 0)], 0, 0), (.invokevirtual 77, 3, 1, 0, [(10, 121)], 0, 0), (.ireturn, 1, 0, 0, [], 0, 0)] := ⟨trivial, ⟨trivial, ⟨lk_182, ⟨trivial, ⟨trivial, ⟨lk_188, ⟨trivial, ⟨lk_185, ⟨trivial, ⟨lk_182, ⟨trivial, ⟨trivial, ⟨trivial, ⟨trivial, ⟨lk_182, ⟨lk_189, ⟨trivial, trivial⟩⟩⟩⟩⟩⟩⟩⟩⟩⟩⟩⟩⟩⟩⟩⟩⟩
set_option maxRecDepth 100000 in
set_option maxHeartbeats 4000000 in
theorem n_X11_dropSlope : en_lkM (⟨"EvenSteps", "dropSlope", "()I"⟩, prog_1_method_10_code, 1, (some .int), p_X11_dropSlope) := (List.forall_mem_cons.mpr ⟨n_X11_dropSlope_0, (List.forall_mem_cons.mpr ⟨n_X11_dropSlope_1, (List.forall_mem_cons.mpr ⟨n_X11_dropSlope_2, (fun _ h => absurd h List.not_mem_nil)⟩)⟩)⟩)
set_option maxRecDepth 100000 in
set_option maxHeartbeats 4000000 in
theorem k_X11_isInUse : en_ckM (⟨"EvenSteps", "isInUse", "(I)Z"⟩, prog_1_method_11_code, 5, (some .boolean), p_X11_isInUse) = true := by decide +kernel
set_option maxRecDepth 100000 in
set_option maxHeartbeats 4000000 in
theorem n_X11_isInUse_0 : en_lkC "EvenSteps" false [(.iconst 0, 1, 0, 0, [], 0, 0), (.istore_n 2, 1, 2, 0, [], 0, 0)] := ⟨trivial, ⟨trivial, trivial⟩⟩
set_option maxRecDepth 100000 in
set_option maxHeartbeats 4000000 in
theorem n_X11_isInUse_1 : en_lkC "EvenSteps" false [(.iload_n 2, 1, 2, 0, [], 0, 0), (.aload_n 0, 1, 0, 0, [], 0, 0), (.getfield 80, 3, 9, 0, [(10, 0)], 0, 0), (.if_icmp .ge 41, 3, 3, 0, [], 0, 0), (.aload_n 0, 1, 0, 0, [], 0, 0), (.getfield 17, 3, 1, 2, [(10, 0)], 0, 0), (.iload_n 2, 1, 2, 0, [], 0, 0), (.aaload, 1, 0, 0, [], 0, 0), (.astore 4, 2, 4, 0, [], 0, 0), (.aload 4, 2, 4, 0, [], 0, 0), (.instanceof 113, 3, 0, 0, [(1, 0), (2, 1), (3, 1), (4, 1), (8, 0)], 0, 0), (.ifCond .eq 19, 3, 2, 0, [], 0, 0), (.aload 4, 2, 4, 0, [], 0, 0), (.checkcast 113, 3, 0, 0, [(2, 1), (3, 1), (4, 1)], 0, 0), (.astore_n 3, 1, 3, 0, [], 0, 0), (.aload_n 3, 1, 3, 0, [], 0, 0), (.getfield 151, 3, 3, 0, [(2, 0), (3, 0), (4, 0)], 0, 0), (.iload_n 1, 1, 1, 0, [], 0, 0), (.if_icmp .ne 5, 3, 2, 0, [], 0, 0), (.iconst 1, 1, 0, 0, [], 1, 0), (.ireturn, 1, 0, 3, [], 0, 0)] := ⟨trivial, ⟨trivial, ⟨lk_190, ⟨trivial, ⟨trivial, ⟨lk_214, ⟨trivial, ⟨trivial, ⟨trivial, ⟨trivial, ⟨⟨"EvenSteps$Even", wd_419, lk_216⟩, ⟨trivial, ⟨trivial, ⟨⟨"EvenSteps$Even", wd_419, lk_217⟩, ⟨trivial, ⟨trivial, ⟨lk_218, ⟨trivial, ⟨trivial, ⟨trivial, ⟨trivial, trivial⟩⟩⟩⟩⟩⟩⟩⟩⟩⟩⟩⟩⟩⟩⟩⟩⟩⟩⟩⟩⟩
set_option maxRecDepth 100000 in
set_option maxHeartbeats 4000000 in
theorem n_X11_isInUse_2 : en_lkC "EvenSteps" false [(.iinc 2 1, 3, 2, 0, [], 1, 0), (.goto (-43), 3, 1, 0, [], 0, 0)] := ⟨trivial, ⟨trivial, trivial⟩⟩
set_option maxRecDepth 100000 in
set_option maxHeartbeats 4000000 in
theorem n_X11_isInUse_3 : en_lkC "EvenSteps" false [(.iconst 0, 1, 0, 0, [], 0, 0), (.ireturn, 1, 0, 3, [], 0, 0)] := ⟨trivial, ⟨trivial, trivial⟩⟩
set_option maxRecDepth 100000 in
set_option maxHeartbeats 4000000 in
theorem n_X11_isInUse : en_lkM (⟨"EvenSteps", "isInUse", "(I)Z"⟩, prog_1_method_11_code, 5, (some .boolean), p_X11_isInUse) := (List.forall_mem_cons.mpr ⟨n_X11_isInUse_0, (List.forall_mem_cons.mpr ⟨n_X11_isInUse_1, (List.forall_mem_cons.mpr ⟨n_X11_isInUse_2, (List.forall_mem_cons.mpr ⟨n_X11_isInUse_3, (fun _ h => absurd h List.not_mem_nil)⟩)⟩)⟩)⟩)
set_option maxRecDepth 100000 in
set_option maxHeartbeats 4000000 in
theorem k_X11_count : en_ckM (⟨"EvenSteps", "count", "(I)I"⟩, prog_1_method_12_code, 2, (some .int), p_X11_count) = true := by decide +kernel
set_option maxRecDepth 100000 in
set_option maxHeartbeats 4000000 in
theorem n_X11_count_0 : en_lkC "EvenSteps" false [(.iload_n 1, 1, 1, 0, [], 0, 0), (.tableswitch 45 0 2 #[27, 32, 37], 27, 4, 0, [(0, 1), (1, 2), (2, 3)], 0, 0)] := ⟨trivial, ⟨trivial, trivial⟩⟩
set_option maxRecDepth 100000 in
set_option maxHeartbeats 4000000 in
theorem n_X11_count_1 : en_lkC "EvenSteps" false [(.aload_n 0, 1, 0, 0, [], 0, 0), (.getfield 64, 3, 8, 0, [(10, 0)], 0, 0), (.ireturn, 1, 0, 0, [], 0, 0)] := ⟨trivial, ⟨lk_182, ⟨trivial, trivial⟩⟩⟩
set_option maxRecDepth 100000 in
set_option maxHeartbeats 4000000 in
theorem n_X11_count_2 : en_lkC "EvenSteps" false [(.aload_n 0, 1, 0, 0, [], 0, 0), (.getfield 80, 3, 9, 0, [(10, 0)], 0, 0), (.ireturn, 1, 0, 0, [], 0, 0)] := ⟨trivial, ⟨lk_190, ⟨trivial, trivial⟩⟩⟩
set_option maxRecDepth 100000 in
set_option maxHeartbeats 4000000 in
theorem n_X11_count_3 : en_lkC "EvenSteps" false [(.aload_n 0, 1, 0, 0, [], 0, 0), (.getfield 30, 3, 3, 2, [(10, 0)], 0, 0), (.getfield 154, 3, 1, 0, [(9, 0)], 0, 0), (.ireturn, 1, 0, 0, [], 0, 0)] := ⟨trivial, ⟨lk_219, ⟨lk_220, ⟨trivial, trivial⟩⟩⟩⟩
set_option maxRecDepth 100000 in
set_option maxHeartbeats 4000000 in
theorem n_X11_count_4 : en_lkC "EvenSteps" false [(.iconst (-1), 1, 0, 0, [], (-1), 0), (.ireturn, 1, 0, 0, [], 0, 0)] := ⟨trivial, ⟨trivial, trivial⟩⟩
set_option maxRecDepth 100000 in
set_option maxHeartbeats 4000000 in
theorem n_X11_count : en_lkM (⟨"EvenSteps", "count", "(I)I"⟩, prog_1_method_12_code, 2, (some .int), p_X11_count) := (List.forall_mem_cons.mpr ⟨n_X11_count_0, (List.forall_mem_cons.mpr ⟨n_X11_count_1, (List.forall_mem_cons.mpr ⟨n_X11_count_2, (List.forall_mem_cons.mpr ⟨n_X11_count_3, (List.forall_mem_cons.mpr ⟨n_X11_count_4, (fun _ h => absurd h List.not_mem_nil)⟩)⟩)⟩)⟩)⟩)
set_option maxRecDepth 100000 in
set_option maxHeartbeats 4000000 in
theorem k_X11_whole : en_ckM (⟨"EvenSteps", "whole", "(II)I"⟩, prog_1_method_13_code, 4, (some .int), p_X11_whole) = true := by decide +kernel
set_option maxRecDepth 100000 in
set_option maxHeartbeats 4000000 in
theorem n_X11_whole_0 : en_lkC "EvenSteps" false [(.aload_n 0, 1, 0, 0, [], 0, 0), (.iload_n 1, 1, 1, 0, [], 0, 0), (.invokevirtual 109, 3, 1, 2, [(10, 123)], 0, 0), (.astore_n 3, 1, 3, 0, [], 0, 0), (.aload_n 3, 1, 3, 0, [], 0, 0), (.ifnull 13, 3, 1, 0, [], 0, 0), (.iload_n 2, 1, 2, 0, [], 0, 0), (.ifCond .lt 9, 3, 1, 0, [], 0, 0), (.iload_n 2, 1, 2, 0, [], 0, 0), (.ldc 155, 2, 0, 0, [], 100000, 0), (.if_icmp .le 5, 3, 2, 0, [], 0, 0)] := ⟨trivial, ⟨trivial, ⟨lk_200, ⟨trivial, ⟨trivial, ⟨trivial, ⟨trivial, ⟨trivial, ⟨trivial, ⟨wd_551, ⟨trivial, trivial⟩⟩⟩⟩⟩⟩⟩⟩⟩⟩⟩
set_option maxRecDepth 100000 in
set_option maxHeartbeats 4000000 in
theorem n_X11_whole_1 : en_lkC "EvenSteps" false [(.iconst (-1), 1, 0, 0, [], (-1), 0), (.ireturn, 1, 0, 0, [], 0, 0)] := ⟨trivial, ⟨trivial, trivial⟩⟩
set_option maxRecDepth 100000 in
set_option maxHeartbeats 4000000 in
theorem n_X11_whole_2 : en_lkC "EvenSteps" false [(.aload_n 3, 1, 3, 0, [], 0, 0), (.iload_n 2, 1, 2, 0, [], 0, 0), (.i2l, 1, 0, 0, [], 0, 0), (.lconst 0, 1, 0, 0, [], 0, 0), (.lconst 1, 1, 0, 0, [], 0, 1), (.invokevirtual 156, 3, 3, 1, [(6, 44)], 0, 0), (.l2i, 1, 0, 0, [], 0, 0), (.ireturn, 1, 0, 0, [], 0, 0)] := ⟨trivial, ⟨trivial, ⟨trivial, ⟨trivial, ⟨trivial, ⟨lk_222, ⟨trivial, ⟨trivial, trivial⟩⟩⟩⟩⟩⟩⟩⟩
set_option maxRecDepth 100000 in
set_option maxHeartbeats 4000000 in
theorem n_X11_whole : en_lkM (⟨"EvenSteps", "whole", "(II)I"⟩, prog_1_method_13_code, 4, (some .int), p_X11_whole) := (List.forall_mem_cons.mpr ⟨n_X11_whole_0, (List.forall_mem_cons.mpr ⟨n_X11_whole_1, (List.forall_mem_cons.mpr ⟨n_X11_whole_2, (fun _ h => absurd h List.not_mem_nil)⟩)⟩)⟩)
set_option maxRecDepth 100000 in
set_option maxHeartbeats 4000000 in
theorem k_X11_against : en_ckM (⟨"EvenSteps", "against", "(III)I"⟩, prog_1_method_14_code, 5, (some .int), p_X11_against) = true := by decide +kernel
set_option maxRecDepth 100000 in
set_option maxHeartbeats 4000000 in
theorem n_X11_against_0 : en_lkC "EvenSteps" false [(.aload_n 0, 1, 0, 0, [], 0, 0), (.iload_n 1, 1, 1, 0, [], 0, 0), (.invokevirtual 109, 3, 1, 2, [(10, 123)], 0, 0), (.astore 4, 2, 4, 0, [], 0, 0), (.aload 4, 2, 4, 0, [], 0, 0), (.ifnull 25, 3, 1, 0, [], 0, 0), (.iload_n 3, 1, 3, 0, [], 0, 0), (.iconst 1, 1, 0, 0, [], 1, 0), (.if_icmp .lt 20, 3, 1, 0, [], 0, 0), (.iload_n 3, 1, 3, 0, [], 0, 0), (.sipush 10000, 3, 0, 0, [], 10000, 0), (.if_icmp .gt 13, 3, 1, 0, [], 0, 0), (.iload_n 2, 1, 2, 0, [], 0, 0), (.ifCond .lt 9, 3, 1, 0, [], 0, 0), (.iload_n 2, 1, 2, 0, [], 0, 0), (.ldc 160, 2, 0, 0, [], 200000, 0), (.if_icmp .le 6, 3, 2, 0, [], 0, 0)] := ⟨trivial, ⟨trivial, ⟨lk_200, ⟨trivial, ⟨trivial, ⟨trivial, ⟨trivial, ⟨trivial, ⟨trivial, ⟨trivial, ⟨trivial, ⟨trivial, ⟨trivial, ⟨trivial, ⟨trivial, ⟨wd_557, ⟨trivial, trivial⟩⟩⟩⟩⟩⟩⟩⟩⟩⟩⟩⟩⟩⟩⟩⟩⟩
set_option maxRecDepth 100000 in
set_option maxHeartbeats 4000000 in
theorem n_X11_against_1 : en_lkC "EvenSteps" false [(.ldc 161, 2, 0, 0, [], (-1000000), 0), (.ireturn, 1, 0, 0, [], 0, 0)] := ⟨wd_558, ⟨trivial, trivial⟩⟩
set_option maxRecDepth 100000 in
set_option maxHeartbeats 4000000 in
theorem n_X11_against_2 : en_lkC "EvenSteps" false [(.aload 4, 2, 4, 0, [], 0, 0), (.iload_n 2, 1, 2, 0, [], 0, 0), (.ineg, 1, 0, 0, [], 0, 0), (.i2l, 1, 0, 0, [], 0, 0), (.iload_n 3, 1, 3, 0, [], 0, 0), (.i2l, 1, 0, 0, [], 0, 0), (.invokevirtual 162, 3, 2, 0, [(6, 45)], 0, 0), (.ireturn, 1, 0, 0, [], 0, 0)] := ⟨trivial, ⟨trivial, ⟨trivial, ⟨trivial, ⟨trivial, ⟨trivial, ⟨lk_225, ⟨trivial, trivial⟩⟩⟩⟩⟩⟩⟩⟩
set_option maxRecDepth 100000 in
set_option maxHeartbeats 4000000 in
theorem n_X11_against : en_lkM (⟨"EvenSteps", "against", "(III)I"⟩, prog_1_method_14_code, 5, (some .int), p_X11_against) := (List.forall_mem_cons.mpr ⟨n_X11_against_0, (List.forall_mem_cons.mpr ⟨n_X11_against_1, (List.forall_mem_cons.mpr ⟨n_X11_against_2, (fun _ h => absurd h List.not_mem_nil)⟩)⟩)⟩)
set_option maxRecDepth 100000 in
set_option maxHeartbeats 4000000 in
theorem k_X11_quotient : en_ckM (⟨"EvenSteps", "quotient", "(II)I"⟩, prog_1_method_15_code, 4, (some .int), p_X11_quotient) = true := by decide +kernel
set_option maxRecDepth 100000 in
set_option maxHeartbeats 4000000 in
theorem n_X11_quotient_0 : en_lkC "EvenSteps" false [(.aload_n 0, 1, 0, 0, [], 0, 0), (.iload_n 1, 1, 1, 0, [], 0, 0), (.invokevirtual 109, 3, 1, 2, [(10, 123)], 0, 0), (.astore_n 3, 1, 3, 0, [], 0, 0), (.aload_n 3, 1, 3, 0, [], 0, 0), (.ifnull 15, 3, 1, 0, [], 0, 0), (.iload_n 2, 1, 2, 0, [], 0, 0), (.ifCond .lt 11, 3, 1, 0, [], 0, 0), (.iload_n 2, 1, 2, 0, [], 0, 0), (.aload_n 3, 1, 3, 0, [], 0, 0), (.getfield 166, 3, 1, 0, [(6, 0)], 0, 0), (.if_icmp .lt 5, 3, 2, 0, [], 0, 0)] := ⟨trivial, ⟨trivial, ⟨lk_200, ⟨trivial, ⟨trivial, ⟨trivial, ⟨trivial, ⟨trivial, ⟨trivial, ⟨trivial, ⟨lk_226, ⟨trivial, trivial⟩⟩⟩⟩⟩⟩⟩⟩⟩⟩⟩⟩
set_option maxRecDepth 100000 in
set_option maxHeartbeats 4000000 in
theorem n_X11_quotient_1 : en_lkC "EvenSteps" false [(.iconst (-1), 1, 0, 0, [], (-1), 0), (.ireturn, 1, 0, 0, [], 0, 0)] := ⟨trivial, ⟨trivial, trivial⟩⟩
set_option maxRecDepth 100000 in
set_option maxHeartbeats 4000000 in
theorem n_X11_quotient_2 : en_lkC "EvenSteps" false [(.aload_n 3, 1, 3, 0, [], 0, 0), (.getfield 169, 3, 0, 2, [(6, 0)], 0, 0), (.iload_n 2, 1, 2, 0, [], 0, 0), (.iaload, 1, 0, 0, [], 0, 0), (.ireturn, 1, 0, 0, [], 0, 0)] := ⟨trivial, ⟨lk_227, ⟨trivial, ⟨trivial, ⟨trivial, trivial⟩⟩⟩⟩⟩
set_option maxRecDepth 100000 in
set_option maxHeartbeats 4000000 in
theorem n_X11_quotient : en_lkM (⟨"EvenSteps", "quotient", "(II)I"⟩, prog_1_method_15_code, 4, (some .int), p_X11_quotient) := (List.forall_mem_cons.mpr ⟨n_X11_quotient_0, (List.forall_mem_cons.mpr ⟨n_X11_quotient_1, (List.forall_mem_cons.mpr ⟨n_X11_quotient_2, (fun _ h => absurd h List.not_mem_nil)⟩)⟩)⟩)
set_option maxRecDepth 100000 in
set_option maxHeartbeats 4000000 in
theorem k_X11_nearer : en_ckM (⟨"EvenSteps", "nearer", "(II)I"⟩, prog_1_method_16_code, 4, (some .int), p_X11_nearer) = true := by decide +kernel
set_option maxRecDepth 100000 in
set_option maxHeartbeats 4000000 in
theorem n_X11_nearer_0 : en_lkC "EvenSteps" false [(.aload_n 0, 1, 0, 0, [], 0, 0), (.iload_n 1, 1, 1, 0, [], 0, 0), (.invokevirtual 109, 3, 1, 2, [(10, 123)], 0, 0), (.iload_n 2, 1, 2, 0, [], 0, 0), (.invokestatic 172, 3, 2, 0, [(0, 80)], 0, 0), (.istore_n 3, 1, 3, 0, [], 0, 0), (.iload_n 3, 1, 3, 0, [], 0, 0), (.sipush 2000, 3, 0, 0, [], 2000, 0), (.if_icmp .gt 7, 3, 1, 0, [], 0, 0), (.iload_n 3, 1, 3, 0, [], 0, 0), (.goto 4, 3, 2, 0, [], 0, 0)] := ⟨trivial, ⟨trivial, ⟨lk_200, ⟨trivial, ⟨lk_228, ⟨trivial, ⟨trivial, ⟨trivial, ⟨trivial, ⟨trivial, ⟨trivial, trivial⟩⟩⟩⟩⟩⟩⟩⟩⟩⟩⟩
set_option maxRecDepth 100000 in
set_option maxHeartbeats 4000000 in
theorem n_X11_nearer_1 : en_lkC "EvenSteps" false [(.iconst (-1), 1, 0, 0, [], (-1), 0)] := ⟨trivial, trivial⟩
set_option maxRecDepth 100000 in
set_option maxHeartbeats 4000000 in
theorem n_X11_nearer_2 : en_lkC "EvenSteps" false [(.ireturn, 1, 0, 0, [], 0, 0)] := ⟨trivial, trivial⟩
set_option maxRecDepth 100000 in
set_option maxHeartbeats 4000000 in
theorem n_X11_nearer : en_lkM (⟨"EvenSteps", "nearer", "(II)I"⟩, prog_1_method_16_code, 4, (some .int), p_X11_nearer) := (List.forall_mem_cons.mpr ⟨n_X11_nearer_0, (List.forall_mem_cons.mpr ⟨n_X11_nearer_1, (List.forall_mem_cons.mpr ⟨n_X11_nearer_2, (fun _ h => absurd h List.not_mem_nil)⟩)⟩)⟩)
set_option maxRecDepth 100000 in
set_option maxHeartbeats 4000000 in
theorem k_X11_within : en_ckM (⟨"EvenSteps", "within", "(IIII)I"⟩, prog_1_method_17_code, 9, (some .int), p_X11_within) = true := by decide +kernel
set_option maxRecDepth 100000 in
set_option maxHeartbeats 4000000 in
theorem n_X11_within_0 : en_lkC "EvenSteps" false [(.aload_n 0, 1, 0, 0, [], 0, 0), (.iload_n 1, 1, 1, 0, [], 0, 0), (.invokevirtual 109, 3, 1, 2, [(10, 123)], 0, 0), (.astore 5, 2, 5, 0, [], 0, 0), (.aload 5, 2, 5, 0, [], 0, 0), (.ifnull 42, 3, 1, 0, [], 0, 0), (.iload 4, 2, 4, 0, [], 0, 0), (.iconst 1, 1, 0, 0, [], 1, 0), (.if_icmp .lt 36, 3, 1, 0, [], 0, 0), (.iload 4, 2, 4, 0, [], 0, 0), (.sipush 1000, 3, 0, 0, [], 1000, 0), (.if_icmp .gt 28, 3, 1, 0, [], 0, 0), (.iload_n 2, 1, 2, 0, [], 0, 0), (.ifCond .lt 24, 3, 1, 0, [], 0, 0), (.iload_n 2, 1, 2, 0, [], 0, 0), (.iload 4, 2, 4, 0, [], 0, 0), (.if_icmp .gt 18, 3, 1, 0, [], 0, 0), (.iload_n 3, 1, 3, 0, [], 0, 0), (.ifCond .lt 14, 3, 1, 0, [], 0, 0), (.iload_n 3, 1, 3, 0, [], 0, 0), (.iload 4, 2, 4, 0, [], 0, 0), (.if_icmp .gt 8, 3, 1, 0, [], 0, 0), (.iload_n 2, 1, 2, 0, [], 0, 0), (.iload_n 3, 1, 3, 0, [], 0, 0), (.if_icmp .lt 5, 3, 2, 0, [], 0, 0)] := ⟨trivial, ⟨trivial, ⟨lk_200, ⟨trivial, ⟨trivial, ⟨trivial, ⟨trivial, ⟨trivial, ⟨trivial, ⟨trivial, ⟨trivial, ⟨trivial, ⟨trivial, ⟨trivial, ⟨trivial, ⟨trivial, ⟨trivial, ⟨trivial, ⟨trivial, ⟨trivial, ⟨trivial, ⟨trivial, ⟨trivial, ⟨trivial, ⟨trivial, trivial⟩⟩⟩⟩⟩⟩⟩⟩⟩⟩⟩⟩⟩⟩⟩⟩⟩⟩⟩⟩⟩⟩⟩⟩⟩
set_option maxRecDepth 100000 in
set_option maxHeartbeats 4000000 in
theorem n_X11_within_1 : en_lkC "EvenSteps" false [(.iconst (-1), 1, 0, 0, [], (-1), 0), (.ireturn, 1, 0, 0, [], 0, 0)] := ⟨trivial, ⟨trivial, trivial⟩⟩
set_option maxRecDepth 100000 in
set_option maxHeartbeats 4000000 in
theorem n_X11_within_2 : en_lkC "EvenSteps" false [(.iconst 1, 1, 0, 0, [], 1, 0), (.istore 6, 2, 6, 0, [], 0, 0)] := ⟨trivial, ⟨trivial, trivial⟩⟩
set_option maxRecDepth 100000 in
set_option maxHeartbeats 4000000 in
theorem n_X11_within_3 : en_lkC "EvenSteps" false [(.iload 6, 2, 6, 0, [], 0, 0), (.sipush 2000, 3, 0, 0, [], 2000, 0), (.if_icmp .gt 50, 3, 5, 0, [], 0, 0), (.aload 5, 2, 5, 0, [], 0, 0), (.iload 4, 2, 4, 0, [], 0, 0), (.i2l, 1, 0, 0, [], 0, 0), (.iload 6, 2, 6, 0, [], 0, 0), (.i2l, 1, 0, 0, [], 0, 0), (.lmul, 1, 0, 0, [], 0, 0), (.lconst 0, 1, 0, 0, [], 0, 0), (.lconst 1, 1, 0, 0, [], 0, 1), (.invokevirtual 156, 3, 3, 1, [(6, 44)], 0, 0), (.iload 4, 2, 4, 0, [], 0, 0), (.i2l, 1, 0, 0, [], 0, 0), (.invokestatic 176, 3, 2, 1, [(0, 214)], 0, 0), (.lstore 7, 2, 7, 0, [], 0, 0), (.lload 7, 2, 7, 0, [], 0, 0), (.iload_n 2, 1, 2, 0, [], 0, 0), (.i2l, 1, 0, 0, [], 0, 0), (.lcmp, 1, 0, 0, [], 0, 0), (.ifCond .lt 14, 3, 4, 0, [], 0, 0), (.lload 7, 2, 7, 0, [], 0, 0), (.iload_n 3, 1, 3, 0, [], 0, 0), (.i2l, 1, 0, 0, [], 0, 0), (.lcmp, 1, 0, 0, [], 0, 0), (.ifCond .ge 6, 3, 4, 0, [], 0, 0), (.iload 6, 2, 6, 0, [], 0, 0), (.ireturn, 1, 0, 0, [], 0, 0)] := ⟨trivial, ⟨trivial, ⟨trivial, ⟨trivial, ⟨trivial, ⟨trivial, ⟨trivial, ⟨trivial, ⟨trivial, ⟨trivial, ⟨trivial, ⟨lk_222, ⟨trivial, ⟨trivial, ⟨lk_229, ⟨trivial, ⟨trivial, ⟨trivial, ⟨trivial, ⟨trivial, ⟨trivial, ⟨trivial, ⟨trivial, ⟨trivial, ⟨trivial, ⟨trivial, ⟨trivial, ⟨trivial, trivial⟩⟩⟩⟩⟩⟩⟩⟩⟩⟩⟩⟩⟩⟩⟩⟩⟩⟩⟩⟩⟩⟩⟩⟩⟩⟩⟩⟩
set_option maxRecDepth 100000 in
set_option maxHeartbeats 4000000 in
theorem n_X11_within_4 : en_lkC "EvenSteps" false [(.iinc 6 1, 3, 6, 0, [], 1, 0), (.goto (-52), 3, 3, 0, [], 0, 0)] := ⟨trivial, ⟨trivial, trivial⟩⟩
set_option maxRecDepth 100000 in
set_option maxHeartbeats 4000000 in
theorem n_X11_within_5 : en_lkC "EvenSteps" false [(.iconst (-1), 1, 0, 0, [], (-1), 0), (.ireturn, 1, 0, 0, [], 0, 0)] := ⟨trivial, ⟨trivial, trivial⟩⟩
set_option maxRecDepth 100000 in
set_option maxHeartbeats 4000000 in
theorem n_X11_within : en_lkM (⟨"EvenSteps", "within", "(IIII)I"⟩, prog_1_method_17_code, 9, (some .int), p_X11_within) := (List.forall_mem_cons.mpr ⟨n_X11_within_0, (List.forall_mem_cons.mpr ⟨n_X11_within_1, (List.forall_mem_cons.mpr ⟨n_X11_within_2, (List.forall_mem_cons.mpr ⟨n_X11_within_3, (List.forall_mem_cons.mpr ⟨n_X11_within_4, (List.forall_mem_cons.mpr ⟨n_X11_within_5, (fun _ h => absurd h List.not_mem_nil)⟩)⟩)⟩)⟩)⟩)⟩)
set_option maxRecDepth 100000 in
set_option maxHeartbeats 4000000 in
theorem k_X11_digit : en_ckM (⟨"EvenSteps", "digit", "(III)I"⟩, prog_1_method_18_code, 7, (some .int), p_X11_digit) = true := by decide +kernel
set_option maxRecDepth 100000 in
set_option maxHeartbeats 4000000 in
theorem n_X11_digit_0 : en_lkC "EvenSteps" false [(.aload_n 0, 1, 0, 0, [], 0, 0), (.iload_n 1, 1, 1, 0, [], 0, 0), (.invokevirtual 109, 3, 1, 2, [(10, 123)], 0, 0), (.astore 4, 2, 4, 0, [], 0, 0), (.aload 4, 2, 4, 0, [], 0, 0), (.ifnull 27, 3, 1, 0, [], 0, 0), (.iload_n 2, 1, 2, 0, [], 0, 0), (.ifCond .lt 23, 3, 1, 0, [], 0, 0), (.iload_n 2, 1, 2, 0, [], 0, 0), (.sipush 10000, 3, 0, 0, [], 10000, 0), (.if_icmp .gt 16, 3, 1, 0, [], 0, 0), (.iload_n 3, 1, 3, 0, [], 0, 0), (.ifCond .lt 12, 3, 1, 0, [], 0, 0), (.iload_n 3, 1, 3, 0, [], 0, 0), (.aload 4, 2, 4, 0, [], 0, 0), (.getfield 182, 3, 3, 0, [(6, 0)], 0, 0), (.if_icmp .lt 5, 3, 2, 0, [], 0, 0)] := ⟨trivial, ⟨trivial, ⟨lk_200, ⟨trivial, ⟨trivial, ⟨trivial, ⟨trivial, ⟨trivial, ⟨trivial, ⟨trivial, ⟨trivial, ⟨trivial, ⟨trivial, ⟨trivial, ⟨trivial, ⟨lk_230, ⟨trivial, trivial⟩⟩⟩⟩⟩⟩⟩⟩⟩⟩⟩⟩⟩⟩⟩⟩⟩
set_option maxRecDepth 100000 in
set_option maxHeartbeats 4000000 in
theorem n_X11_digit_1 : en_lkC "EvenSteps" false [(.iconst (-1), 1, 0, 0, [], (-1), 0), (.ireturn, 1, 0, 0, [], 0, 0)] := ⟨trivial, ⟨trivial, trivial⟩⟩
set_option maxRecDepth 100000 in
set_option maxHeartbeats 4000000 in
theorem n_X11_digit_2 : en_lkC "EvenSteps" false [(.iload_n 2, 1, 2, 0, [], 0, 0), (.istore 5, 2, 5, 0, [], 0, 0), (.aload 4, 2, 4, 0, [], 0, 0), (.getfield 182, 3, 3, 0, [(6, 0)], 0, 0), (.iconst 1, 1, 0, 0, [], 1, 0), (.isub, 1, 0, 0, [], 0, 0), (.istore 6, 2, 6, 0, [], 0, 0)] := ⟨trivial, ⟨trivial, ⟨trivial, ⟨lk_230, ⟨trivial, ⟨trivial, ⟨trivial, trivial⟩⟩⟩⟩⟩⟩⟩
set_option maxRecDepth 100000 in
set_option maxHeartbeats 4000000 in
theorem n_X11_digit_3 : en_lkC "EvenSteps" false [(.iload 6, 2, 6, 0, [], 0, 0), (.iload_n 3, 1, 3, 0, [], 0, 0), (.if_icmp .le 28, 3, 4, 0, [], 0, 0), (.iload 5, 2, 5, 0, [], 0, 0), (.iconst 1, 1, 0, 0, [], 1, 0), (.aload 4, 2, 4, 0, [], 0, 0), (.getfield 185, 3, 2, 2, [(6, 0)], 0, 0), (.iload 6, 2, 6, 0, [], 0, 0), (.iaload, 1, 0, 0, [], 0, 0), (.invokestatic 188, 3, 2, 0, [(0, 217)], 0, 0), (.invokestatic 192, 3, 2, 0, [(0, 213)], 0, 0), (.istore 5, 2, 5, 0, [], 0, 0), (.iinc 6 (-1), 3, 6, 0, [], (-1), 0), (.goto (-28), 3, 3, 0, [], 0, 0)] := ⟨trivial, ⟨trivial, ⟨trivial, ⟨trivial, ⟨trivial, ⟨trivial, ⟨lk_231, ⟨trivial, ⟨trivial, ⟨lk_232, ⟨lk_233, ⟨trivial, ⟨trivial, ⟨trivial, trivial⟩⟩⟩⟩⟩⟩⟩⟩⟩⟩⟩⟩⟩⟩
set_option maxRecDepth 100000 in
set_option maxHeartbeats 4000000 in
theorem n_X11_digit_4 : en_lkC "EvenSteps" false [(.iload 5, 2, 5, 0, [], 0, 0), (.iconst 1, 1, 0, 0, [], 1, 0), (.aload 4, 2, 4, 0, [], 0, 0), (.getfield 185, 3, 2, 2, [(6, 0)], 0, 0), (.iload_n 3, 1, 3, 0, [], 0, 0), (.iaload, 1, 0, 0, [], 0, 0), (.invokestatic 188, 3, 2, 0, [(0, 217)], 0, 0), (.invokestatic 194, 3, 2, 0, [(0, 211)], 0, 0), (.ireturn, 1, 0, 0, [], 0, 0)] := ⟨trivial, ⟨trivial, ⟨trivial, ⟨lk_231, ⟨trivial, ⟨trivial, ⟨lk_232, ⟨lk_234, ⟨trivial, trivial⟩⟩⟩⟩⟩⟩⟩⟩⟩
set_option maxRecDepth 100000 in
set_option maxHeartbeats 4000000 in
theorem n_X11_digit : en_lkM (⟨"EvenSteps", "digit", "(III)I"⟩, prog_1_method_18_code, 7, (some .int), p_X11_digit) := (List.forall_mem_cons.mpr ⟨n_X11_digit_0, (List.forall_mem_cons.mpr ⟨n_X11_digit_1, (List.forall_mem_cons.mpr ⟨n_X11_digit_2, (List.forall_mem_cons.mpr ⟨n_X11_digit_3, (List.forall_mem_cons.mpr ⟨n_X11_digit_4, (fun _ h => absurd h List.not_mem_nil)⟩)⟩)⟩)⟩)⟩)
set_option maxRecDepth 100000 in
set_option maxHeartbeats 4000000 in
theorem k_X11_line : en_ckM (⟨"EvenSteps", "line", "(II)I"⟩, prog_1_method_19_code, 3, (some .int), p_X11_line) = true := by decide +kernel
set_option maxRecDepth 100000 in
set_option maxHeartbeats 4000000 in
theorem n_X11_line_0 : en_lkC "EvenSteps" false [(.aload_n 0, 1, 0, 0, [], 0, 0), (.iload_n 1, 1, 1, 0, [], 0, 0), (.invokevirtual 109, 3, 1, 2, [(10, 123)], 0, 0), (.iload_n 2, 1, 2, 0, [], 0, 0), (.invokestatic 172, 3, 2, 0, [(0, 80)], 0, 0), (.ireturn, 1, 0, 0, [], 0, 0)] := ⟨trivial, ⟨trivial, ⟨lk_200, ⟨trivial, ⟨lk_228, ⟨trivial, trivial⟩⟩⟩⟩⟩⟩
set_option maxRecDepth 100000 in
set_option maxHeartbeats 4000000 in
theorem n_X11_line : en_lkM (⟨"EvenSteps", "line", "(II)I"⟩, prog_1_method_19_code, 3, (some .int), p_X11_line) := (List.forall_mem_cons.mpr ⟨n_X11_line_0, (fun _ h => absurd h List.not_mem_nil)⟩)
set_option maxRecDepth 100000 in
set_option maxHeartbeats 4000000 in
theorem k_X11_lineAt : en_ckM (⟨"EvenSteps", "lineAt", "(LEvenSteps$Slope;I)I"⟩, prog_1_method_20_code, 2, (some .int), p_X11_lineAt) = true := by decide +kernel
set_option maxRecDepth 100000 in
set_option maxHeartbeats 4000000 in
theorem n_X11_lineAt_0 : en_lkC "EvenSteps" false [(.aload_n 0, 1, 0, 0, [], 0, 0), (.ifnull 15, 3, 1, 0, [], 0, 0), (.iload_n 1, 1, 1, 0, [], 0, 0), (.ifCond .lt 11, 3, 1, 0, [], 0, 0), (.iload_n 1, 1, 1, 0, [], 0, 0), (.aload_n 0, 1, 0, 0, [], 0, 0), (.getfield 182, 3, 3, 0, [(6, 0)], 0, 0), (.if_icmp .lt 7, 3, 2, 0, [], 0, 0)] := ⟨trivial, ⟨trivial, ⟨trivial, ⟨trivial, ⟨trivial, ⟨trivial, ⟨lk_230, ⟨trivial, trivial⟩⟩⟩⟩⟩⟩⟩⟩
set_option maxRecDepth 100000 in
set_option maxHeartbeats 4000000 in
theorem n_X11_lineAt_1 : en_lkC "EvenSteps" false [(.iconst (-1), 1, 0, 0, [], (-1), 0), (.goto 9, 3, 3, 0, [], 0, 0)] := ⟨trivial, ⟨trivial, trivial⟩⟩
set_option maxRecDepth 100000 in
set_option maxHeartbeats 4000000 in
theorem n_X11_lineAt_2 : en_lkC "EvenSteps" false [(.aload_n 0, 1, 0, 0, [], 0, 0), (.getfield 185, 3, 2, 2, [(6, 0)], 0, 0), (.iload_n 1, 1, 1, 0, [], 0, 0), (.iaload, 1, 0, 0, [], 0, 0)] := ⟨trivial, ⟨lk_231, ⟨trivial, ⟨trivial, trivial⟩⟩⟩⟩
set_option maxRecDepth 100000 in
set_option maxHeartbeats 4000000 in
theorem n_X11_lineAt_3 : en_lkC "EvenSteps" false [(.ireturn, 1, 0, 0, [], 0, 0)] := ⟨trivial, trivial⟩
set_option maxRecDepth 100000 in
set_option maxHeartbeats 4000000 in
theorem n_X11_lineAt : en_lkM (⟨"EvenSteps", "lineAt", "(LEvenSteps$Slope;I)I"⟩, prog_1_method_20_code, 2, (some .int), p_X11_lineAt) := (List.forall_mem_cons.mpr ⟨n_X11_lineAt_0, (List.forall_mem_cons.mpr ⟨n_X11_lineAt_1, (List.forall_mem_cons.mpr ⟨n_X11_lineAt_2, (List.forall_mem_cons.mpr ⟨n_X11_lineAt_3, (fun _ h => absurd h List.not_mem_nil)⟩)⟩)⟩)⟩)
set_option maxRecDepth 100000 in
set_option maxHeartbeats 4000000 in
theorem k_X11_share : en_ckM (⟨"EvenSteps", "share", "(II)I"⟩, prog_1_method_21_code, 5, (some .int), p_X11_share) = true := by decide +kernel
set_option maxRecDepth 100000 in
set_option maxHeartbeats 4000000 in
theorem n_X11_share_0 : en_lkC "EvenSteps" false [(.aload_n 0, 1, 0, 0, [], 0, 0), (.iload_n 1, 1, 1, 0, [], 0, 0), (.invokevirtual 109, 3, 1, 2, [(10, 123)], 0, 0), (.astore_n 3, 1, 3, 0, [], 0, 0), (.aload_n 0, 1, 0, 0, [], 0, 0), (.iload_n 2, 1, 2, 0, [], 0, 0), (.invokevirtual 109, 3, 1, 2, [(10, 123)], 0, 0), (.astore 4, 2, 4, 0, [], 0, 0), (.aload_n 3, 1, 3, 0, [], 0, 0), (.ifnull 8, 3, 1, 0, [], 0, 0), (.aload 4, 2, 4, 0, [], 0, 0), (.ifnonnull 5, 3, 2, 0, [], 0, 0)] := ⟨trivial, ⟨trivial, ⟨lk_200, ⟨trivial, ⟨trivial, ⟨trivial, ⟨lk_200, ⟨trivial, ⟨trivial, ⟨trivial, ⟨trivial, ⟨trivial, trivial⟩⟩⟩⟩⟩⟩⟩⟩⟩⟩⟩⟩
set_option maxRecDepth 100000 in
set_option maxHeartbeats 4000000 in
theorem n_X11_share_1 : en_lkC "EvenSteps" false [(.iconst (-1), 1, 0, 0, [], (-1), 0), (.ireturn, 1, 0, 0, [], 0, 0)] := ⟨trivial, ⟨trivial, trivial⟩⟩
set_option maxRecDepth 100000 in
set_option maxHeartbeats 4000000 in
theorem n_X11_share_2 : en_lkC "EvenSteps" false [(.aload_n 3, 1, 3, 0, [], 0, 0), (.aload 4, 2, 4, 0, [], 0, 0), (.invokevirtual 197, 3, 1, 3, [(6, 46)], 0, 0), (.ifCond .eq 7, 3, 3, 0, [], 0, 0), (.iconst 0, 1, 0, 0, [], 0, 0), (.goto 9, 3, 4, 0, [], 0, 0)] := ⟨trivial, ⟨trivial, ⟨lk_235, ⟨trivial, ⟨trivial, ⟨trivial, trivial⟩⟩⟩⟩⟩⟩
set_option maxRecDepth 100000 in
set_option maxHeartbeats 4000000 in
theorem n_X11_share_3 : en_lkC "EvenSteps" false [(.aload_n 3, 1, 3, 0, [], 0, 0), (.aload 4, 2, 4, 0, [], 0, 0), (.invokestatic 201, 3, 2, 0, [(0, 82)], 0, 0)] := ⟨trivial, ⟨trivial, ⟨lk_236, trivial⟩⟩⟩
set_option maxRecDepth 100000 in
set_option maxHeartbeats 4000000 in
theorem n_X11_share_4 : en_lkC "EvenSteps" false [(.ireturn, 1, 0, 0, [], 0, 0)] := ⟨trivial, trivial⟩
set_option maxRecDepth 100000 in
set_option maxHeartbeats 4000000 in
theorem n_X11_share : en_lkM (⟨"EvenSteps", "share", "(II)I"⟩, prog_1_method_21_code, 5, (some .int), p_X11_share) := (List.forall_mem_cons.mpr ⟨n_X11_share_0, (List.forall_mem_cons.mpr ⟨n_X11_share_1, (List.forall_mem_cons.mpr ⟨n_X11_share_2, (List.forall_mem_cons.mpr ⟨n_X11_share_3, (List.forall_mem_cons.mpr ⟨n_X11_share_4, (fun _ h => absurd h List.not_mem_nil)⟩)⟩)⟩)⟩)⟩)
set_option maxRecDepth 100000 in
set_option maxHeartbeats 4000000 in
theorem k_X11_unshared : en_ckM (⟨"EvenSteps", "unshared", "(LEvenSteps$Slope;LEvenSteps$Slope;)I"⟩, prog_1_method_22_code, 7, (some .int), p_X11_unshared) = true := by decide +kernel
set_option maxRecDepth 100000 in
set_option maxHeartbeats 4000000 in
theorem n_X11_unshared_0 : en_lkC "EvenSteps" false [(.aload_n 0, 1, 0, 0, [], 0, 0), (.ldc2_w 205, 3, 0, 0, [], 0, (-1)), (.ldc2_w 207, 3, 0, 0, [], 0, 2), (.invokevirtual 162, 3, 2, 0, [(6, 45)], 0, 0), (.ifCond .le 16, 3, 1, 0, [], 0, 0), (.aload_n 1, 1, 1, 0, [], 0, 0), (.ldc2_w 205, 3, 0, 0, [], 0, (-1)), (.ldc2_w 207, 3, 0, 0, [], 0, 2), (.invokevirtual 162, 3, 2, 0, [(6, 45)], 0, 0), (.ifCond .gt 5, 3, 2, 0, [], 0, 0)] := ⟨trivial, ⟨wd_607, ⟨wd_265, ⟨lk_225, ⟨trivial, ⟨trivial, ⟨wd_607, ⟨wd_265, ⟨lk_225, ⟨trivial, trivial⟩⟩⟩⟩⟩⟩⟩⟩⟩⟩
set_option maxRecDepth 100000 in
set_option maxHeartbeats 4000000 in
theorem n_X11_unshared_1 : en_lkC "EvenSteps" false [(.iconst 1, 1, 0, 0, [], 1, 0), (.ireturn, 1, 0, 0, [], 0, 0)] := ⟨trivial, ⟨trivial, trivial⟩⟩
set_option maxRecDepth 100000 in
set_option maxHeartbeats 4000000 in
theorem n_X11_unshared_2 : en_lkC "EvenSteps" false [(.iconst 1, 1, 0, 0, [], 1, 0), (.istore_n 2, 1, 2, 0, [], 0, 0), (.iconst 1, 1, 0, 0, [], 1, 0), (.istore_n 3, 1, 3, 0, [], 0, 0), (.iconst 0, 1, 0, 0, [], 0, 0), (.istore 4, 2, 4, 0, [], 0, 0)] := ⟨trivial, ⟨trivial, ⟨trivial, ⟨trivial, ⟨trivial, ⟨trivial, trivial⟩⟩⟩⟩⟩⟩
set_option maxRecDepth 100000 in
set_option maxHeartbeats 4000000 in
theorem n_X11_unshared_3 : en_lkC "EvenSteps" false [(.iload 4, 2, 4, 0, [], 0, 0), (.sipush 5000, 3, 0, 0, [], 5000, 0), (.if_icmp .gt 54, 3, 5, 0, [], 0, 0), (.aload_n 0, 1, 0, 0, [], 0, 0), (.iload_n 2, 1, 2, 0, [], 0, 0), (.iload 4, 2, 4, 0, [], 0, 0), (.invokestatic 209, 3, 3, 0, [(0, 83)], 0, 0), (.istore 5, 2, 5, 0, [], 0, 0), (.aload_n 1, 1, 1, 0, [], 0, 0), (.iload_n 3, 1, 3, 0, [], 0, 0), (.iload 4, 2, 4, 0, [], 0, 0), (.invokestatic 209, 3, 3, 0, [(0, 83)], 0, 0), (.istore 6, 2, 6, 0, [], 0, 0), (.iload 4, 2, 4, 0, [], 0, 0), (.ifCond .le 15, 3, 4, 0, [], 0, 0), (.iload 5, 2, 5, 0, [], 0, 0), (.iload 6, 2, 6, 0, [], 0, 0), (.iadd, 1, 0, 0, [], 0, 0), (.iconst 1, 1, 0, 0, [], 1, 0), (.if_icmp .eq 6, 3, 4, 0, [], 0, 0), (.iload 4, 2, 4, 0, [], 0, 0), (.ireturn, 1, 0, 0, [], 0, 0)] := ⟨trivial, ⟨trivial, ⟨trivial, ⟨trivial, ⟨trivial, ⟨trivial, ⟨lk_239, ⟨trivial, ⟨trivial, ⟨trivial, ⟨trivial, ⟨lk_239, ⟨trivial, ⟨trivial, ⟨trivial, ⟨trivial, ⟨trivial, ⟨trivial, ⟨trivial, ⟨trivial, ⟨trivial, ⟨trivial, trivial⟩⟩⟩⟩⟩⟩⟩⟩⟩⟩⟩⟩⟩⟩⟩⟩⟩⟩⟩⟩⟩⟩
set_option maxRecDepth 100000 in
set_option maxHeartbeats 4000000 in
theorem n_X11_unshared_4 : en_lkC "EvenSteps" false [(.iload_n 2, 1, 2, 0, [], 0, 0), (.iload 5, 2, 5, 0, [], 0, 0), (.iadd, 1, 0, 0, [], 0, 0), (.istore_n 2, 1, 2, 0, [], 0, 0), (.iload_n 3, 1, 3, 0, [], 0, 0), (.iload 6, 2, 6, 0, [], 0, 0), (.iadd, 1, 0, 0, [], 0, 0), (.istore_n 3, 1, 3, 0, [], 0, 0), (.iinc 4 1, 3, 4, 0, [], 1, 0), (.goto (-56), 3, 3, 0, [], 0, 0)] := ⟨trivial, ⟨trivial, ⟨trivial, ⟨trivial, ⟨trivial, ⟨trivial, ⟨trivial, ⟨trivial, ⟨trivial, ⟨trivial, trivial⟩⟩⟩⟩⟩⟩⟩⟩⟩⟩
set_option maxRecDepth 100000 in
set_option maxHeartbeats 4000000 in
theorem n_X11_unshared_5 : en_lkC "EvenSteps" false [(.bipush (-2), 2, 0, 0, [], (-2), 0), (.ireturn, 1, 0, 0, [], 0, 0)] := ⟨trivial, ⟨trivial, trivial⟩⟩
set_option maxRecDepth 100000 in
set_option maxHeartbeats 4000000 in
theorem n_X11_unshared : en_lkM (⟨"EvenSteps", "unshared", "(LEvenSteps$Slope;LEvenSteps$Slope;)I"⟩, prog_1_method_22_code, 7, (some .int), p_X11_unshared) := (List.forall_mem_cons.mpr ⟨n_X11_unshared_0, (List.forall_mem_cons.mpr ⟨n_X11_unshared_1, (List.forall_mem_cons.mpr ⟨n_X11_unshared_2, (List.forall_mem_cons.mpr ⟨n_X11_unshared_3, (List.forall_mem_cons.mpr ⟨n_X11_unshared_4, (List.forall_mem_cons.mpr ⟨n_X11_unshared_5, (fun _ h => absurd h List.not_mem_nil)⟩)⟩)⟩)⟩)⟩)⟩)
set_option maxRecDepth 100000 in
set_option maxHeartbeats 4000000 in
theorem k_X11_tellings : en_ckM (⟨"EvenSteps", "tellings", "(LEvenSteps$Slope;II)I"⟩, prog_1_method_23_code, 4, (some .int), p_X11_tellings) = true := by decide +kernel
set_option maxRecDepth 100000 in
set_option maxHeartbeats 4000000 in
theorem n_X11_tellings_0 : en_lkC "EvenSteps" false [(.iconst 0, 1, 0, 0, [], 0, 0), (.istore_n 3, 1, 3, 0, [], 0, 0)] := ⟨trivial, ⟨trivial, trivial⟩⟩
set_option maxRecDepth 100000 in
set_option maxHeartbeats 4000000 in
theorem n_X11_tellings_1 : en_lkC "EvenSteps" false [(.iload_n 3, 1, 3, 0, [], 0, 0), (.iconst 2, 1, 0, 0, [], 2, 0), (.if_icmp .ge 25, 3, 2, 0, [], 0, 0), (.aload_n 0, 1, 0, 0, [], 0, 0), (.iload_n 1, 1, 1, 0, [], 0, 0), (.iload_n 3, 1, 3, 0, [], 0, 0), (.iadd, 1, 0, 0, [], 0, 0), (.i2l, 1, 0, 0, [], 0, 0), (.lconst 0, 1, 0, 0, [], 0, 0), (.lconst 1, 1, 0, 0, [], 0, 1), (.invokevirtual 156, 3, 3, 1, [(6, 44)], 0, 0), (.iload_n 2, 1, 2, 0, [], 0, 0), (.i2l, 1, 0, 0, [], 0, 0), (.lcmp, 1, 0, 0, [], 0, 0), (.ifCond .ne 9, 3, 2, 0, [], 0, 0), (.iinc 3 1, 3, 3, 0, [], 1, 0), (.goto (-24), 3, 1, 0, [], 0, 0)] := ⟨trivial, ⟨trivial, ⟨trivial, ⟨trivial, ⟨trivial, ⟨trivial, ⟨trivial, ⟨trivial, ⟨trivial, ⟨trivial, ⟨lk_222, ⟨trivial, ⟨trivial, ⟨trivial, ⟨trivial, ⟨trivial, ⟨trivial, trivial⟩⟩⟩⟩⟩⟩⟩⟩⟩⟩⟩⟩⟩⟩⟩⟩⟩
set_option maxRecDepth 100000 in
set_option maxHeartbeats 4000000 in
theorem n_X11_tellings_2 : en_lkC "EvenSteps" false [(.iload_n 3, 1, 3, 0, [], 0, 0), (.ireturn, 1, 0, 0, [], 0, 0)] := ⟨trivial, ⟨trivial, trivial⟩⟩
set_option maxRecDepth 100000 in
set_option maxHeartbeats 4000000 in
theorem n_X11_tellings : en_lkM (⟨"EvenSteps", "tellings", "(LEvenSteps$Slope;II)I"⟩, prog_1_method_23_code, 4, (some .int), p_X11_tellings) := (List.forall_mem_cons.mpr ⟨n_X11_tellings_0, (List.forall_mem_cons.mpr ⟨n_X11_tellings_1, (List.forall_mem_cons.mpr ⟨n_X11_tellings_2, (fun _ h => absurd h List.not_mem_nil)⟩)⟩)⟩)
set_option maxRecDepth 100000 in
set_option maxHeartbeats 4000000 in
theorem k_X11_kind : en_ckM (⟨"EvenSteps", "kind", "(I)I"⟩, prog_1_method_24_code, 3, (some .int), p_X11_kind) = true := by decide +kernel
set_option maxRecDepth 100000 in
set_option maxHeartbeats 4000000 in
theorem n_X11_kind_0 : en_lkC "EvenSteps" false [(.aload_n 0, 1, 0, 0, [], 0, 0), (.iload_n 1, 1, 1, 0, [], 0, 0), (.invokevirtual 123, 3, 1, 2, [(10, 124)], 0, 0), (.astore_n 2, 1, 2, 0, [], 0, 0), (.aload_n 2, 1, 2, 0, [], 0, 0), (.ifnonnull 7, 3, 1, 0, [], 0, 0), (.iconst (-1), 1, 0, 0, [], (-1), 0), (.goto 7, 3, 2, 0, [], 0, 0)] := ⟨trivial, ⟨trivial, ⟨lk_205, ⟨trivial, ⟨trivial, ⟨trivial, ⟨trivial, ⟨trivial, trivial⟩⟩⟩⟩⟩⟩⟩⟩
set_option maxRecDepth 100000 in
set_option maxHeartbeats 4000000 in
theorem n_X11_kind_1 : en_lkC "EvenSteps" false [(.aload_n 2, 1, 2, 0, [], 0, 0), (.invokevirtual 213, 3, 0, 0, [(1, 8), (2, 16), (3, 22), (4, 26), (8, 56)], 0, 0)] := ⟨trivial, ⟨lk_240, trivial⟩⟩
set_option maxRecDepth 100000 in
set_option maxHeartbeats 4000000 in
theorem n_X11_kind_2 : en_lkC "EvenSteps" false [(.ireturn, 1, 0, 0, [], 0, 0)] := ⟨trivial, trivial⟩
set_option maxRecDepth 100000 in
set_option maxHeartbeats 4000000 in
theorem n_X11_kind : en_lkM (⟨"EvenSteps", "kind", "(I)I"⟩, prog_1_method_24_code, 3, (some .int), p_X11_kind) := (List.forall_mem_cons.mpr ⟨n_X11_kind_0, (List.forall_mem_cons.mpr ⟨n_X11_kind_1, (List.forall_mem_cons.mpr ⟨n_X11_kind_2, (fun _ h => absurd h List.not_mem_nil)⟩)⟩)⟩)
set_option maxRecDepth 100000 in
set_option maxHeartbeats 4000000 in
theorem k_X11_step : en_ckM (⟨"EvenSteps", "step", "(II)I"⟩, prog_1_method_25_code, 4, (some .int), p_X11_step) = true := by decide +kernel
set_option maxRecDepth 100000 in
set_option maxHeartbeats 4000000 in
theorem n_X11_step_0 : en_lkC "EvenSteps" false [(.aload_n 0, 1, 0, 0, [], 0, 0), (.iload_n 1, 1, 1, 0, [], 0, 0), (.invokevirtual 123, 3, 1, 2, [(10, 124)], 0, 0), (.astore_n 3, 1, 3, 0, [], 0, 0), (.aload_n 3, 1, 3, 0, [], 0, 0), (.ifnonnull 7, 3, 1, 0, [], 0, 0), (.iconst (-1), 1, 0, 0, [], (-1), 0), (.goto 8, 3, 2, 0, [], 0, 0)] := ⟨trivial, ⟨trivial, ⟨lk_205, ⟨trivial, ⟨trivial, ⟨trivial, ⟨trivial, ⟨trivial, trivial⟩⟩⟩⟩⟩⟩⟩⟩
set_option maxRecDepth 100000 in
set_option maxHeartbeats 4000000 in
theorem n_X11_step_1 : en_lkC "EvenSteps" false [(.aload_n 3, 1, 3, 0, [], 0, 0), (.iload_n 2, 1, 2, 0, [], 0, 0), (.invokevirtual 216, 3, 1, 0, [(1, 9), (2, 17), (3, 17), (4, 17), (8, 57)], 0, 0)] := ⟨trivial, ⟨trivial, ⟨lk_241, trivial⟩⟩⟩
set_option maxRecDepth 100000 in
set_option maxHeartbeats 4000000 in
theorem n_X11_step_2 : en_lkC "EvenSteps" false [(.ireturn, 1, 0, 0, [], 0, 0)] := ⟨trivial, trivial⟩
set_option maxRecDepth 100000 in
set_option maxHeartbeats 4000000 in
theorem n_X11_step : en_lkM (⟨"EvenSteps", "step", "(II)I"⟩, prog_1_method_25_code, 4, (some .int), p_X11_step) := (List.forall_mem_cons.mpr ⟨n_X11_step_0, (List.forall_mem_cons.mpr ⟨n_X11_step_1, (List.forall_mem_cons.mpr ⟨n_X11_step_2, (fun _ h => absurd h List.not_mem_nil)⟩)⟩)⟩)
set_option maxRecDepth 100000 in
set_option maxHeartbeats 4000000 in
theorem k_X11_sum : en_ckM (⟨"EvenSteps", "sum", "(II)I"⟩, prog_1_method_26_code, 4, (some .int), p_X11_sum) = true := by decide +kernel
set_option maxRecDepth 100000 in
set_option maxHeartbeats 4000000 in
theorem n_X11_sum_0 : en_lkC "EvenSteps" false [(.aload_n 0, 1, 0, 0, [], 0, 0), (.iload_n 1, 1, 1, 0, [], 0, 0), (.invokevirtual 123, 3, 1, 2, [(10, 124)], 0, 0), (.astore_n 3, 1, 3, 0, [], 0, 0), (.aload_n 3, 1, 3, 0, [], 0, 0), (.ifnull 14, 3, 1, 0, [], 0, 0), (.iload_n 2, 1, 2, 0, [], 0, 0), (.ifCond .lt 10, 3, 1, 0, [], 0, 0), (.iload_n 2, 1, 2, 0, [], 0, 0), (.sipush 10000, 3, 0, 0, [], 10000, 0), (.if_icmp .le 7, 3, 2, 0, [], 0, 0)] := ⟨trivial, ⟨trivial, ⟨lk_205, ⟨trivial, ⟨trivial, ⟨trivial, ⟨trivial, ⟨trivial, ⟨trivial, ⟨trivial, ⟨trivial, trivial⟩⟩⟩⟩⟩⟩⟩⟩⟩⟩⟩
set_option maxRecDepth 100000 in
set_option maxHeartbeats 4000000 in
theorem n_X11_sum_1 : en_lkC "EvenSteps" false [(.iconst (-1), 1, 0, 0, [], (-1), 0), (.goto 8, 3, 3, 0, [], 0, 0)] := ⟨trivial, ⟨trivial, trivial⟩⟩
set_option maxRecDepth 100000 in
set_option maxHeartbeats 4000000 in
theorem n_X11_sum_2 : en_lkC "EvenSteps" false [(.aload_n 3, 1, 3, 0, [], 0, 0), (.iload_n 2, 1, 2, 0, [], 0, 0), (.invokevirtual 219, 3, 1, 0, [(1, 10), (2, 18), (3, 18), (4, 18), (8, 58)], 0, 0)] := ⟨trivial, ⟨trivial, ⟨lk_242, trivial⟩⟩⟩
set_option maxRecDepth 100000 in
set_option maxHeartbeats 4000000 in
theorem n_X11_sum_3 : en_lkC "EvenSteps" false [(.ireturn, 1, 0, 0, [], 0, 0)] := ⟨trivial, trivial⟩
set_option maxRecDepth 100000 in
set_option maxHeartbeats 4000000 in
theorem n_X11_sum : en_lkM (⟨"EvenSteps", "sum", "(II)I"⟩, prog_1_method_26_code, 4, (some .int), p_X11_sum) := (List.forall_mem_cons.mpr ⟨n_X11_sum_0, (List.forall_mem_cons.mpr ⟨n_X11_sum_1, (List.forall_mem_cons.mpr ⟨n_X11_sum_2, (List.forall_mem_cons.mpr ⟨n_X11_sum_3, (fun _ h => absurd h List.not_mem_nil)⟩)⟩)⟩)⟩)
set_option maxRecDepth 100000 in
set_option maxHeartbeats 4000000 in
theorem k_X11_isEven : en_ckM (⟨"EvenSteps", "isEven", "(III)I"⟩, prog_1_method_27_code, 4, (some .int), p_X11_isEven) = true := by decide +kernel
set_option maxRecDepth 100000 in
set_option maxHeartbeats 4000000 in
theorem n_X11_isEven_0 : en_lkC "EvenSteps" false [(.aload_n 0, 1, 0, 0, [], 0, 0), (.getfield 37, 3, 4, 2, [(10, 0)], 0, 0), (.aload_n 0, 1, 0, 0, [], 0, 0), (.iload_n 1, 1, 1, 0, [], 0, 0), (.invokevirtual 123, 3, 1, 2, [(10, 124)], 0, 0), (.iload_n 2, 1, 2, 0, [], 0, 0), (.iload_n 3, 1, 3, 0, [], 0, 0), (.invokevirtual 222, 3, 3, 3, [(7, 49)], 0, 0), (.ifCond .ne 5, 3, 1, 0, [], 0, 0), (.iconst (-1), 1, 0, 0, [], (-1), 0), (.ireturn, 1, 0, 0, [], 0, 0)] := ⟨trivial, ⟨lk_243, ⟨trivial, ⟨trivial, ⟨lk_205, ⟨trivial, ⟨trivial, ⟨lk_244, ⟨trivial, ⟨trivial, ⟨trivial, trivial⟩⟩⟩⟩⟩⟩⟩⟩⟩⟩⟩
set_option maxRecDepth 100000 in
set_option maxHeartbeats 4000000 in
theorem n_X11_isEven_1 : en_lkC "EvenSteps" false [(.aload_n 0, 1, 0, 0, [], 0, 0), (.getfield 37, 3, 4, 2, [(10, 0)], 0, 0), (.invokevirtual 226, 3, 0, 3, [(7, 52)], 0, 0), (.ifCond .eq 7, 3, 2, 0, [], 0, 0), (.iconst 0, 1, 0, 0, [], 0, 0), (.goto 4, 3, 3, 0, [], 0, 0)] := ⟨trivial, ⟨lk_243, ⟨lk_245, ⟨trivial, ⟨trivial, ⟨trivial, trivial⟩⟩⟩⟩⟩⟩
set_option maxRecDepth 100000 in
set_option maxHeartbeats 4000000 in
theorem n_X11_isEven_2 : en_lkC "EvenSteps" false [(.iconst 1, 1, 0, 0, [], 1, 0)] := ⟨trivial, trivial⟩
set_option maxRecDepth 100000 in
set_option maxHeartbeats 4000000 in
theorem n_X11_isEven_3 : en_lkC "EvenSteps" false [(.ireturn, 1, 0, 0, [], 0, 0)] := ⟨trivial, trivial⟩
set_option maxRecDepth 100000 in
set_option maxHeartbeats 4000000 in
theorem n_X11_isEven : en_lkM (⟨"EvenSteps", "isEven", "(III)I"⟩, prog_1_method_27_code, 4, (some .int), p_X11_isEven) := (List.forall_mem_cons.mpr ⟨n_X11_isEven_0, (List.forall_mem_cons.mpr ⟨n_X11_isEven_1, (List.forall_mem_cons.mpr ⟨n_X11_isEven_2, (List.forall_mem_cons.mpr ⟨n_X11_isEven_3, (fun _ h => absurd h List.not_mem_nil)⟩)⟩)⟩)⟩)
set_option maxRecDepth 100000 in
set_option maxHeartbeats 4000000 in
theorem k_X11_clash : en_ckM (⟨"EvenSteps", "clash", "(IIII)I"⟩, prog_1_method_28_code, 5, (some .int), p_X11_clash) = true := by decide +kernel
set_option maxRecDepth 100000 in
set_option maxHeartbeats 4000000 in
theorem n_X11_clash_0 : en_lkC "EvenSteps" false [(.iload 4, 2, 4, 0, [], 0, 0), (.ifCond .lt 36, 3, 1, 0, [], 0, 0), (.iload 4, 2, 4, 0, [], 0, 0), (.iconst 2, 1, 0, 0, [], 2, 0), (.if_icmp .gt 30, 3, 1, 0, [], 0, 0), (.aload_n 0, 1, 0, 0, [], 0, 0), (.getfield 37, 3, 4, 2, [(10, 0)], 0, 0), (.aload_n 0, 1, 0, 0, [], 0, 0), (.iload_n 1, 1, 1, 0, [], 0, 0), (.invokevirtual 123, 3, 1, 2, [(10, 124)], 0, 0), (.iload_n 2, 1, 2, 0, [], 0, 0), (.iload_n 3, 1, 3, 0, [], 0, 0), (.invokevirtual 222, 3, 3, 3, [(7, 49)], 0, 0), (.ifCond .eq 13, 3, 1, 0, [], 0, 0), (.aload_n 0, 1, 0, 0, [], 0, 0), (.getfield 37, 3, 4, 2, [(10, 0)], 0, 0), (.invokevirtual 226, 3, 0, 3, [(7, 52)], 0, 0), (.ifCond .ne 5, 3, 2, 0, [], 0, 0)] := ⟨trivial, ⟨trivial, ⟨trivial, ⟨trivial, ⟨trivial, ⟨trivial, ⟨lk_243, ⟨trivial, ⟨trivial, ⟨lk_205, ⟨trivial, ⟨trivial, ⟨lk_244, ⟨trivial, ⟨trivial, ⟨lk_243, ⟨lk_245, ⟨trivial, trivial⟩⟩⟩⟩⟩⟩⟩⟩⟩⟩⟩⟩⟩⟩⟩⟩⟩⟩
set_option maxRecDepth 100000 in
set_option maxHeartbeats 4000000 in
theorem n_X11_clash_1 : en_lkC "EvenSteps" false [(.iconst (-1), 1, 0, 0, [], (-1), 0), (.ireturn, 1, 0, 0, [], 0, 0)] := ⟨trivial, ⟨trivial, trivial⟩⟩
set_option maxRecDepth 100000 in
set_option maxHeartbeats 4000000 in
theorem n_X11_clash_2 : en_lkC "EvenSteps" false [(.iload 4, 2, 4, 0, [], 0, 0), (.lookupswitch 44 #[(0, 26), (1, 34)], 26, 5, 0, [(0, 3), (1, 4)], 0, 0)] := ⟨trivial, ⟨trivial, trivial⟩⟩
set_option maxRecDepth 100000 in
set_option maxHeartbeats 4000000 in
theorem n_X11_clash_3 : en_lkC "EvenSteps" false [(.aload_n 0, 1, 0, 0, [], 0, 0), (.getfield 37, 3, 4, 2, [(10, 0)], 0, 0), (.getfield 229, 3, 0, 0, [(7, 0)], 0, 0), (.ireturn, 1, 0, 0, [], 0, 0)] := ⟨trivial, ⟨lk_243, ⟨lk_246, ⟨trivial, trivial⟩⟩⟩⟩
set_option maxRecDepth 100000 in
set_option maxHeartbeats 4000000 in
theorem n_X11_clash_4 : en_lkC "EvenSteps" false [(.iload_n 2, 1, 2, 0, [], 0, 0), (.aload_n 0, 1, 0, 0, [], 0, 0), (.getfield 37, 3, 4, 2, [(10, 0)], 0, 0), (.getfield 232, 3, 1, 0, [(7, 0)], 0, 0), (.iadd, 1, 0, 0, [], 0, 0), (.ireturn, 1, 0, 0, [], 0, 0)] := ⟨trivial, ⟨trivial, ⟨lk_243, ⟨lk_247, ⟨trivial, ⟨trivial, trivial⟩⟩⟩⟩⟩⟩
set_option maxRecDepth 100000 in
set_option maxHeartbeats 4000000 in
theorem n_X11_clash_5 : en_lkC "EvenSteps" false [(.iload_n 2, 1, 2, 0, [], 0, 0), (.aload_n 0, 1, 0, 0, [], 0, 0), (.getfield 37, 3, 4, 2, [(10, 0)], 0, 0), (.getfield 235, 3, 2, 0, [(7, 0)], 0, 0), (.iadd, 1, 0, 0, [], 0, 0), (.ireturn, 1, 0, 0, [], 0, 0)] := ⟨trivial, ⟨trivial, ⟨lk_243, ⟨lk_248, ⟨trivial, ⟨trivial, trivial⟩⟩⟩⟩⟩⟩
set_option maxRecDepth 100000 in
set_option maxHeartbeats 4000000 in
theorem n_X11_clash : en_lkM (⟨"EvenSteps", "clash", "(IIII)I"⟩, prog_1_method_28_code, 5, (some .int), p_X11_clash) := (List.forall_mem_cons.mpr ⟨n_X11_clash_0, (List.forall_mem_cons.mpr ⟨n_X11_clash_1, (List.forall_mem_cons.mpr ⟨n_X11_clash_2, (List.forall_mem_cons.mpr ⟨n_X11_clash_3, (List.forall_mem_cons.mpr ⟨n_X11_clash_4, (List.forall_mem_cons.mpr ⟨n_X11_clash_5, (fun _ h => absurd h List.not_mem_nil)⟩)⟩)⟩)⟩)⟩)⟩)
set_option maxRecDepth 100000 in
set_option maxHeartbeats 4000000 in
theorem k_X11_range : en_ckM (⟨"EvenSteps", "range", "(IIII)I"⟩, prog_1_method_29_code, 9, (some .int), p_X11_range) = true := by decide +kernel
set_option maxRecDepth 100000 in
set_option maxHeartbeats 4000000 in
theorem n_X11_range_0 : en_lkC "EvenSteps" false [(.iload 4, 2, 4, 0, [], 0, 0), (.ifCond .lt 36, 3, 1, 0, [], 0, 0), (.iload 4, 2, 4, 0, [], 0, 0), (.iconst 3, 1, 0, 0, [], 3, 0), (.if_icmp .gt 30, 3, 1, 0, [], 0, 0), (.aload_n 0, 1, 0, 0, [], 0, 0), (.getfield 37, 3, 4, 2, [(10, 0)], 0, 0), (.aload_n 0, 1, 0, 0, [], 0, 0), (.iload_n 1, 1, 1, 0, [], 0, 0), (.invokevirtual 123, 3, 1, 2, [(10, 124)], 0, 0), (.iload_n 2, 1, 2, 0, [], 0, 0), (.iload_n 3, 1, 3, 0, [], 0, 0), (.invokevirtual 222, 3, 3, 3, [(7, 49)], 0, 0), (.ifCond .eq 13, 3, 1, 0, [], 0, 0), (.aload_n 0, 1, 0, 0, [], 0, 0), (.getfield 37, 3, 4, 2, [(10, 0)], 0, 0), (.invokevirtual 238, 3, 0, 3, [(7, 54)], 0, 0), (.ifCond .ne 6, 3, 2, 0, [], 0, 0)] := ⟨trivial, ⟨trivial, ⟨trivial, ⟨trivial, ⟨trivial, ⟨trivial, ⟨lk_243, ⟨trivial, ⟨trivial, ⟨lk_205, ⟨trivial, ⟨trivial, ⟨lk_244, ⟨trivial, ⟨trivial, ⟨lk_243, ⟨lk_249, ⟨trivial, trivial⟩⟩⟩⟩⟩⟩⟩⟩⟩⟩⟩⟩⟩⟩⟩⟩⟩⟩
set_option maxRecDepth 100000 in
set_option maxHeartbeats 4000000 in
theorem n_X11_range_1 : en_lkC "EvenSteps" false [(.ldc 161, 2, 0, 0, [], (-1000000), 0), (.ireturn, 1, 0, 0, [], 0, 0)] := ⟨wd_558, ⟨trivial, trivial⟩⟩
set_option maxRecDepth 100000 in
set_option maxHeartbeats 4000000 in
theorem n_X11_range_2 : en_lkC "EvenSteps" false [(.iload 4, 2, 4, 0, [], 0, 0), (.iconst 2, 1, 0, 0, [], 2, 0), (.if_icmp .ge 13, 3, 3, 0, [], 0, 0), (.aload_n 0, 1, 0, 0, [], 0, 0), (.getfield 37, 3, 4, 2, [(10, 0)], 0, 0), (.getfield 241, 3, 3, 0, [(7, 0)], 0, 0), (.goto 10, 3, 4, 0, [], 0, 0)] := ⟨trivial, ⟨trivial, ⟨trivial, ⟨trivial, ⟨lk_243, ⟨lk_250, ⟨trivial, trivial⟩⟩⟩⟩⟩⟩⟩
set_option maxRecDepth 100000 in
set_option maxHeartbeats 4000000 in
theorem n_X11_range_3 : en_lkC "EvenSteps" false [(.aload_n 0, 1, 0, 0, [], 0, 0), (.getfield 37, 3, 4, 2, [(10, 0)], 0, 0), (.getfield 244, 3, 5, 0, [(7, 0)], 0, 0)] := ⟨trivial, ⟨lk_243, ⟨lk_251, trivial⟩⟩⟩
set_option maxRecDepth 100000 in
set_option maxHeartbeats 4000000 in
theorem n_X11_range_4 : en_lkC "EvenSteps" false [(.istore 5, 2, 5, 0, [], 0, 0), (.iload 4, 2, 4, 0, [], 0, 0), (.iconst 2, 1, 0, 0, [], 2, 0), (.if_icmp .ge 13, 3, 5, 0, [], 0, 0), (.aload_n 0, 1, 0, 0, [], 0, 0), (.getfield 37, 3, 4, 2, [(10, 0)], 0, 0), (.getfield 247, 3, 4, 0, [(7, 0)], 0, 0), (.goto 10, 3, 6, 0, [], 0, 0)] := ⟨trivial, ⟨trivial, ⟨trivial, ⟨trivial, ⟨trivial, ⟨lk_243, ⟨lk_252, ⟨trivial, trivial⟩⟩⟩⟩⟩⟩⟩⟩
set_option maxRecDepth 100000 in
set_option maxHeartbeats 4000000 in
theorem n_X11_range_5 : en_lkC "EvenSteps" false [(.aload_n 0, 1, 0, 0, [], 0, 0), (.getfield 37, 3, 4, 2, [(10, 0)], 0, 0), (.getfield 250, 3, 6, 0, [(7, 0)], 0, 0)] := ⟨trivial, ⟨lk_243, ⟨lk_253, trivial⟩⟩⟩
set_option maxRecDepth 100000 in
set_option maxHeartbeats 4000000 in
theorem n_X11_range_6 : en_lkC "EvenSteps" false [(.istore 6, 2, 6, 0, [], 0, 0), (.iload 5, 2, 5, 0, [], 0, 0), (.i2l, 1, 0, 0, [], 0, 0), (.iload 6, 2, 6, 0, [], 0, 0), (.i2l, 1, 0, 0, [], 0, 0), (.invokestatic 253, 3, 2, 1, [(0, 129)], 0, 0), (.lstore 7, 2, 7, 0, [], 0, 0), (.lload 7, 2, 7, 0, [], 0, 0), (.lconst 0, 1, 0, 0, [], 0, 0), (.lcmp, 1, 0, 0, [], 0, 0), (.ifCond .ne 6, 3, 7, 0, [], 0, 0), (.ldc 161, 2, 0, 0, [], (-1000000), 0), (.ireturn, 1, 0, 0, [], 0, 0)] := ⟨trivial, ⟨trivial, ⟨trivial, ⟨trivial, ⟨trivial, ⟨lk_254, ⟨trivial, ⟨trivial, ⟨trivial, ⟨trivial, ⟨trivial, ⟨wd_558, ⟨trivial, trivial⟩⟩⟩⟩⟩⟩⟩⟩⟩⟩⟩⟩⟩
set_option maxRecDepth 100000 in
set_option maxHeartbeats 4000000 in
theorem n_X11_range_7 : en_lkC "EvenSteps" false [(.iload 4, 2, 4, 0, [], 0, 0), (.ifCond .eq 9, 3, 8, 0, [], 0, 0), (.iload 4, 2, 4, 0, [], 0, 0), (.iconst 2, 1, 0, 0, [], 2, 0), (.if_icmp .ne 8, 3, 9, 0, [], 0, 0)] := ⟨trivial, ⟨trivial, ⟨trivial, ⟨trivial, ⟨trivial, trivial⟩⟩⟩⟩⟩
set_option maxRecDepth 100000 in
set_option maxHeartbeats 4000000 in
theorem n_X11_range_8 : en_lkC "EvenSteps" false [(.iload 5, 2, 5, 0, [], 0, 0), (.goto 5, 3, 10, 0, [], 0, 0)] := ⟨trivial, ⟨trivial, trivial⟩⟩
set_option maxRecDepth 100000 in
set_option maxHeartbeats 4000000 in
theorem n_X11_range_9 : en_lkC "EvenSteps" false [(.iload 6, 2, 6, 0, [], 0, 0)] := ⟨trivial, trivial⟩
set_option maxRecDepth 100000 in
set_option maxHeartbeats 4000000 in
theorem n_X11_range_10 : en_lkC "EvenSteps" false [(.i2l, 1, 0, 0, [], 0, 0), (.lload 7, 2, 7, 0, [], 0, 0), (.ldiv, 1, 0, 0, [], 0, 0), (.l2i, 1, 0, 0, [], 0, 0), (.ireturn, 1, 0, 0, [], 0, 0)] := ⟨trivial, ⟨trivial, ⟨trivial, ⟨trivial, ⟨trivial, trivial⟩⟩⟩⟩⟩
set_option maxRecDepth 100000 in
set_option maxHeartbeats 4000000 in
theorem n_X11_range : en_lkM (⟨"EvenSteps", "range", "(IIII)I"⟩, prog_1_method_29_code, 9, (some .int), p_X11_range) := (List.forall_mem_cons.mpr ⟨n_X11_range_0, (List.forall_mem_cons.mpr ⟨n_X11_range_1, (List.forall_mem_cons.mpr ⟨n_X11_range_2, (List.forall_mem_cons.mpr ⟨n_X11_range_3, (List.forall_mem_cons.mpr ⟨n_X11_range_4, (List.forall_mem_cons.mpr ⟨n_X11_range_5, (List.forall_mem_cons.mpr ⟨n_X11_range_6, (List.forall_mem_cons.mpr ⟨n_X11_range_7, (List.forall_mem_cons.mpr ⟨n_X11_range_8, (List.forall_mem_cons.mpr ⟨n_X11_range_9, (List.forall_mem_cons.mpr ⟨n_X11_range_10, (fun _ h => absurd h List.not_mem_nil)⟩)⟩)⟩)⟩)⟩)⟩)⟩)⟩)⟩)⟩)⟩)
set_option maxRecDepth 100000 in
set_option maxHeartbeats 4000000 in
theorem k_X11_parts : en_ckM (⟨"EvenSteps", "parts", "(III)I"⟩, prog_1_method_30_code, 8, (some .int), p_X11_parts) = true := by decide +kernel
set_option maxRecDepth 100000 in
set_option maxHeartbeats 4000000 in
theorem n_X11_parts_0 : en_lkC "EvenSteps" false [(.aload_n 0, 1, 0, 0, [], 0, 0), (.iload_n 1, 1, 1, 0, [], 0, 0), (.invokevirtual 123, 3, 1, 2, [(10, 124)], 0, 0), (.astore 4, 2, 4, 0, [], 0, 0), (.aload 4, 2, 4, 0, [], 0, 0), (.ifnull 23, 3, 1, 0, [], 0, 0), (.iload_n 2, 1, 2, 0, [], 0, 0), (.iconst 1, 1, 0, 0, [], 1, 0), (.if_icmp .lt 18, 3, 1, 0, [], 0, 0), (.iload_n 2, 1, 2, 0, [], 0, 0), (.bipush 12, 2, 0, 0, [], 12, 0), (.if_icmp .gt 12, 3, 1, 0, [], 0, 0), (.iload_n 3, 1, 3, 0, [], 0, 0), (.ifCond .lt 8, 3, 1, 0, [], 0, 0), (.iload_n 3, 1, 3, 0, [], 0, 0), (.iconst 1, 1, 0, 0, [], 1, 0), (.if_icmp .le 5, 3, 2, 0, [], 0, 0)] := ⟨trivial, ⟨trivial, ⟨lk_205, ⟨trivial, ⟨trivial, ⟨trivial, ⟨trivial, ⟨trivial, ⟨trivial, ⟨trivial, ⟨trivial, ⟨trivial, ⟨trivial, ⟨trivial, ⟨trivial, ⟨trivial, ⟨trivial, trivial⟩⟩⟩⟩⟩⟩⟩⟩⟩⟩⟩⟩⟩⟩⟩⟩⟩
set_option maxRecDepth 100000 in
set_option maxHeartbeats 4000000 in
theorem n_X11_parts_1 : en_lkC "EvenSteps" false [(.iconst (-1), 1, 0, 0, [], (-1), 0), (.ireturn, 1, 0, 0, [], 0, 0)] := ⟨trivial, ⟨trivial, trivial⟩⟩
set_option maxRecDepth 100000 in
set_option maxHeartbeats 4000000 in
theorem n_X11_parts_2 : en_lkC "EvenSteps" false [(.aload_n 0, 1, 0, 0, [], 0, 0), (.aload_n 0, 1, 0, 0, [], 0, 0), (.aload 4, 2, 4, 0, [], 0, 0), (.invokevirtual 256, 3, 1, 0, [(10, 91)], 0, 0), (.iload_n 2, 1, 2, 0, [], 0, 0), (.invokevirtual 259, 3, 2, 0, [(10, 92)], 0, 0), (.istore 5, 2, 5, 0, [], 0, 0), (.iload_n 3, 1, 3, 0, [], 0, 0), (.ifCond .ne 6, 3, 3, 0, [], 0, 0), (.iload 5, 2, 5, 0, [], 0, 0), (.ireturn, 1, 0, 0, [], 0, 0)] := ⟨trivial, ⟨trivial, ⟨trivial, ⟨lk_255, ⟨trivial, ⟨lk_256, ⟨trivial, ⟨trivial, ⟨trivial, ⟨trivial, ⟨trivial, trivial⟩⟩⟩⟩⟩⟩⟩⟩⟩⟩⟩
set_option maxRecDepth 100000 in
set_option maxHeartbeats 4000000 in
theorem n_X11_parts_3 : en_lkC "EvenSteps" false [(.iconst 0, 1, 0, 0, [], 0, 0), (.istore 6, 2, 6, 0, [], 0, 0), (.iconst 0, 1, 0, 0, [], 0, 0), (.istore 7, 2, 7, 0, [], 0, 0)] := ⟨trivial, ⟨trivial, ⟨trivial, ⟨trivial, trivial⟩⟩⟩⟩
set_option maxRecDepth 100000 in
set_option maxHeartbeats 4000000 in
theorem n_X11_parts_4 : en_lkC "EvenSteps" false [(.iload 7, 2, 7, 0, [], 0, 0), (.iload 5, 2, 5, 0, [], 0, 0), (.if_icmp .ge 27, 3, 6, 0, [], 0, 0), (.aload_n 0, 1, 0, 0, [], 0, 0), (.aload_n 0, 1, 0, 0, [], 0, 0), (.getfield 52, 3, 7, 2, [(10, 0)], 0, 0), (.iload 7, 2, 7, 0, [], 0, 0), (.iaload, 1, 0, 0, [], 0, 0), (.iload_n 2, 1, 2, 0, [], 0, 0), (.invokevirtual 262, 3, 2, 3, [(10, 95)], 0, 0), (.ifCond .eq 6, 3, 5, 0, [], 0, 0), (.iinc 6 1, 3, 6, 0, [], 1, 0)] := ⟨trivial, ⟨trivial, ⟨trivial, ⟨trivial, ⟨trivial, ⟨lk_257, ⟨trivial, ⟨trivial, ⟨trivial, ⟨lk_258, ⟨trivial, ⟨trivial, trivial⟩⟩⟩⟩⟩⟩⟩⟩⟩⟩⟩⟩
set_option maxRecDepth 100000 in
set_option maxHeartbeats 4000000 in
theorem n_X11_parts_5 : en_lkC "EvenSteps" false [(.iinc 7 1, 3, 7, 0, [], 1, 0), (.goto (-28), 3, 4, 0, [], 0, 0)] := ⟨trivial, ⟨trivial, trivial⟩⟩
set_option maxRecDepth 100000 in
set_option maxHeartbeats 4000000 in
theorem n_X11_parts_6 : en_lkC "EvenSteps" false [(.iload 6, 2, 6, 0, [], 0, 0), (.ireturn, 1, 0, 0, [], 0, 0)] := ⟨trivial, ⟨trivial, trivial⟩⟩
set_option maxRecDepth 100000 in
set_option maxHeartbeats 4000000 in
theorem n_X11_parts : en_lkM (⟨"EvenSteps", "parts", "(III)I"⟩, prog_1_method_30_code, 8, (some .int), p_X11_parts) := (List.forall_mem_cons.mpr ⟨n_X11_parts_0, (List.forall_mem_cons.mpr ⟨n_X11_parts_1, (List.forall_mem_cons.mpr ⟨n_X11_parts_2, (List.forall_mem_cons.mpr ⟨n_X11_parts_3, (List.forall_mem_cons.mpr ⟨n_X11_parts_4, (List.forall_mem_cons.mpr ⟨n_X11_parts_5, (List.forall_mem_cons.mpr ⟨n_X11_parts_6, (fun _ h => absurd h List.not_mem_nil)⟩)⟩)⟩)⟩)⟩)⟩)⟩)
set_option maxRecDepth 100000 in
set_option maxHeartbeats 4000000 in
theorem k_X11_readPartSteps : en_ckM (⟨"EvenSteps", "readPartSteps", "(LEvenSteps$Row;)I"⟩, prog_1_method_31_code, 4, (some .int), p_X11_readPartSteps) = true := by decide +kernel
set_option maxRecDepth 100000 in
set_option maxHeartbeats 4000000 in
theorem n_X11_readPartSteps_0 : en_lkC "EvenSteps" false [(.iconst 0, 1, 0, 0, [], 0, 0), (.istore_n 2, 1, 2, 0, [], 0, 0)] := ⟨trivial, ⟨trivial, trivial⟩⟩
set_option maxRecDepth 100000 in
set_option maxHeartbeats 4000000 in
theorem n_X11_readPartSteps_1 : en_lkC "EvenSteps" false [(.iload_n 2, 1, 2, 0, [], 0, 0), (.aload_n 0, 1, 0, 0, [], 0, 0), (.getfield 48, 3, 6, 2, [(10, 0)], 0, 0), (.arraylength, 1, 0, 0, [], 0, 0), (.if_icmp .ge 28, 3, 3, 0, [], 0, 0), (.aload_n 1, 1, 1, 0, [], 0, 0), (.iload_n 2, 1, 2, 0, [], 0, 0), (.invokevirtual 216, 3, 1, 0, [(1, 9), (2, 17), (3, 17), (4, 17), (8, 57)], 0, 0), (.istore_n 3, 1, 3, 0, [], 0, 0), (.iload_n 3, 1, 3, 0, [], 0, 0), (.ifCond .ge 5, 3, 2, 0, [], 0, 0), (.iload_n 2, 1, 2, 0, [], 0, 0), (.ireturn, 1, 0, 0, [], 0, 0)] := ⟨trivial, ⟨trivial, ⟨lk_259, ⟨trivial, ⟨trivial, ⟨trivial, ⟨trivial, ⟨lk_241, ⟨trivial, ⟨trivial, ⟨trivial, ⟨trivial, ⟨trivial, trivial⟩⟩⟩⟩⟩⟩⟩⟩⟩⟩⟩⟩⟩
set_option maxRecDepth 100000 in
set_option maxHeartbeats 4000000 in
theorem n_X11_readPartSteps_2 : en_lkC "EvenSteps" false [(.aload_n 0, 1, 0, 0, [], 0, 0), (.getfield 48, 3, 6, 2, [(10, 0)], 0, 0), (.iload_n 2, 1, 2, 0, [], 0, 0), (.iload_n 3, 1, 3, 0, [], 0, 0), (.iastore, 1, 0, 0, [], 0, 0), (.iinc 2 1, 3, 2, 0, [], 1, 0), (.goto (-31), 3, 1, 0, [], 0, 0)] := ⟨trivial, ⟨lk_259, ⟨trivial, ⟨trivial, ⟨trivial, ⟨trivial, ⟨trivial, trivial⟩⟩⟩⟩⟩⟩⟩
set_option maxRecDepth 100000 in
set_option maxHeartbeats 4000000 in
theorem n_X11_readPartSteps_3 : en_lkC "EvenSteps" false [(.aload_n 0, 1, 0, 0, [], 0, 0), (.getfield 48, 3, 6, 2, [(10, 0)], 0, 0), (.arraylength, 1, 0, 0, [], 0, 0), (.ireturn, 1, 0, 0, [], 0, 0)] := ⟨trivial, ⟨lk_259, ⟨trivial, ⟨trivial, trivial⟩⟩⟩⟩
set_option maxRecDepth 100000 in
set_option maxHeartbeats 4000000 in
theorem n_X11_readPartSteps : en_lkM (⟨"EvenSteps", "readPartSteps", "(LEvenSteps$Row;)I"⟩, prog_1_method_31_code, 4, (some .int), p_X11_readPartSteps) := (List.forall_mem_cons.mpr ⟨n_X11_readPartSteps_0, (List.forall_mem_cons.mpr ⟨n_X11_readPartSteps_1, (List.forall_mem_cons.mpr ⟨n_X11_readPartSteps_2, (List.forall_mem_cons.mpr ⟨n_X11_readPartSteps_3, (fun _ h => absurd h List.not_mem_nil)⟩)⟩)⟩)⟩)
set_option maxRecDepth 100000 in
set_option maxHeartbeats 4000000 in
theorem k_X11_findUnlike : en_ckM (⟨"EvenSteps", "findUnlike", "(II)I"⟩, prog_1_method_32_code, 5, (some .int), p_X11_findUnlike) = true := by decide +kernel
set_option maxRecDepth 100000 in
set_option maxHeartbeats 4000000 in
theorem n_X11_findUnlike_0 : en_lkC "EvenSteps" false [(.iconst 0, 1, 0, 0, [], 0, 0), (.istore_n 3, 1, 3, 0, [], 0, 0), (.iconst 0, 1, 0, 0, [], 0, 0), (.istore 4, 2, 4, 0, [], 0, 0)] := ⟨trivial, ⟨trivial, ⟨trivial, ⟨trivial, trivial⟩⟩⟩⟩
set_option maxRecDepth 100000 in
set_option maxHeartbeats 4000000 in
theorem n_X11_findUnlike_1 : en_lkC "EvenSteps" false [(.iload 4, 2, 4, 0, [], 0, 0), (.sipush 200, 3, 0, 0, [], 200, 0), (.if_icmp .ge 39, 3, 3, 0, [], 0, 0), (.iload 4, 2, 4, 0, [], 0, 0), (.iload_n 2, 1, 2, 0, [], 0, 0), (.iadd, 1, 0, 0, [], 0, 0), (.iload_n 1, 1, 1, 0, [], 0, 0), (.if_icmp .gt 31, 3, 3, 0, [], 0, 0), (.aload_n 0, 1, 0, 0, [], 0, 0), (.iload 4, 2, 4, 0, [], 0, 0), (.iload_n 2, 1, 2, 0, [], 0, 0), (.iload_n 3, 1, 3, 0, [], 0, 0), (.invokevirtual 265, 3, 3, 3, [(10, 93)], 0, 0), (.ifCond .ne 14, 3, 2, 0, [], 0, 0), (.aload_n 0, 1, 0, 0, [], 0, 0), (.getfield 52, 3, 7, 2, [(10, 0)], 0, 0), (.iload_n 3, 1, 3, 0, [], 0, 0), (.iload 4, 2, 4, 0, [], 0, 0), (.iastore, 1, 0, 0, [], 0, 0), (.iinc 3 1, 3, 3, 0, [], 1, 0)] := ⟨trivial, ⟨trivial, ⟨trivial, ⟨trivial, ⟨trivial, ⟨trivial, ⟨trivial, ⟨trivial, ⟨trivial, ⟨trivial, ⟨trivial, ⟨trivial, ⟨lk_260, ⟨trivial, ⟨trivial, ⟨lk_257, ⟨trivial, ⟨trivial, ⟨trivial, ⟨trivial, trivial⟩⟩⟩⟩⟩⟩⟩⟩⟩⟩⟩⟩⟩⟩⟩⟩⟩⟩⟩⟩
set_option maxRecDepth 100000 in
set_option maxHeartbeats 4000000 in
theorem n_X11_findUnlike_2 : en_lkC "EvenSteps" false [(.iinc 4 1, 3, 4, 0, [], 1, 0), (.goto (-41), 3, 1, 0, [], 0, 0)] := ⟨trivial, ⟨trivial, trivial⟩⟩
set_option maxRecDepth 100000 in
set_option maxHeartbeats 4000000 in
theorem n_X11_findUnlike_3 : en_lkC "EvenSteps" false [(.iload_n 3, 1, 3, 0, [], 0, 0), (.ireturn, 1, 0, 0, [], 0, 0)] := ⟨trivial, ⟨trivial, trivial⟩⟩
set_option maxRecDepth 100000 in
set_option maxHeartbeats 4000000 in
theorem n_X11_findUnlike : en_lkM (⟨"EvenSteps", "findUnlike", "(II)I"⟩, prog_1_method_32_code, 5, (some .int), p_X11_findUnlike) := (List.forall_mem_cons.mpr ⟨n_X11_findUnlike_0, (List.forall_mem_cons.mpr ⟨n_X11_findUnlike_1, (List.forall_mem_cons.mpr ⟨n_X11_findUnlike_2, (List.forall_mem_cons.mpr ⟨n_X11_findUnlike_3, (fun _ h => absurd h List.not_mem_nil)⟩)⟩)⟩)⟩)
set_option maxRecDepth 100000 in
set_option maxHeartbeats 4000000 in
theorem k_X11_isAmongParts : en_ckM (⟨"EvenSteps", "isAmongParts", "(III)Z"⟩, prog_1_method_33_code, 5, (some .boolean), p_X11_isAmongParts) = true := by decide +kernel
set_option maxRecDepth 100000 in
set_option maxHeartbeats 4000000 in
theorem n_X11_isAmongParts_0 : en_lkC "EvenSteps" false [(.iconst 0, 1, 0, 0, [], 0, 0), (.istore 4, 2, 4, 0, [], 0, 0)] := ⟨trivial, ⟨trivial, trivial⟩⟩
set_option maxRecDepth 100000 in
set_option maxHeartbeats 4000000 in
theorem n_X11_isAmongParts_1 : en_lkC "EvenSteps" false [(.iload 4, 2, 4, 0, [], 0, 0), (.iload_n 3, 1, 3, 0, [], 0, 0), (.if_icmp .ge 27, 3, 3, 0, [], 0, 0), (.aload_n 0, 1, 0, 0, [], 0, 0), (.iload_n 1, 1, 1, 0, [], 0, 0), (.aload_n 0, 1, 0, 0, [], 0, 0), (.getfield 52, 3, 7, 2, [(10, 0)], 0, 0), (.iload 4, 2, 4, 0, [], 0, 0), (.iaload, 1, 0, 0, [], 0, 0), (.iload_n 2, 1, 2, 0, [], 0, 0), (.invokevirtual 269, 3, 3, 3, [(10, 94)], 0, 0), (.ifCond .eq 5, 3, 2, 0, [], 0, 0), (.iconst 1, 1, 0, 0, [], 1, 0), (.ireturn, 1, 0, 3, [], 0, 0)] := ⟨trivial, ⟨trivial, ⟨trivial, ⟨trivial, ⟨trivial, ⟨trivial, ⟨lk_257, ⟨trivial, ⟨trivial, ⟨trivial, ⟨lk_261, ⟨trivial, ⟨trivial, ⟨trivial, trivial⟩⟩⟩⟩⟩⟩⟩⟩⟩⟩⟩⟩⟩⟩
set_option maxRecDepth 100000 in
set_option maxHeartbeats 4000000 in
theorem n_X11_isAmongParts_2 : en_lkC "EvenSteps" false [(.iinc 4 1, 3, 4, 0, [], 1, 0), (.goto (-27), 3, 1, 0, [], 0, 0)] := ⟨trivial, ⟨trivial, trivial⟩⟩
set_option maxRecDepth 100000 in
set_option maxHeartbeats 4000000 in
theorem n_X11_isAmongParts_3 : en_lkC "EvenSteps" false [(.iconst 0, 1, 0, 0, [], 0, 0), (.ireturn, 1, 0, 3, [], 0, 0)] := ⟨trivial, ⟨trivial, trivial⟩⟩
set_option maxRecDepth 100000 in
set_option maxHeartbeats 4000000 in
theorem n_X11_isAmongParts : en_lkM (⟨"EvenSteps", "isAmongParts", "(III)Z"⟩, prog_1_method_33_code, 5, (some .boolean), p_X11_isAmongParts) := (List.forall_mem_cons.mpr ⟨n_X11_isAmongParts_0, (List.forall_mem_cons.mpr ⟨n_X11_isAmongParts_1, (List.forall_mem_cons.mpr ⟨n_X11_isAmongParts_2, (List.forall_mem_cons.mpr ⟨n_X11_isAmongParts_3, (fun _ h => absurd h List.not_mem_nil)⟩)⟩)⟩)⟩)
set_option maxRecDepth 100000 in
set_option maxHeartbeats 4000000 in
theorem k_X11_readsAlike : en_ckM (⟨"EvenSteps", "readsAlike", "(III)Z"⟩, prog_1_method_34_code, 5, (some .boolean), p_X11_readsAlike) = true := by decide +kernel
set_option maxRecDepth 100000 in
set_option maxHeartbeats 4000000 in
theorem n_X11_readsAlike_0 : en_lkC "EvenSteps" false [(.iconst 0, 1, 0, 0, [], 0, 0), (.istore 4, 2, 4, 0, [], 0, 0)] := ⟨trivial, ⟨trivial, trivial⟩⟩
set_option maxRecDepth 100000 in
set_option maxHeartbeats 4000000 in
theorem n_X11_readsAlike_1 : en_lkC "EvenSteps" false [(.iload 4, 2, 4, 0, [], 0, 0), (.iload_n 3, 1, 3, 0, [], 0, 0), (.if_icmp .ge 32, 3, 3, 0, [], 0, 0), (.aload_n 0, 1, 0, 0, [], 0, 0), (.getfield 48, 3, 6, 2, [(10, 0)], 0, 0), (.iload_n 1, 1, 1, 0, [], 0, 0), (.iload 4, 2, 4, 0, [], 0, 0), (.iadd, 1, 0, 0, [], 0, 0), (.iaload, 1, 0, 0, [], 0, 0), (.aload_n 0, 1, 0, 0, [], 0, 0), (.getfield 48, 3, 6, 2, [(10, 0)], 0, 0), (.iload_n 2, 1, 2, 0, [], 0, 0), (.iload 4, 2, 4, 0, [], 0, 0), (.iadd, 1, 0, 0, [], 0, 0), (.iaload, 1, 0, 0, [], 0, 0), (.if_icmp .eq 5, 3, 2, 0, [], 0, 0), (.iconst 0, 1, 0, 0, [], 0, 0), (.ireturn, 1, 0, 3, [], 0, 0)] := ⟨trivial, ⟨trivial, ⟨trivial, ⟨trivial, ⟨lk_259, ⟨trivial, ⟨trivial, ⟨trivial, ⟨trivial, ⟨trivial, ⟨lk_259, ⟨trivial, ⟨trivial, ⟨trivial, ⟨trivial, ⟨trivial, ⟨trivial, ⟨trivial, trivial⟩⟩⟩⟩⟩⟩⟩⟩⟩⟩⟩⟩⟩⟩⟩⟩⟩⟩
set_option maxRecDepth 100000 in
set_option maxHeartbeats 4000000 in
theorem n_X11_readsAlike_2 : en_lkC "EvenSteps" false [(.iinc 4 1, 3, 4, 0, [], 1, 0), (.goto (-32), 3, 1, 0, [], 0, 0)] := ⟨trivial, ⟨trivial, trivial⟩⟩
set_option maxRecDepth 100000 in
set_option maxHeartbeats 4000000 in
theorem n_X11_readsAlike_3 : en_lkC "EvenSteps" false [(.iconst 1, 1, 0, 0, [], 1, 0), (.ireturn, 1, 0, 3, [], 0, 0)] := ⟨trivial, ⟨trivial, trivial⟩⟩
set_option maxRecDepth 100000 in
set_option maxHeartbeats 4000000 in
theorem n_X11_readsAlike : en_lkM (⟨"EvenSteps", "readsAlike", "(III)Z"⟩, prog_1_method_34_code, 5, (some .boolean), p_X11_readsAlike) := (List.forall_mem_cons.mpr ⟨n_X11_readsAlike_0, (List.forall_mem_cons.mpr ⟨n_X11_readsAlike_1, (List.forall_mem_cons.mpr ⟨n_X11_readsAlike_2, (List.forall_mem_cons.mpr ⟨n_X11_readsAlike_3, (fun _ h => absurd h List.not_mem_nil)⟩)⟩)⟩)⟩)
set_option maxRecDepth 100000 in
set_option maxHeartbeats 4000000 in
theorem k_X11_readsAlikeBackward : en_ckM (⟨"EvenSteps", "readsAlikeBackward", "(II)Z"⟩, prog_1_method_35_code, 4, (some .boolean), p_X11_readsAlikeBackward) = true := by decide +kernel
set_option maxRecDepth 100000 in
set_option maxHeartbeats 4000000 in
theorem n_X11_readsAlikeBackward_0 : en_lkC "EvenSteps" false [(.iconst 0, 1, 0, 0, [], 0, 0), (.istore_n 3, 1, 3, 0, [], 0, 0)] := ⟨trivial, ⟨trivial, trivial⟩⟩
set_option maxRecDepth 100000 in
set_option maxHeartbeats 4000000 in
theorem n_X11_readsAlikeBackward_1 : en_lkC "EvenSteps" false [(.iload_n 3, 1, 3, 0, [], 0, 0), (.iload_n 2, 1, 2, 0, [], 0, 0), (.if_icmp .ge 34, 3, 3, 0, [], 0, 0), (.aload_n 0, 1, 0, 0, [], 0, 0), (.getfield 48, 3, 6, 2, [(10, 0)], 0, 0), (.iload_n 1, 1, 1, 0, [], 0, 0), (.iload_n 3, 1, 3, 0, [], 0, 0), (.iadd, 1, 0, 0, [], 0, 0), (.iaload, 1, 0, 0, [], 0, 0), (.aload_n 0, 1, 0, 0, [], 0, 0), (.getfield 48, 3, 6, 2, [(10, 0)], 0, 0), (.iload_n 1, 1, 1, 0, [], 0, 0), (.iload_n 2, 1, 2, 0, [], 0, 0), (.iadd, 1, 0, 0, [], 0, 0), (.iconst 1, 1, 0, 0, [], 1, 0), (.isub, 1, 0, 0, [], 0, 0), (.iload_n 3, 1, 3, 0, [], 0, 0), (.isub, 1, 0, 0, [], 0, 0), (.iaload, 1, 0, 0, [], 0, 0), (.if_icmp .eq 5, 3, 2, 0, [], 0, 0), (.iconst 0, 1, 0, 0, [], 0, 0), (.ireturn, 1, 0, 3, [], 0, 0)] := ⟨trivial, ⟨trivial, ⟨trivial, ⟨trivial, ⟨lk_259, ⟨trivial, ⟨trivial, ⟨trivial, ⟨trivial, ⟨trivial, ⟨lk_259, ⟨trivial, ⟨trivial, ⟨trivial, ⟨trivial, ⟨trivial, ⟨trivial, ⟨trivial, ⟨trivial, ⟨trivial, ⟨trivial, ⟨trivial, trivial⟩⟩⟩⟩⟩⟩⟩⟩⟩⟩⟩⟩⟩⟩⟩⟩⟩⟩⟩⟩⟩⟩
set_option maxRecDepth 100000 in
set_option maxHeartbeats 4000000 in
theorem n_X11_readsAlikeBackward_2 : en_lkC "EvenSteps" false [(.iinc 3 1, 3, 3, 0, [], 1, 0), (.goto (-33), 3, 1, 0, [], 0, 0)] := ⟨trivial, ⟨trivial, trivial⟩⟩
set_option maxRecDepth 100000 in
set_option maxHeartbeats 4000000 in
theorem n_X11_readsAlikeBackward_3 : en_lkC "EvenSteps" false [(.iconst 1, 1, 0, 0, [], 1, 0), (.ireturn, 1, 0, 3, [], 0, 0)] := ⟨trivial, ⟨trivial, trivial⟩⟩
set_option maxRecDepth 100000 in
set_option maxHeartbeats 4000000 in
theorem n_X11_readsAlikeBackward : en_lkM (⟨"EvenSteps", "readsAlikeBackward", "(II)Z"⟩, prog_1_method_35_code, 4, (some .boolean), p_X11_readsAlikeBackward) := (List.forall_mem_cons.mpr ⟨n_X11_readsAlikeBackward_0, (List.forall_mem_cons.mpr ⟨n_X11_readsAlikeBackward_1, (List.forall_mem_cons.mpr ⟨n_X11_readsAlikeBackward_2, (List.forall_mem_cons.mpr ⟨n_X11_readsAlikeBackward_3, (fun _ h => absurd h List.not_mem_nil)⟩)⟩)⟩)⟩)
set_option maxRecDepth 100000 in
set_option maxHeartbeats 4000000 in
theorem k_X11_gaps : en_ckM (⟨"EvenSteps", "gaps", "(II)I"⟩, prog_1_method_36_code, 3, (some .int), p_X11_gaps) = true := by decide +kernel
set_option maxRecDepth 100000 in
set_option maxHeartbeats 4000000 in
theorem n_X11_gaps_0 : en_lkC "EvenSteps" false [(.aload_n 0, 1, 0, 0, [], 0, 0), (.iload_n 1, 1, 1, 0, [], 0, 0), (.iload_n 2, 1, 2, 0, [], 0, 0), (.invokevirtual 272, 3, 2, 3, [(10, 99)], 0, 0), (.ifCond .eq 13, 3, 1, 0, [], 0, 0), (.aload_n 0, 1, 0, 0, [], 0, 0), (.getfield 44, 3, 5, 2, [(10, 0)], 0, 0), (.getfield 275, 3, 4, 0, [(0, 0)], 0, 0), (.goto 4, 3, 2, 0, [], 0, 0)] := ⟨trivial, ⟨trivial, ⟨trivial, ⟨lk_262, ⟨trivial, ⟨trivial, ⟨lk_263, ⟨lk_264, ⟨trivial, trivial⟩⟩⟩⟩⟩⟩⟩⟩⟩
set_option maxRecDepth 100000 in
set_option maxHeartbeats 4000000 in
theorem n_X11_gaps_1 : en_lkC "EvenSteps" false [(.iconst (-1), 1, 0, 0, [], (-1), 0)] := ⟨trivial, trivial⟩
set_option maxRecDepth 100000 in
set_option maxHeartbeats 4000000 in
theorem n_X11_gaps_2 : en_lkC "EvenSteps" false [(.ireturn, 1, 0, 0, [], 0, 0)] := ⟨trivial, trivial⟩
set_option maxRecDepth 100000 in
set_option maxHeartbeats 4000000 in
theorem n_X11_gaps : en_lkM (⟨"EvenSteps", "gaps", "(II)I"⟩, prog_1_method_36_code, 3, (some .int), p_X11_gaps) := (List.forall_mem_cons.mpr ⟨n_X11_gaps_0, (List.forall_mem_cons.mpr ⟨n_X11_gaps_1, (List.forall_mem_cons.mpr ⟨n_X11_gaps_2, (fun _ h => absurd h List.not_mem_nil)⟩)⟩)⟩)
set_option maxRecDepth 100000 in
set_option maxHeartbeats 4000000 in
theorem k_X11_gap : en_ckM (⟨"EvenSteps", "gap", "(IIII)I"⟩, prog_1_method_37_code, 5, (some .int), p_X11_gap) = true := by decide +kernel
set_option maxRecDepth 100000 in
set_option maxHeartbeats 4000000 in
theorem n_X11_gap_0 : en_lkC "EvenSteps" false [(.aload_n 0, 1, 0, 0, [], 0, 0), (.iload_n 1, 1, 1, 0, [], 0, 0), (.iload_n 2, 1, 2, 0, [], 0, 0), (.invokevirtual 272, 3, 2, 3, [(10, 99)], 0, 0), (.ifCond .eq 18, 3, 1, 0, [], 0, 0), (.iload_n 3, 1, 3, 0, [], 0, 0), (.ifCond .lt 14, 3, 1, 0, [], 0, 0), (.iload_n 3, 1, 3, 0, [], 0, 0), (.aload_n 0, 1, 0, 0, [], 0, 0), (.getfield 44, 3, 5, 2, [(10, 0)], 0, 0), (.getfield 275, 3, 4, 0, [(0, 0)], 0, 0), (.if_icmp .lt 6, 3, 2, 0, [], 0, 0)] := ⟨trivial, ⟨trivial, ⟨trivial, ⟨lk_262, ⟨trivial, ⟨trivial, ⟨trivial, ⟨trivial, ⟨trivial, ⟨lk_263, ⟨lk_264, ⟨trivial, trivial⟩⟩⟩⟩⟩⟩⟩⟩⟩⟩⟩⟩
set_option maxRecDepth 100000 in
set_option maxHeartbeats 4000000 in
theorem n_X11_gap_1 : en_lkC "EvenSteps" false [(.ldc 161, 2, 0, 0, [], (-1000000), 0), (.ireturn, 1, 0, 0, [], 0, 0)] := ⟨wd_558, ⟨trivial, trivial⟩⟩
set_option maxRecDepth 100000 in
set_option maxHeartbeats 4000000 in
theorem n_X11_gap_2 : en_lkC "EvenSteps" false [(.iload 4, 2, 4, 0, [], 0, 0), (.tableswitch 57 0 2 #[27, 37, 47], 27, 6, 0, [(0, 3), (1, 4), (2, 5)], 0, 0)] := ⟨trivial, ⟨trivial, trivial⟩⟩
set_option maxRecDepth 100000 in
set_option maxHeartbeats 4000000 in
theorem n_X11_gap_3 : en_lkC "EvenSteps" false [(.aload_n 0, 1, 0, 0, [], 0, 0), (.getfield 44, 3, 5, 2, [(10, 0)], 0, 0), (.getfield 278, 3, 1, 2, [(0, 0)], 0, 0), (.iload_n 3, 1, 3, 0, [], 0, 0), (.iaload, 1, 0, 0, [], 0, 0), (.ireturn, 1, 0, 0, [], 0, 0)] := ⟨trivial, ⟨lk_263, ⟨lk_265, ⟨trivial, ⟨trivial, ⟨trivial, trivial⟩⟩⟩⟩⟩⟩
set_option maxRecDepth 100000 in
set_option maxHeartbeats 4000000 in
theorem n_X11_gap_4 : en_lkC "EvenSteps" false [(.aload_n 0, 1, 0, 0, [], 0, 0), (.getfield 44, 3, 5, 2, [(10, 0)], 0, 0), (.getfield 281, 3, 2, 2, [(0, 0)], 0, 0), (.iload_n 3, 1, 3, 0, [], 0, 0), (.iaload, 1, 0, 0, [], 0, 0), (.ireturn, 1, 0, 0, [], 0, 0)] := ⟨trivial, ⟨lk_263, ⟨lk_266, ⟨trivial, ⟨trivial, ⟨trivial, trivial⟩⟩⟩⟩⟩⟩
set_option maxRecDepth 100000 in
set_option maxHeartbeats 4000000 in
theorem n_X11_gap_5 : en_lkC "EvenSteps" false [(.aload_n 0, 1, 0, 0, [], 0, 0), (.getfield 44, 3, 5, 2, [(10, 0)], 0, 0), (.getfield 284, 3, 3, 2, [(0, 0)], 0, 0), (.iload_n 3, 1, 3, 0, [], 0, 0), (.iaload, 1, 0, 0, [], 0, 0), (.ireturn, 1, 0, 0, [], 0, 0)] := ⟨trivial, ⟨lk_263, ⟨lk_267, ⟨trivial, ⟨trivial, ⟨trivial, trivial⟩⟩⟩⟩⟩⟩
set_option maxRecDepth 100000 in
set_option maxHeartbeats 4000000 in
theorem n_X11_gap_6 : en_lkC "EvenSteps" false [(.ldc 161, 2, 0, 0, [], (-1000000), 0), (.ireturn, 1, 0, 0, [], 0, 0)] := ⟨wd_558, ⟨trivial, trivial⟩⟩
set_option maxRecDepth 100000 in
set_option maxHeartbeats 4000000 in
theorem n_X11_gap : en_lkM (⟨"EvenSteps", "gap", "(IIII)I"⟩, prog_1_method_37_code, 5, (some .int), p_X11_gap) := (List.forall_mem_cons.mpr ⟨n_X11_gap_0, (List.forall_mem_cons.mpr ⟨n_X11_gap_1, (List.forall_mem_cons.mpr ⟨n_X11_gap_2, (List.forall_mem_cons.mpr ⟨n_X11_gap_3, (List.forall_mem_cons.mpr ⟨n_X11_gap_4, (List.forall_mem_cons.mpr ⟨n_X11_gap_5, (List.forall_mem_cons.mpr ⟨n_X11_gap_6, (fun _ h => absurd h List.not_mem_nil)⟩)⟩)⟩)⟩)⟩)⟩)⟩)
set_option maxRecDepth 100000 in
set_option maxHeartbeats 4000000 in
theorem k_X11_follows : en_ckM (⟨"EvenSteps", "follows", "(III)I"⟩, prog_1_method_38_code, 4, (some .int), p_X11_follows) = true := by decide +kernel
set_option maxRecDepth 100000 in
set_option maxHeartbeats 4000000 in
theorem n_X11_follows_0 : en_lkC "EvenSteps" false [(.iload_n 3, 1, 3, 0, [], 0, 0), (.ifCond .lt 17, 3, 1, 0, [], 0, 0), (.iload_n 3, 1, 3, 0, [], 0, 0), (.iload_n 2, 1, 2, 0, [], 0, 0), (.if_icmp .ge 12, 3, 1, 0, [], 0, 0), (.aload_n 0, 1, 0, 0, [], 0, 0), (.iload_n 1, 1, 1, 0, [], 0, 0), (.iload_n 2, 1, 2, 0, [], 0, 0), (.invokevirtual 272, 3, 2, 3, [(10, 99)], 0, 0), (.ifCond .ne 5, 3, 2, 0, [], 0, 0)] := ⟨trivial, ⟨trivial, ⟨trivial, ⟨trivial, ⟨trivial, ⟨trivial, ⟨trivial, ⟨trivial, ⟨lk_262, ⟨trivial, trivial⟩⟩⟩⟩⟩⟩⟩⟩⟩⟩
set_option maxRecDepth 100000 in
set_option maxHeartbeats 4000000 in
theorem n_X11_follows_1 : en_lkC "EvenSteps" false [(.iconst (-1), 1, 0, 0, [], (-1), 0), (.ireturn, 1, 0, 0, [], 0, 0)] := ⟨trivial, ⟨trivial, trivial⟩⟩
set_option maxRecDepth 100000 in
set_option maxHeartbeats 4000000 in
theorem n_X11_follows_2 : en_lkC "EvenSteps" false [(.aload_n 0, 1, 0, 0, [], 0, 0), (.getfield 44, 3, 5, 2, [(10, 0)], 0, 0), (.getfield 287, 3, 0, 2, [(0, 0)], 0, 0), (.iload_n 3, 1, 3, 0, [], 0, 0), (.iaload, 1, 0, 0, [], 0, 0), (.ireturn, 1, 0, 0, [], 0, 0)] := ⟨trivial, ⟨lk_263, ⟨lk_268, ⟨trivial, ⟨trivial, ⟨trivial, trivial⟩⟩⟩⟩⟩⟩
set_option maxRecDepth 100000 in
set_option maxHeartbeats 4000000 in
theorem n_X11_follows : en_lkM (⟨"EvenSteps", "follows", "(III)I"⟩, prog_1_method_38_code, 4, (some .int), p_X11_follows) := (List.forall_mem_cons.mpr ⟨n_X11_follows_0, (List.forall_mem_cons.mpr ⟨n_X11_follows_1, (List.forall_mem_cons.mpr ⟨n_X11_follows_2, (fun _ h => absurd h List.not_mem_nil)⟩)⟩)⟩)
set_option maxRecDepth 100000 in
set_option maxHeartbeats 4000000 in
theorem k_X11_layPoints : en_ckM (⟨"EvenSteps", "layPoints", "(II)Z"⟩, prog_1_method_39_code, 5, (some .boolean), p_X11_layPoints) = true := by decide +kernel
set_option maxRecDepth 100000 in
set_option maxHeartbeats 4000000 in
theorem n_X11_layPoints_0 : en_lkC "EvenSteps" false [(.iload_n 2, 1, 2, 0, [], 0, 0), (.iconst 1, 1, 0, 0, [], 1, 0), (.if_icmp .lt 9, 3, 1, 0, [], 0, 0), (.iload_n 2, 1, 2, 0, [], 0, 0), (.bipush 60, 2, 0, 0, [], 60, 0), (.if_icmp .le 5, 3, 2, 0, [], 0, 0)] := ⟨trivial, ⟨trivial, ⟨trivial, ⟨trivial, ⟨trivial, ⟨trivial, trivial⟩⟩⟩⟩⟩⟩
set_option maxRecDepth 100000 in
set_option maxHeartbeats 4000000 in
theorem n_X11_layPoints_1 : en_lkC "EvenSteps" false [(.iconst 0, 1, 0, 0, [], 0, 0), (.ireturn, 1, 0, 3, [], 0, 0)] := ⟨trivial, ⟨trivial, trivial⟩⟩
set_option maxRecDepth 100000 in
set_option maxHeartbeats 4000000 in
theorem n_X11_layPoints_2 : en_lkC "EvenSteps" false [(.aload_n 0, 1, 0, 0, [], 0, 0), (.iload_n 1, 1, 1, 0, [], 0, 0), (.invokevirtual 123, 3, 1, 2, [(10, 124)], 0, 0), (.astore 4, 2, 4, 0, [], 0, 0), (.aload 4, 2, 4, 0, [], 0, 0), (.instanceof 136, 3, 0, 0, [(1, 0), (2, 0), (3, 1), (4, 0), (8, 0)], 0, 0), (.ifCond .eq 34, 3, 3, 0, [], 0, 0), (.aload 4, 2, 4, 0, [], 0, 0), (.checkcast 136, 3, 0, 0, [(3, 1)], 0, 0), (.astore_n 3, 1, 3, 0, [], 0, 0), (.aload_n 3, 1, 3, 0, [], 0, 0), (.getfield 290, 3, 2, 2, [(3, 0)], 0, 0), (.iload_n 2, 1, 2, 0, [], 0, 0), (.invokevirtual 294, 3, 1, 3, [(6, 47)], 0, 0), (.ifCond .eq 17, 3, 3, 0, [], 0, 0), (.aload_n 0, 1, 0, 0, [], 0, 0), (.getfield 44, 3, 5, 2, [(10, 0)], 0, 0), (.aload_n 3, 1, 3, 0, [], 0, 0), (.getfield 290, 3, 2, 2, [(3, 0)], 0, 0), (.iload_n 2, 1, 2, 0, [], 0, 0), (.invokevirtual 297, 3, 2, 4, [(0, 1)], 0, 0), (.iconst 1, 1, 0, 0, [], 1, 0), (.ireturn, 1, 0, 3, [], 0, 0)] := ⟨trivial, ⟨trivial, ⟨lk_205, ⟨trivial, ⟨trivial, ⟨⟨"EvenSteps$Points", wd_514, lk_269⟩, ⟨trivial, ⟨trivial, ⟨⟨"EvenSteps$Points", wd_514, lk_270⟩, ⟨trivial, ⟨trivial, ⟨lk_271, ⟨trivial, ⟨lk_272, ⟨trivial, ⟨trivial, ⟨lk_263, ⟨trivial, ⟨lk_271, ⟨trivial, ⟨lk_273, ⟨trivial, ⟨trivial, trivial⟩⟩⟩⟩⟩⟩⟩⟩⟩⟩⟩⟩⟩⟩⟩⟩⟩⟩⟩⟩⟩⟩⟩
set_option maxRecDepth 100000 in
set_option maxHeartbeats 4000000 in
theorem n_X11_layPoints_3 : en_lkC "EvenSteps" false [(.iconst 0, 1, 0, 0, [], 0, 0), (.ireturn, 1, 0, 3, [], 0, 0)] := ⟨trivial, ⟨trivial, trivial⟩⟩
set_option maxRecDepth 100000 in
set_option maxHeartbeats 4000000 in
theorem n_X11_layPoints : en_lkM (⟨"EvenSteps", "layPoints", "(II)Z"⟩, prog_1_method_39_code, 5, (some .boolean), p_X11_layPoints) := (List.forall_mem_cons.mpr ⟨n_X11_layPoints_0, (List.forall_mem_cons.mpr ⟨n_X11_layPoints_1, (List.forall_mem_cons.mpr ⟨n_X11_layPoints_2, (List.forall_mem_cons.mpr ⟨n_X11_layPoints_3, (fun _ h => absurd h List.not_mem_nil)⟩)⟩)⟩)⟩)
set_option maxRecDepth 100000 in
set_option maxHeartbeats 4000000 in
theorem k_X11_spread : en_ckM (⟨"EvenSteps", "spread", "(II)J"⟩, prog_1_method_40_code, 16, (some .long), p_X11_spread) = true := by decide +kernel
set_option maxRecDepth 100000 in
set_option maxHeartbeats 4000000 in
theorem n_X11_spread_0 : en_lkC "EvenSteps" false [(.iload_n 2, 1, 2, 0, [], 0, 0), (.iconst 1, 1, 0, 0, [], 1, 0), (.if_icmp .lt 18, 3, 1, 0, [], 0, 0), (.iload_n 2, 1, 2, 0, [], 0, 0), (.bipush 40, 2, 0, 0, [], 40, 0), (.if_icmp .gt 12, 3, 1, 0, [], 0, 0), (.iload_n 1, 1, 1, 0, [], 0, 0), (.ifCond .lt 8, 3, 1, 0, [], 0, 0), (.iload_n 1, 1, 1, 0, [], 0, 0), (.iload_n 2, 1, 2, 0, [], 0, 0), (.if_icmp .le 7, 3, 2, 0, [], 0, 0)] := ⟨trivial, ⟨trivial, ⟨trivial, ⟨trivial, ⟨trivial, ⟨trivial, ⟨trivial, ⟨trivial, ⟨trivial, ⟨trivial, ⟨trivial, trivial⟩⟩⟩⟩⟩⟩⟩⟩⟩⟩⟩
set_option maxRecDepth 100000 in
set_option maxHeartbeats 4000000 in
theorem n_X11_spread_1 : en_lkC "EvenSteps" false [(.ldc2_w 205, 3, 0, 0, [], 0, (-1)), (.lreturn, 1, 0, 0, [], 0, 0)] := ⟨wd_607, ⟨trivial, trivial⟩⟩
set_option maxRecDepth 100000 in
set_option maxHeartbeats 4000000 in
theorem n_X11_spread_2 : en_lkC "EvenSteps" false [(.lconst 1, 1, 0, 0, [], 0, 1), (.lstore_n 3, 1, 3, 0, [], 0, 0), (.lconst 0, 1, 0, 0, [], 0, 0), (.lstore 5, 2, 5, 0, [], 0, 0), (.iconst 1, 1, 0, 0, [], 1, 0), (.istore 7, 2, 7, 0, [], 0, 0), (.iconst 1, 1, 0, 0, [], 1, 0), (.istore 8, 2, 8, 0, [], 0, 0), (.iload_n 1, 1, 1, 0, [], 0, 0), (.istore 9, 2, 9, 0, [], 0, 0), (.iload_n 2, 1, 2, 0, [], 0, 0), (.iload_n 1, 1, 1, 0, [], 0, 0), (.isub, 1, 0, 0, [], 0, 0), (.istore 10, 2, 10, 0, [], 0, 0), (.iconst 0, 1, 0, 0, [], 0, 0), (.istore 11, 2, 11, 0, [], 0, 0)] := ⟨trivial, ⟨trivial, ⟨trivial, ⟨trivial, ⟨trivial, ⟨trivial, ⟨trivial, ⟨trivial, ⟨trivial, ⟨trivial, ⟨trivial, ⟨trivial, ⟨trivial, ⟨trivial, ⟨trivial, ⟨trivial, trivial⟩⟩⟩⟩⟩⟩⟩⟩⟩⟩⟩⟩⟩⟩⟩⟩
set_option maxRecDepth 100000 in
set_option maxHeartbeats 4000000 in
theorem n_X11_spread_3 : en_lkC "EvenSteps" false [(.iload 11, 2, 11, 0, [], 0, 0), (.iload_n 2, 1, 2, 0, [], 0, 0), (.if_icmp .ge 81, 3, 5, 0, [], 0, 0), (.iload 9, 2, 9, 0, [], 0, 0), (.iconst 1, 1, 0, 0, [], 1, 0), (.if_icmp .lt 75, 3, 5, 0, [], 0, 0), (.iload 10, 2, 10, 0, [], 0, 0), (.iconst 2, 1, 0, 0, [], 2, 0), (.if_icmp .lt 69, 3, 5, 0, [], 0, 0), (.iload 9, 2, 9, 0, [], 0, 0), (.iload 10, 2, 10, 0, [], 0, 0), (.invokestatic 301, 3, 2, 0, [(0, 219)], 0, 0), (.istore 12, 2, 12, 0, [], 0, 0), (.lload_n 3, 1, 3, 0, [], 0, 0), (.lload 5, 2, 5, 0, [], 0, 0), (.iload 7, 2, 7, 0, [], 0, 0), (.lshl, 1, 0, 0, [], 0, 0), (.lor, 1, 0, 0, [], 0, 0), (.lstore 13, 2, 13, 0, [], 0, 0), (.iload 7, 2, 7, 0, [], 0, 0), (.iload 8, 2, 8, 0, [], 0, 0), (.iadd, 1, 0, 0, [], 0, 0), (.istore 15, 2, 15, 0, [], 0, 0), (.iload 9, 2, 9, 0, [], 0, 0), (.iload 10, 2, 10, 0, [], 0, 0), (.if_icmp .le 10, 3, 4, 0, [], 0, 0), (.lload_n 3, 1, 3, 0, [], 0, 0), (.lstore 5, 2, 5, 0, [], 0, 0), (.iload 7, 2, 7, 0, [], 0, 0), (.istore 8, 2, 8, 0, [], 0, 0)] := ⟨trivial, ⟨trivial, ⟨trivial, ⟨trivial, ⟨trivial, ⟨trivial, ⟨trivial, ⟨trivial, ⟨trivial, ⟨trivial, ⟨trivial, ⟨lk_274, ⟨trivial, ⟨trivial, ⟨trivial, ⟨trivial, ⟨trivial, ⟨trivial, ⟨trivial, ⟨trivial, ⟨trivial, ⟨trivial, ⟨trivial, ⟨trivial, ⟨trivial, ⟨trivial, ⟨trivial, ⟨trivial, ⟨trivial, ⟨trivial, trivial⟩⟩⟩⟩⟩⟩⟩⟩⟩⟩⟩⟩⟩⟩⟩⟩⟩⟩⟩⟩⟩⟩⟩⟩⟩⟩⟩⟩⟩⟩
set_option maxRecDepth 100000 in
set_option maxHeartbeats 4000000 in
theorem n_X11_spread_4 : en_lkC "EvenSteps" false [(.iload 9, 2, 9, 0, [], 0, 0), (.iload 10, 2, 10, 0, [], 0, 0), (.isub, 1, 0, 0, [], 0, 0), (.invokestatic 304, 3, 1, 0, [(0, 215)], 0, 0), (.istore 10, 2, 10, 0, [], 0, 0), (.iload 12, 2, 12, 0, [], 0, 0), (.istore 9, 2, 9, 0, [], 0, 0), (.lload 13, 2, 13, 0, [], 0, 0), (.lstore_n 3, 1, 3, 0, [], 0, 0), (.iload 15, 2, 15, 0, [], 0, 0), (.istore 7, 2, 7, 0, [], 0, 0), (.iinc 11 1, 3, 11, 0, [], 1, 0), (.goto (-81), 3, 3, 0, [], 0, 0)] := ⟨trivial, ⟨trivial, ⟨trivial, ⟨lk_275, ⟨trivial, ⟨trivial, ⟨trivial, ⟨trivial, ⟨trivial, ⟨trivial, ⟨trivial, ⟨trivial, ⟨trivial, trivial⟩⟩⟩⟩⟩⟩⟩⟩⟩⟩⟩⟩⟩
set_option maxRecDepth 100000 in
set_option maxHeartbeats 4000000 in
theorem n_X11_spread_5 : en_lkC "EvenSteps" false [(.lload_n 3, 1, 3, 0, [], 0, 0), (.iload 7, 2, 7, 0, [], 0, 0), (.iload 9, 2, 9, 0, [], 0, 0), (.invokestatic 307, 3, 3, 1, [(0, 101)], 0, 0), (.lload 5, 2, 5, 0, [], 0, 0), (.iload 8, 2, 8, 0, [], 0, 0), (.iload 10, 2, 10, 0, [], 0, 0), (.invokestatic 307, 3, 3, 1, [(0, 101)], 0, 0), (.iload 7, 2, 7, 0, [], 0, 0), (.iload 9, 2, 9, 0, [], 0, 0), (.imul, 1, 0, 0, [], 0, 0), (.lshl, 1, 0, 0, [], 0, 0), (.lor, 1, 0, 0, [], 0, 0), (.lreturn, 1, 0, 0, [], 0, 0)] := ⟨trivial, ⟨trivial, ⟨trivial, ⟨lk_276, ⟨trivial, ⟨trivial, ⟨trivial, ⟨lk_276, ⟨trivial, ⟨trivial, ⟨trivial, ⟨trivial, ⟨trivial, ⟨trivial, trivial⟩⟩⟩⟩⟩⟩⟩⟩⟩⟩⟩⟩⟩⟩
set_option maxRecDepth 100000 in
set_option maxHeartbeats 4000000 in
theorem n_X11_spread : en_lkM (⟨"EvenSteps", "spread", "(II)J"⟩, prog_1_method_40_code, 16, (some .long), p_X11_spread) := (List.forall_mem_cons.mpr ⟨n_X11_spread_0, (List.forall_mem_cons.mpr ⟨n_X11_spread_1, (List.forall_mem_cons.mpr ⟨n_X11_spread_2, (List.forall_mem_cons.mpr ⟨n_X11_spread_3, (List.forall_mem_cons.mpr ⟨n_X11_spread_4, (List.forall_mem_cons.mpr ⟨n_X11_spread_5, (fun _ h => absurd h List.not_mem_nil)⟩)⟩)⟩)⟩)⟩)⟩)
set_option maxRecDepth 100000 in
set_option maxHeartbeats 4000000 in
theorem k_X11_repeated : en_ckM (⟨"EvenSteps", "repeated", "(JII)J"⟩, prog_1_method_41_code, 7, (some .long), p_X11_repeated) = true := by decide +kernel
set_option maxRecDepth 100000 in
set_option maxHeartbeats 4000000 in
theorem n_X11_repeated_0 : en_lkC "EvenSteps" false [(.lconst 0, 1, 0, 0, [], 0, 0), (.lstore 4, 2, 4, 0, [], 0, 0), (.iconst 0, 1, 0, 0, [], 0, 0), (.istore 6, 2, 6, 0, [], 0, 0)] := ⟨trivial, ⟨trivial, ⟨trivial, ⟨trivial, trivial⟩⟩⟩⟩
set_option maxRecDepth 100000 in
set_option maxHeartbeats 4000000 in
theorem n_X11_repeated_1 : en_lkC "EvenSteps" false [(.iload 6, 2, 6, 0, [], 0, 0), (.iload_n 3, 1, 3, 0, [], 0, 0), (.if_icmp .ge 20, 3, 2, 0, [], 0, 0), (.lload 4, 2, 4, 0, [], 0, 0), (.lload_n 0, 1, 0, 0, [], 0, 0), (.iload_n 2, 1, 2, 0, [], 0, 0), (.iload 6, 2, 6, 0, [], 0, 0), (.imul, 1, 0, 0, [], 0, 0), (.lshl, 1, 0, 0, [], 0, 0), (.lor, 1, 0, 0, [], 0, 0), (.lstore 4, 2, 4, 0, [], 0, 0), (.iinc 6 1, 3, 6, 0, [], 1, 0), (.goto (-20), 3, 1, 0, [], 0, 0)] := ⟨trivial, ⟨trivial, ⟨trivial, ⟨trivial, ⟨trivial, ⟨trivial, ⟨trivial, ⟨trivial, ⟨trivial, ⟨trivial, ⟨trivial, ⟨trivial, ⟨trivial, trivial⟩⟩⟩⟩⟩⟩⟩⟩⟩⟩⟩⟩⟩
set_option maxRecDepth 100000 in
set_option maxHeartbeats 4000000 in
theorem n_X11_repeated_2 : en_lkC "EvenSteps" false [(.lload 4, 2, 4, 0, [], 0, 0), (.lreturn, 1, 0, 0, [], 0, 0)] := ⟨trivial, ⟨trivial, trivial⟩⟩
set_option maxRecDepth 100000 in
set_option maxHeartbeats 4000000 in
theorem n_X11_repeated : en_lkM (⟨"EvenSteps", "repeated", "(JII)J"⟩, prog_1_method_41_code, 7, (some .long), p_X11_repeated) := (List.forall_mem_cons.mpr ⟨n_X11_repeated_0, (List.forall_mem_cons.mpr ⟨n_X11_repeated_1, (List.forall_mem_cons.mpr ⟨n_X11_repeated_2, (fun _ h => absurd h List.not_mem_nil)⟩)⟩)⟩)
set_option maxRecDepth 100000 in
set_option maxHeartbeats 4000000 in
theorem k_X11_turning : en_ckM (⟨"EvenSteps", "turning", "(JI)I"⟩, prog_1_method_42_code, 12, (some .int), p_X11_turning) = true := by decide +kernel
set_option maxRecDepth 100000 in
set_option maxHeartbeats 4000000 in
theorem n_X11_turning_0 : en_lkC "EvenSteps" false [(.iload_n 3, 1, 3, 0, [], 0, 0), (.iconst 1, 1, 0, 0, [], 1, 0), (.if_icmp .lt 9, 3, 1, 0, [], 0, 0), (.iload_n 3, 1, 3, 0, [], 0, 0), (.bipush 40, 2, 0, 0, [], 40, 0), (.if_icmp .le 5, 3, 2, 0, [], 0, 0)] := ⟨trivial, ⟨trivial, ⟨trivial, ⟨trivial, ⟨trivial, ⟨trivial, trivial⟩⟩⟩⟩⟩⟩
set_option maxRecDepth 100000 in
set_option maxHeartbeats 4000000 in
theorem n_X11_turning_1 : en_lkC "EvenSteps" false [(.iconst (-1), 1, 0, 0, [], (-1), 0), (.ireturn, 1, 0, 0, [], 0, 0)] := ⟨trivial, ⟨trivial, trivial⟩⟩
set_option maxRecDepth 100000 in
set_option maxHeartbeats 4000000 in
theorem n_X11_turning_2 : en_lkC "EvenSteps" false [(.lconst 1, 1, 0, 0, [], 0, 1), (.iload_n 3, 1, 3, 0, [], 0, 0), (.lshl, 1, 0, 0, [], 0, 0), (.lconst 1, 1, 0, 0, [], 0, 1), (.lsub, 1, 0, 0, [], 0, 0), (.lstore 4, 2, 4, 0, [], 0, 0), (.lload_n 1, 1, 1, 0, [], 0, 0), (.iload_n 3, 1, 3, 0, [], 0, 0), (.invokestatic 311, 3, 2, 1, [(0, 103)], 0, 0), (.lstore 6, 2, 6, 0, [], 0, 0), (.lload 6, 2, 6, 0, [], 0, 0), (.lstore 8, 2, 8, 0, [], 0, 0), (.iconst 0, 1, 0, 0, [], 0, 0), (.istore 10, 2, 10, 0, [], 0, 0), (.iconst 1, 1, 0, 0, [], 1, 0), (.istore 11, 2, 11, 0, [], 0, 0)] := ⟨trivial, ⟨trivial, ⟨trivial, ⟨trivial, ⟨trivial, ⟨trivial, ⟨trivial, ⟨trivial, ⟨lk_277, ⟨trivial, ⟨trivial, ⟨trivial, ⟨trivial, ⟨trivial, ⟨trivial, ⟨trivial, trivial⟩⟩⟩⟩⟩⟩⟩⟩⟩⟩⟩⟩⟩⟩⟩⟩
set_option maxRecDepth 100000 in
set_option maxHeartbeats 4000000 in
theorem n_X11_turning_3 : en_lkC "EvenSteps" false [(.iload 11, 2, 11, 0, [], 0, 0), (.iload_n 3, 1, 3, 0, [], 0, 0), (.if_icmp .ge 41, 3, 5, 0, [], 0, 0), (.lload 6, 2, 6, 0, [], 0, 0), (.iconst 1, 1, 0, 0, [], 1, 0), (.lshl, 1, 0, 0, [], 0, 0), (.lload 4, 2, 4, 0, [], 0, 0), (.land, 1, 0, 0, [], 0, 0), (.lload 6, 2, 6, 0, [], 0, 0), (.iload_n 3, 1, 3, 0, [], 0, 0), (.iconst 1, 1, 0, 0, [], 1, 0), (.isub, 1, 0, 0, [], 0, 0), (.lshr, 1, 0, 0, [], 0, 0), (.lor, 1, 0, 0, [], 0, 0), (.lstore 6, 2, 6, 0, [], 0, 0), (.lload 6, 2, 6, 0, [], 0, 0), (.lload 8, 2, 8, 0, [], 0, 0), (.lcmp, 1, 0, 0, [], 0, 0), (.ifCond .ge 11, 3, 4, 0, [], 0, 0), (.lload 6, 2, 6, 0, [], 0, 0), (.lstore 8, 2, 8, 0, [], 0, 0), (.iload 11, 2, 11, 0, [], 0, 0), (.istore 10, 2, 10, 0, [], 0, 0)] := ⟨trivial, ⟨trivial, ⟨trivial, ⟨trivial, ⟨trivial, ⟨trivial, ⟨trivial, ⟨trivial, ⟨trivial, ⟨trivial, ⟨trivial, ⟨trivial, ⟨trivial, ⟨trivial, ⟨trivial, ⟨trivial, ⟨trivial, ⟨trivial, ⟨trivial, ⟨trivial, ⟨trivial, ⟨trivial, ⟨trivial, trivial⟩⟩⟩⟩⟩⟩⟩⟩⟩⟩⟩⟩⟩⟩⟩⟩⟩⟩⟩⟩⟩⟩⟩
set_option maxRecDepth 100000 in
set_option maxHeartbeats 4000000 in
theorem n_X11_turning_4 : en_lkC "EvenSteps" false [(.iinc 11 1, 3, 11, 0, [], 1, 0), (.goto (-41), 3, 3, 0, [], 0, 0)] := ⟨trivial, ⟨trivial, trivial⟩⟩
set_option maxRecDepth 100000 in
set_option maxHeartbeats 4000000 in
theorem n_X11_turning_5 : en_lkC "EvenSteps" false [(.iload 10, 2, 10, 0, [], 0, 0), (.ireturn, 1, 0, 0, [], 0, 0)] := ⟨trivial, ⟨trivial, trivial⟩⟩
set_option maxRecDepth 100000 in
set_option maxHeartbeats 4000000 in
theorem n_X11_turning : en_lkM (⟨"EvenSteps", "turning", "(JI)I"⟩, prog_1_method_42_code, 12, (some .int), p_X11_turning) := (List.forall_mem_cons.mpr ⟨n_X11_turning_0, (List.forall_mem_cons.mpr ⟨n_X11_turning_1, (List.forall_mem_cons.mpr ⟨n_X11_turning_2, (List.forall_mem_cons.mpr ⟨n_X11_turning_3, (List.forall_mem_cons.mpr ⟨n_X11_turning_4, (List.forall_mem_cons.mpr ⟨n_X11_turning_5, (fun _ h => absurd h List.not_mem_nil)⟩)⟩)⟩)⟩)⟩)⟩)
set_option maxRecDepth 100000 in
set_option maxHeartbeats 4000000 in
theorem k_X11_backward : en_ckM (⟨"EvenSteps", "backward", "(JI)J"⟩, prog_1_method_43_code, 6, (some .long), p_X11_backward) = true := by decide +kernel
set_option maxRecDepth 100000 in
set_option maxHeartbeats 4000000 in
theorem n_X11_backward_0 : en_lkC "EvenSteps" false [(.lconst 0, 1, 0, 0, [], 0, 0), (.lstore_n 3, 1, 3, 0, [], 0, 0), (.iconst 0, 1, 0, 0, [], 0, 0), (.istore 5, 2, 5, 0, [], 0, 0)] := ⟨trivial, ⟨trivial, ⟨trivial, ⟨trivial, trivial⟩⟩⟩⟩
set_option maxRecDepth 100000 in
set_option maxHeartbeats 4000000 in
theorem n_X11_backward_1 : en_lkC "EvenSteps" false [(.iload 5, 2, 5, 0, [], 0, 0), (.iload_n 2, 1, 2, 0, [], 0, 0), (.if_icmp .ge 20, 3, 2, 0, [], 0, 0), (.lload_n 3, 1, 3, 0, [], 0, 0), (.iconst 1, 1, 0, 0, [], 1, 0), (.lshl, 1, 0, 0, [], 0, 0), (.lload_n 0, 1, 0, 0, [], 0, 0), (.iload 5, 2, 5, 0, [], 0, 0), (.lshr, 1, 0, 0, [], 0, 0), (.lconst 1, 1, 0, 0, [], 0, 1), (.land, 1, 0, 0, [], 0, 0), (.lor, 1, 0, 0, [], 0, 0), (.lstore_n 3, 1, 3, 0, [], 0, 0), (.iinc 5 1, 3, 5, 0, [], 1, 0), (.goto (-20), 3, 1, 0, [], 0, 0)] := ⟨trivial, ⟨trivial, ⟨trivial, ⟨trivial, ⟨trivial, ⟨trivial, ⟨trivial, ⟨trivial, ⟨trivial, ⟨trivial, ⟨trivial, ⟨trivial, ⟨trivial, ⟨trivial, ⟨trivial, trivial⟩⟩⟩⟩⟩⟩⟩⟩⟩⟩⟩⟩⟩⟩⟩
set_option maxRecDepth 100000 in
set_option maxHeartbeats 4000000 in
theorem n_X11_backward_2 : en_lkC "EvenSteps" false [(.lload_n 3, 1, 3, 0, [], 0, 0), (.lreturn, 1, 0, 0, [], 0, 0)] := ⟨trivial, ⟨trivial, trivial⟩⟩
set_option maxRecDepth 100000 in
set_option maxHeartbeats 4000000 in
theorem n_X11_backward : en_lkM (⟨"EvenSteps", "backward", "(JI)J"⟩, prog_1_method_43_code, 6, (some .long), p_X11_backward) := (List.forall_mem_cons.mpr ⟨n_X11_backward_0, (List.forall_mem_cons.mpr ⟨n_X11_backward_1, (List.forall_mem_cons.mpr ⟨n_X11_backward_2, (fun _ h => absurd h List.not_mem_nil)⟩)⟩)⟩)
set_option maxRecDepth 100000 in
set_option maxHeartbeats 4000000 in
theorem k_X11_wins : en_ckM (⟨"EvenSteps", "wins", "(II)I"⟩, prog_1_method_44_code, 3, (some .int), p_X11_wins) = true := by decide +kernel
set_option maxRecDepth 100000 in
set_option maxHeartbeats 4000000 in
theorem n_X11_wins_0 : en_lkC "EvenSteps" false [(.iload_n 1, 1, 1, 0, [], 0, 0), (.invokestatic 315, 3, 1, 3, [(0, 106)], 0, 0), (.ifCond .eq 10, 3, 1, 0, [], 0, 0), (.iload_n 2, 1, 2, 0, [], 0, 0), (.invokestatic 315, 3, 1, 3, [(0, 106)], 0, 0), (.ifCond .ne 5, 3, 2, 0, [], 0, 0)] := ⟨trivial, ⟨lk_278, ⟨trivial, ⟨trivial, ⟨lk_278, ⟨trivial, trivial⟩⟩⟩⟩⟩⟩
set_option maxRecDepth 100000 in
set_option maxHeartbeats 4000000 in
theorem n_X11_wins_1 : en_lkC "EvenSteps" false [(.iconst (-1), 1, 0, 0, [], (-1), 0), (.ireturn, 1, 0, 0, [], 0, 0)] := ⟨trivial, ⟨trivial, trivial⟩⟩
set_option maxRecDepth 100000 in
set_option maxHeartbeats 4000000 in
theorem n_X11_wins_2 : en_lkC "EvenSteps" false [(.iload_n 1, 1, 1, 0, [], 0, 0), (.invokestatic 318, 3, 1, 0, [(0, 108)], 0, 0), (.iload_n 2, 1, 2, 0, [], 0, 0), (.if_icmp .ne 7, 3, 3, 0, [], 0, 0), (.iconst 0, 1, 0, 0, [], 0, 0), (.goto 4, 3, 4, 0, [], 0, 0)] := ⟨trivial, ⟨lk_279, ⟨trivial, ⟨trivial, ⟨trivial, ⟨trivial, trivial⟩⟩⟩⟩⟩⟩
set_option maxRecDepth 100000 in
set_option maxHeartbeats 4000000 in
theorem n_X11_wins_3 : en_lkC "EvenSteps" false [(.iconst 1, 1, 0, 0, [], 1, 0)] := ⟨trivial, trivial⟩
set_option maxRecDepth 100000 in
set_option maxHeartbeats 4000000 in
theorem n_X11_wins_4 : en_lkC "EvenSteps" false [(.ireturn, 1, 0, 0, [], 0, 0)] := ⟨trivial, trivial⟩
set_option maxRecDepth 100000 in
set_option maxHeartbeats 4000000 in
theorem n_X11_wins : en_lkM (⟨"EvenSteps", "wins", "(II)I"⟩, prog_1_method_44_code, 3, (some .int), p_X11_wins) := (List.forall_mem_cons.mpr ⟨n_X11_wins_0, (List.forall_mem_cons.mpr ⟨n_X11_wins_1, (List.forall_mem_cons.mpr ⟨n_X11_wins_2, (List.forall_mem_cons.mpr ⟨n_X11_wins_3, (List.forall_mem_cons.mpr ⟨n_X11_wins_4, (fun _ h => absurd h List.not_mem_nil)⟩)⟩)⟩)⟩)⟩)
set_option maxRecDepth 100000 in
set_option maxHeartbeats 4000000 in
theorem k_X11_takes : en_ckM (⟨"EvenSteps", "takes", "(II)I"⟩, prog_1_method_45_code, 6, (some .int), p_X11_takes) = true := by decide +kernel
set_option maxRecDepth 100000 in
set_option maxHeartbeats 4000000 in
theorem n_X11_takes_0 : en_lkC "EvenSteps" false [(.iload_n 1, 1, 1, 0, [], 0, 0), (.invokestatic 315, 3, 1, 3, [(0, 106)], 0, 0), (.ifCond .eq 10, 3, 1, 0, [], 0, 0), (.iload_n 2, 1, 2, 0, [], 0, 0), (.invokestatic 315, 3, 1, 3, [(0, 106)], 0, 0), (.ifCond .ne 5, 3, 2, 0, [], 0, 0)] := ⟨trivial, ⟨lk_278, ⟨trivial, ⟨trivial, ⟨lk_278, ⟨trivial, trivial⟩⟩⟩⟩⟩⟩
set_option maxRecDepth 100000 in
set_option maxHeartbeats 4000000 in
theorem n_X11_takes_1 : en_lkC "EvenSteps" false [(.iconst (-1), 1, 0, 0, [], (-1), 0), (.ireturn, 1, 0, 0, [], 0, 0)] := ⟨trivial, ⟨trivial, trivial⟩⟩
set_option maxRecDepth 100000 in
set_option maxHeartbeats 4000000 in
theorem n_X11_takes_2 : en_lkC "EvenSteps" false [(.iload_n 1, 1, 1, 0, [], 0, 0), (.iload_n 2, 1, 2, 0, [], 0, 0), (.invokestatic 318, 3, 1, 0, [(0, 108)], 0, 0), (.isub, 1, 0, 0, [], 0, 0), (.istore_n 3, 1, 3, 0, [], 0, 0), (.iload_n 3, 1, 3, 0, [], 0, 0), (.ifCond .le 9, 3, 3, 0, [], 0, 0), (.ldc_w 321, 3, 0, 0, [], 1000000, 0), (.iload_n 3, 1, 3, 0, [], 0, 0), (.iadd, 1, 0, 0, [], 0, 0), (.ireturn, 1, 0, 0, [], 0, 0)] := ⟨trivial, ⟨trivial, ⟨lk_279, ⟨trivial, ⟨trivial, ⟨trivial, ⟨trivial, ⟨wd_810, ⟨trivial, ⟨trivial, ⟨trivial, trivial⟩⟩⟩⟩⟩⟩⟩⟩⟩⟩⟩
set_option maxRecDepth 100000 in
set_option maxHeartbeats 4000000 in
theorem n_X11_takes_3 : en_lkC "EvenSteps" false [(.iload_n 2, 1, 2, 0, [], 0, 0), (.iload_n 1, 1, 1, 0, [], 0, 0), (.invokestatic 318, 3, 1, 0, [(0, 108)], 0, 0), (.isub, 1, 0, 0, [], 0, 0), (.istore 4, 2, 4, 0, [], 0, 0), (.iload 4, 2, 4, 0, [], 0, 0), (.ifCond .le 10, 3, 4, 0, [], 0, 0), (.ldc_w 322, 3, 0, 0, [], 2000000, 0), (.iload 4, 2, 4, 0, [], 0, 0), (.iadd, 1, 0, 0, [], 0, 0), (.ireturn, 1, 0, 0, [], 0, 0)] := ⟨trivial, ⟨trivial, ⟨lk_279, ⟨trivial, ⟨trivial, ⟨trivial, ⟨trivial, ⟨wd_811, ⟨trivial, ⟨trivial, ⟨trivial, trivial⟩⟩⟩⟩⟩⟩⟩⟩⟩⟩⟩
set_option maxRecDepth 100000 in
set_option maxHeartbeats 4000000 in
theorem n_X11_takes_4 : en_lkC "EvenSteps" false [(.iload_n 1, 1, 1, 0, [], 0, 0), (.iload_n 2, 1, 2, 0, [], 0, 0), (.invokestatic 301, 3, 2, 0, [(0, 219)], 0, 0), (.iload_n 1, 1, 1, 0, [], 0, 0), (.iload_n 2, 1, 2, 0, [], 0, 0), (.isub, 1, 0, 0, [], 0, 0), (.invokestatic 304, 3, 1, 0, [(0, 215)], 0, 0), (.invokestatic 323, 3, 1, 0, [(0, 107)], 0, 0), (.isub, 1, 0, 0, [], 0, 0), (.istore 5, 2, 5, 0, [], 0, 0), (.iload 5, 2, 5, 0, [], 0, 0), (.ifCond .le 12, 3, 5, 0, [], 0, 0), (.ldc_w 326, 3, 0, 0, [], 3000000, 0), (.iload 5, 2, 5, 0, [], 0, 0), (.iadd, 1, 0, 0, [], 0, 0), (.goto 4, 3, 6, 0, [], 0, 0)] := ⟨trivial, ⟨trivial, ⟨lk_274, ⟨trivial, ⟨trivial, ⟨trivial, ⟨lk_275, ⟨lk_282, ⟨trivial, ⟨trivial, ⟨trivial, ⟨trivial, ⟨wd_812, ⟨trivial, ⟨trivial, ⟨trivial, trivial⟩⟩⟩⟩⟩⟩⟩⟩⟩⟩⟩⟩⟩⟩⟩⟩
set_option maxRecDepth 100000 in
set_option maxHeartbeats 4000000 in
theorem n_X11_takes_5 : en_lkC "EvenSteps" false [(.iconst (-1), 1, 0, 0, [], (-1), 0)] := ⟨trivial, trivial⟩
set_option maxRecDepth 100000 in
set_option maxHeartbeats 4000000 in
theorem n_X11_takes_6 : en_lkC "EvenSteps" false [(.ireturn, 1, 0, 0, [], 0, 0)] := ⟨trivial, trivial⟩
set_option maxRecDepth 100000 in
set_option maxHeartbeats 4000000 in
theorem n_X11_takes : en_lkM (⟨"EvenSteps", "takes", "(II)I"⟩, prog_1_method_45_code, 6, (some .int), p_X11_takes) := (List.forall_mem_cons.mpr ⟨n_X11_takes_0, (List.forall_mem_cons.mpr ⟨n_X11_takes_1, (List.forall_mem_cons.mpr ⟨n_X11_takes_2, (List.forall_mem_cons.mpr ⟨n_X11_takes_3, (List.forall_mem_cons.mpr ⟨n_X11_takes_4, (List.forall_mem_cons.mpr ⟨n_X11_takes_5, (List.forall_mem_cons.mpr ⟨n_X11_takes_6, (fun _ h => absurd h List.not_mem_nil)⟩)⟩)⟩)⟩)⟩)⟩)⟩)
set_option maxRecDepth 100000 in
set_option maxHeartbeats 4000000 in
theorem k_X11_isHeap : en_ckM (⟨"EvenSteps", "isHeap", "(I)Z"⟩, prog_1_method_46_code, 1, (some .boolean), p_X11_isHeap) = true := by decide +kernel
set_option maxRecDepth 100000 in
set_option maxHeartbeats 4000000 in
theorem n_X11_isHeap_0 : en_lkC "EvenSteps" false [(.iload_n 0, 1, 0, 0, [], 0, 0), (.ifCond .lt 14, 3, 1, 0, [], 0, 0), (.iload_n 0, 1, 0, 0, [], 0, 0), (.sipush 2000, 3, 0, 0, [], 2000, 0), (.if_icmp .gt 7, 3, 1, 0, [], 0, 0), (.iconst 1, 1, 0, 0, [], 1, 0), (.goto 4, 3, 2, 0, [], 0, 0)] := ⟨trivial, ⟨trivial, ⟨trivial, ⟨trivial, ⟨trivial, ⟨trivial, ⟨trivial, trivial⟩⟩⟩⟩⟩⟩⟩
set_option maxRecDepth 100000 in
set_option maxHeartbeats 4000000 in
theorem n_X11_isHeap_1 : en_lkC "EvenSteps" false [(.iconst 0, 1, 0, 0, [], 0, 0)] := ⟨trivial, trivial⟩
set_option maxRecDepth 100000 in
set_option maxHeartbeats 4000000 in
theorem n_X11_isHeap_2 : en_lkC "EvenSteps" false [(.ireturn, 1, 0, 3, [], 0, 0)] := ⟨trivial, trivial⟩
set_option maxRecDepth 100000 in
set_option maxHeartbeats 4000000 in
theorem n_X11_isHeap : en_lkM (⟨"EvenSteps", "isHeap", "(I)Z"⟩, prog_1_method_46_code, 1, (some .boolean), p_X11_isHeap) := (List.forall_mem_cons.mpr ⟨n_X11_isHeap_0, (List.forall_mem_cons.mpr ⟨n_X11_isHeap_1, (List.forall_mem_cons.mpr ⟨n_X11_isHeap_2, (fun _ h => absurd h List.not_mem_nil)⟩)⟩)⟩)
set_option maxRecDepth 100000 in
set_option maxHeartbeats 4000000 in
theorem k_X11_goldenWhole : en_ckM (⟨"EvenSteps", "goldenWhole", "(I)I"⟩, prog_1_method_47_code, 1, (some .int), p_X11_goldenWhole) = true := by decide +kernel
set_option maxRecDepth 100000 in
set_option maxHeartbeats 4000000 in
theorem n_X11_goldenWhole_0 : en_lkC "EvenSteps" false [(.iload_n 0, 1, 0, 0, [], 0, 0), (.i2l, 1, 0, 0, [], 0, 0), (.ldc2_w 327, 3, 0, 0, [], 0, 5), (.iload_n 0, 1, 0, 0, [], 0, 0), (.i2l, 1, 0, 0, [], 0, 0), (.lmul, 1, 0, 0, [], 0, 0), (.iload_n 0, 1, 0, 0, [], 0, 0), (.i2l, 1, 0, 0, [], 0, 0), (.lmul, 1, 0, 0, [], 0, 0), (.invokestatic 329, 3, 1, 1, [(0, 127)], 0, 0), (.ladd, 1, 0, 0, [], 0, 0), (.ldc2_w 207, 3, 0, 0, [], 0, 2), (.ldiv, 1, 0, 0, [], 0, 0), (.l2i, 1, 0, 0, [], 0, 0), (.ireturn, 1, 0, 0, [], 0, 0)] := ⟨trivial, ⟨trivial, ⟨wd_802, ⟨trivial, ⟨trivial, ⟨trivial, ⟨trivial, ⟨trivial, ⟨trivial, ⟨lk_285, ⟨trivial, ⟨wd_265, ⟨trivial, ⟨trivial, ⟨trivial, trivial⟩⟩⟩⟩⟩⟩⟩⟩⟩⟩⟩⟩⟩⟩⟩
set_option maxRecDepth 100000 in
set_option maxHeartbeats 4000000 in
theorem n_X11_goldenWhole : en_lkM (⟨"EvenSteps", "goldenWhole", "(I)I"⟩, prog_1_method_47_code, 1, (some .int), p_X11_goldenWhole) := (List.forall_mem_cons.mpr ⟨n_X11_goldenWhole_0, (fun _ h => absurd h List.not_mem_nil)⟩)
set_option maxRecDepth 100000 in
set_option maxHeartbeats 4000000 in
theorem k_X11_lostBeside : en_ckM (⟨"EvenSteps", "lostBeside", "(I)I"⟩, prog_1_method_48_code, 2, (some .int), p_X11_lostBeside) = true := by decide +kernel
set_option maxRecDepth 100000 in
set_option maxHeartbeats 4000000 in
theorem n_X11_lostBeside_0 : en_lkC "EvenSteps" false [(.iload_n 0, 1, 0, 0, [], 0, 0), (.ifCond .ne 5, 3, 1, 0, [], 0, 0), (.iconst 0, 1, 0, 0, [], 0, 0), (.ireturn, 1, 0, 0, [], 0, 0)] := ⟨trivial, ⟨trivial, ⟨trivial, ⟨trivial, trivial⟩⟩⟩⟩
set_option maxRecDepth 100000 in
set_option maxHeartbeats 4000000 in
theorem n_X11_lostBeside_1 : en_lkC "EvenSteps" false [(.ldc2_w 327, 3, 0, 0, [], 0, 5), (.iload_n 0, 1, 0, 0, [], 0, 0), (.i2l, 1, 0, 0, [], 0, 0), (.lmul, 1, 0, 0, [], 0, 0), (.iload_n 0, 1, 0, 0, [], 0, 0), (.i2l, 1, 0, 0, [], 0, 0), (.lmul, 1, 0, 0, [], 0, 0), (.invokestatic 329, 3, 1, 1, [(0, 127)], 0, 0), (.iload_n 0, 1, 0, 0, [], 0, 0), (.i2l, 1, 0, 0, [], 0, 0), (.lsub, 1, 0, 0, [], 0, 0), (.ldc2_w 207, 3, 0, 0, [], 0, 2), (.ldiv, 1, 0, 0, [], 0, 0), (.l2i, 1, 0, 0, [], 0, 0), (.istore_n 1, 1, 1, 0, [], 0, 0), (.iload_n 1, 1, 1, 0, [], 0, 0), (.iconst 1, 1, 0, 0, [], 1, 0), (.iadd, 1, 0, 0, [], 0, 0), (.invokestatic 323, 3, 1, 0, [(0, 107)], 0, 0), (.iload_n 0, 1, 0, 0, [], 0, 0), (.if_icmp .ne 11, 3, 2, 0, [], 0, 0), (.iload_n 0, 1, 0, 0, [], 0, 0), (.iload_n 1, 1, 1, 0, [], 0, 0), (.iadd, 1, 0, 0, [], 0, 0), (.iconst 1, 1, 0, 0, [], 1, 0), (.iadd, 1, 0, 0, [], 0, 0), (.goto 4, 3, 3, 0, [], 0, 0)] := ⟨wd_802, ⟨trivial, ⟨trivial, ⟨trivial, ⟨trivial, ⟨trivial, ⟨trivial, ⟨lk_285, ⟨trivial, ⟨trivial, ⟨trivial, ⟨wd_265, ⟨trivial, ⟨trivial, ⟨trivial, ⟨trivial, ⟨trivial, ⟨trivial, ⟨lk_282, ⟨trivial, ⟨trivial, ⟨trivial, ⟨trivial, ⟨trivial, ⟨trivial, ⟨trivial, ⟨trivial, trivial⟩⟩⟩⟩⟩⟩⟩⟩⟩⟩⟩⟩⟩⟩⟩⟩⟩⟩⟩⟩⟩⟩⟩⟩⟩⟩⟩
set_option maxRecDepth 100000 in
set_option maxHeartbeats 4000000 in
theorem n_X11_lostBeside_2 : en_lkC "EvenSteps" false [(.iload_n 1, 1, 1, 0, [], 0, 0)] := ⟨trivial, trivial⟩
set_option maxRecDepth 100000 in
set_option maxHeartbeats 4000000 in
theorem n_X11_lostBeside_3 : en_lkC "EvenSteps" false [(.ireturn, 1, 0, 0, [], 0, 0)] := ⟨trivial, trivial⟩
set_option maxRecDepth 100000 in
set_option maxHeartbeats 4000000 in
theorem n_X11_lostBeside : en_lkM (⟨"EvenSteps", "lostBeside", "(I)I"⟩, prog_1_method_48_code, 2, (some .int), p_X11_lostBeside) := (List.forall_mem_cons.mpr ⟨n_X11_lostBeside_0, (List.forall_mem_cons.mpr ⟨n_X11_lostBeside_1, (List.forall_mem_cons.mpr ⟨n_X11_lostBeside_2, (List.forall_mem_cons.mpr ⟨n_X11_lostBeside_3, (fun _ h => absurd h List.not_mem_nil)⟩)⟩)⟩)⟩)
set_option maxRecDepth 100000 in
set_option maxHeartbeats 4000000 in
theorem k_X11_act : en_ckM (⟨"EvenSteps", "act", "(III)I"⟩, prog_1_method_49_code, 5, (some .int), p_X11_act) = true := by decide +kernel
set_option maxRecDepth 100000 in
set_option maxHeartbeats 4000000 in
theorem n_X11_act_0 : en_lkC "EvenSteps" false [(.aload_n 0, 1, 0, 0, [], 0, 0), (.iload_n 1, 1, 1, 0, [], 0, 0), (.invokevirtual 123, 3, 1, 2, [(10, 124)], 0, 0), (.astore 4, 2, 4, 0, [], 0, 0), (.aload 4, 2, 4, 0, [], 0, 0), (.ifnull 12, 3, 1, 0, [], 0, 0), (.iload_n 2, 1, 2, 0, [], 0, 0), (.ifCond .lt 8, 3, 1, 0, [], 0, 0), (.iload_n 2, 1, 2, 0, [], 0, 0), (.iconst 3, 1, 0, 0, [], 3, 0), (.if_icmp .le 9, 3, 2, 0, [], 0, 0)] := ⟨trivial, ⟨trivial, ⟨lk_205, ⟨trivial, ⟨trivial, ⟨trivial, ⟨trivial, ⟨trivial, ⟨trivial, ⟨trivial, ⟨trivial, trivial⟩⟩⟩⟩⟩⟩⟩⟩⟩⟩⟩
set_option maxRecDepth 100000 in
set_option maxHeartbeats 4000000 in
theorem n_X11_act_1 : en_lkC "EvenSteps" false [(.aload_n 0, 1, 0, 0, [], 0, 0), (.iconst 1, 1, 0, 0, [], 1, 0), (.invokevirtual 56, 3, 1, 0, [(10, 120)], 0, 0), (.ireturn, 1, 0, 0, [], 0, 0)] := ⟨trivial, ⟨trivial, ⟨lk_180, ⟨trivial, trivial⟩⟩⟩⟩
set_option maxRecDepth 100000 in
set_option maxHeartbeats 4000000 in
theorem n_X11_act_2 : en_lkC "EvenSteps" false [(.aload_n 0, 1, 0, 0, [], 0, 0), (.getfield 30, 3, 3, 2, [(10, 0)], 0, 0), (.iconst 0, 1, 0, 0, [], 0, 0), (.putfield 154, 3, 1, 0, [(9, 0)], 0, 0), (.iload_n 2, 1, 2, 0, [], 0, 0), (.tableswitch 73 0 2 #[28, 43, 58], 28, 6, 0, [(0, 3), (1, 4), (2, 5)], 0, 0)] := ⟨trivial, ⟨lk_219, ⟨trivial, ⟨lk_286, ⟨trivial, ⟨trivial, trivial⟩⟩⟩⟩⟩⟩
set_option maxRecDepth 100000 in
set_option maxHeartbeats 4000000 in
theorem n_X11_act_3 : en_lkC "EvenSteps" false [(.aload_n 0, 1, 0, 0, [], 0, 0), (.aload 4, 2, 4, 0, [], 0, 0), (.iload_n 3, 1, 3, 0, [], 0, 0), (.aload_n 0, 1, 0, 0, [], 0, 0), (.getfield 30, 3, 3, 2, [(10, 0)], 0, 0), (.invokevirtual 333, 3, 2, 0, [(1, 13), (2, 19), (3, 19), (4, 19), (8, 30)], 0, 0), (.invokevirtual 77, 3, 1, 0, [(10, 121)], 0, 0), (.ireturn, 1, 0, 0, [], 0, 0)] := ⟨trivial, ⟨trivial, ⟨trivial, ⟨trivial, ⟨lk_219, ⟨lk_287, ⟨lk_189, ⟨trivial, trivial⟩⟩⟩⟩⟩⟩⟩⟩
set_option maxRecDepth 100000 in
set_option maxHeartbeats 4000000 in
theorem n_X11_act_4 : en_lkC "EvenSteps" false [(.aload_n 0, 1, 0, 0, [], 0, 0), (.aload 4, 2, 4, 0, [], 0, 0), (.iload_n 3, 1, 3, 0, [], 0, 0), (.aload_n 0, 1, 0, 0, [], 0, 0), (.getfield 30, 3, 3, 2, [(10, 0)], 0, 0), (.invokevirtual 337, 3, 2, 0, [(1, 31), (2, 31), (3, 24), (4, 27), (8, 31)], 0, 0), (.invokevirtual 77, 3, 1, 0, [(10, 121)], 0, 0), (.ireturn, 1, 0, 0, [], 0, 0)] := ⟨trivial, ⟨trivial, ⟨trivial, ⟨trivial, ⟨lk_219, ⟨lk_288, ⟨lk_189, ⟨trivial, trivial⟩⟩⟩⟩⟩⟩⟩⟩
set_option maxRecDepth 100000 in
set_option maxHeartbeats 4000000 in
theorem n_X11_act_5 : en_lkC "EvenSteps" false [(.aload_n 0, 1, 0, 0, [], 0, 0), (.aload 4, 2, 4, 0, [], 0, 0), (.iload_n 3, 1, 3, 0, [], 0, 0), (.aload_n 0, 1, 0, 0, [], 0, 0), (.getfield 30, 3, 3, 2, [(10, 0)], 0, 0), (.invokevirtual 340, 3, 2, 0, [(1, 14), (2, 20), (3, 23), (4, 20), (8, 32)], 0, 0), (.invokevirtual 77, 3, 1, 0, [(10, 121)], 0, 0), (.ireturn, 1, 0, 0, [], 0, 0)] := ⟨trivial, ⟨trivial, ⟨trivial, ⟨trivial, ⟨lk_219, ⟨lk_289, ⟨lk_189, ⟨trivial, trivial⟩⟩⟩⟩⟩⟩⟩⟩
set_option maxRecDepth 100000 in
set_option maxHeartbeats 4000000 in
theorem n_X11_act_6 : en_lkC "EvenSteps" false [(.aload_n 0, 1, 0, 0, [], 0, 0), (.aload 4, 2, 4, 0, [], 0, 0), (.iload_n 3, 1, 3, 0, [], 0, 0), (.aload_n 0, 1, 0, 0, [], 0, 0), (.getfield 30, 3, 3, 2, [(10, 0)], 0, 0), (.invokevirtual 343, 3, 2, 0, [(1, 33), (2, 33), (3, 33), (4, 28), (8, 33)], 0, 0), (.invokevirtual 77, 3, 1, 0, [(10, 121)], 0, 0), (.ireturn, 1, 0, 0, [], 0, 0)] := ⟨trivial, ⟨trivial, ⟨trivial, ⟨trivial, ⟨lk_219, ⟨lk_290, ⟨lk_189, ⟨trivial, trivial⟩⟩⟩⟩⟩⟩⟩⟩
set_option maxRecDepth 100000 in
set_option maxHeartbeats 4000000 in
theorem n_X11_act : en_lkM (⟨"EvenSteps", "act", "(III)I"⟩, prog_1_method_49_code, 5, (some .int), p_X11_act) := (List.forall_mem_cons.mpr ⟨n_X11_act_0, (List.forall_mem_cons.mpr ⟨n_X11_act_1, (List.forall_mem_cons.mpr ⟨n_X11_act_2, (List.forall_mem_cons.mpr ⟨n_X11_act_3, (List.forall_mem_cons.mpr ⟨n_X11_act_4, (List.forall_mem_cons.mpr ⟨n_X11_act_5, (List.forall_mem_cons.mpr ⟨n_X11_act_6, (fun _ h => absurd h List.not_mem_nil)⟩)⟩)⟩)⟩)⟩)⟩)⟩)
set_option maxRecDepth 100000 in
set_option maxHeartbeats 4000000 in
theorem k_X11_trace : en_ckM (⟨"EvenSteps", "trace", "(I)I"⟩, prog_1_method_50_code, 2, (some .int), p_X11_trace) = true := by decide +kernel
set_option maxRecDepth 100000 in
set_option maxHeartbeats 4000000 in
theorem n_X11_trace_0 : en_lkC "EvenSteps" false [(.iload_n 1, 1, 1, 0, [], 0, 0), (.ifCond .lt 14, 3, 1, 0, [], 0, 0), (.iload_n 1, 1, 1, 0, [], 0, 0), (.aload_n 0, 1, 0, 0, [], 0, 0), (.getfield 30, 3, 3, 2, [(10, 0)], 0, 0), (.getfield 154, 3, 1, 0, [(9, 0)], 0, 0), (.if_icmp .lt 7, 3, 2, 0, [], 0, 0)] := ⟨trivial, ⟨trivial, ⟨trivial, ⟨trivial, ⟨lk_219, ⟨lk_220, ⟨trivial, trivial⟩⟩⟩⟩⟩⟩⟩
set_option maxRecDepth 100000 in
set_option maxHeartbeats 4000000 in
theorem n_X11_trace_1 : en_lkC "EvenSteps" false [(.iconst (-1), 1, 0, 0, [], (-1), 0), (.goto 12, 3, 3, 0, [], 0, 0)] := ⟨trivial, ⟨trivial, trivial⟩⟩
set_option maxRecDepth 100000 in
set_option maxHeartbeats 4000000 in
theorem n_X11_trace_2 : en_lkC "EvenSteps" false [(.aload_n 0, 1, 0, 0, [], 0, 0), (.getfield 30, 3, 3, 2, [(10, 0)], 0, 0), (.getfield 346, 3, 0, 2, [(9, 0)], 0, 0), (.iload_n 1, 1, 1, 0, [], 0, 0), (.iaload, 1, 0, 0, [], 0, 0)] := ⟨trivial, ⟨lk_219, ⟨lk_291, ⟨trivial, ⟨trivial, trivial⟩⟩⟩⟩⟩
set_option maxRecDepth 100000 in
set_option maxHeartbeats 4000000 in
theorem n_X11_trace_3 : en_lkC "EvenSteps" false [(.ireturn, 1, 0, 0, [], 0, 0)] := ⟨trivial, trivial⟩
set_option maxRecDepth 100000 in
set_option maxHeartbeats 4000000 in
theorem n_X11_trace : en_lkM (⟨"EvenSteps", "trace", "(I)I"⟩, prog_1_method_50_code, 2, (some .int), p_X11_trace) := (List.forall_mem_cons.mpr ⟨n_X11_trace_0, (List.forall_mem_cons.mpr ⟨n_X11_trace_1, (List.forall_mem_cons.mpr ⟨n_X11_trace_2, (List.forall_mem_cons.mpr ⟨n_X11_trace_3, (fun _ h => absurd h List.not_mem_nil)⟩)⟩)⟩)⟩)
set_option maxRecDepth 100000 in
set_option maxHeartbeats 4000000 in
theorem k_X11_sheet : en_ckM (⟨"EvenSteps", "sheet", "(III)I"⟩, prog_1_method_51_code, 4, (some .int), p_X11_sheet) = true := by decide +kernel
set_option maxRecDepth 100000 in
set_option maxHeartbeats 4000000 in
theorem n_X11_sheet_0 : en_lkC "EvenSteps" false [(.iload_n 1, 1, 1, 0, [], 0, 0), (.ifCond .lt 18, 3, 1, 0, [], 0, 0), (.iload_n 1, 1, 1, 0, [], 0, 0), (.iconst 4, 1, 0, 0, [], 4, 0), (.if_icmp .ge 13, 3, 1, 0, [], 0, 0), (.iload_n 2, 1, 2, 0, [], 0, 0), (.iconst (-1), 1, 0, 0, [], (-1), 0), (.if_icmp .lt 8, 3, 1, 0, [], 0, 0), (.iload_n 2, 1, 2, 0, [], 0, 0), (.iconst 2, 1, 0, 0, [], 2, 0), (.if_icmp .le 9, 3, 2, 0, [], 0, 0)] := ⟨trivial, ⟨trivial, ⟨trivial, ⟨trivial, ⟨trivial, ⟨trivial, ⟨trivial, ⟨trivial, ⟨trivial, ⟨trivial, ⟨trivial, trivial⟩⟩⟩⟩⟩⟩⟩⟩⟩⟩⟩
set_option maxRecDepth 100000 in
set_option maxHeartbeats 4000000 in
theorem n_X11_sheet_1 : en_lkC "EvenSteps" false [(.aload_n 0, 1, 0, 0, [], 0, 0), (.iconst 1, 1, 0, 0, [], 1, 0), (.invokevirtual 56, 3, 1, 0, [(10, 120)], 0, 0), (.ireturn, 1, 0, 0, [], 0, 0)] := ⟨trivial, ⟨trivial, ⟨lk_180, ⟨trivial, trivial⟩⟩⟩⟩
set_option maxRecDepth 100000 in
set_option maxHeartbeats 4000000 in
theorem n_X11_sheet_2 : en_lkC "EvenSteps" false [(.iload_n 2, 1, 2, 0, [], 0, 0), (.iconst (-1), 1, 0, 0, [], (-1), 0), (.if_icmp .ne 20, 3, 3, 0, [], 0, 0), (.aload_n 0, 1, 0, 0, [], 0, 0), (.getfield 23, 3, 2, 2, [(10, 0)], 0, 0), (.iload_n 1, 1, 1, 0, [], 0, 0), (.aaload, 1, 0, 0, [], 0, 0), (.iconst (-1), 1, 0, 0, [], (-1), 0), (.iconst 0, 1, 0, 0, [], 0, 0), (.invokevirtual 349, 3, 2, 4, [(5, 36)], 0, 0), (.aload_n 0, 1, 0, 0, [], 0, 0), (.iconst 1, 1, 0, 0, [], 1, 0), (.invokevirtual 77, 3, 1, 0, [(10, 121)], 0, 0), (.ireturn, 1, 0, 0, [], 0, 0)] := ⟨trivial, ⟨trivial, ⟨trivial, ⟨trivial, ⟨lk_191, ⟨trivial, ⟨trivial, ⟨trivial, ⟨trivial, ⟨lk_292, ⟨trivial, ⟨trivial, ⟨lk_189, ⟨trivial, trivial⟩⟩⟩⟩⟩⟩⟩⟩⟩⟩⟩⟩⟩⟩
set_option maxRecDepth 100000 in
set_option maxHeartbeats 4000000 in
theorem n_X11_sheet_3 : en_lkC "EvenSteps" false [(.iload_n 3, 1, 3, 0, [], 0, 0), (.ifCond .lt 9, 3, 4, 0, [], 0, 0), (.iload_n 3, 1, 3, 0, [], 0, 0), (.bipush 40, 2, 0, 0, [], 40, 0), (.if_icmp .le 9, 3, 5, 0, [], 0, 0)] := ⟨trivial, ⟨trivial, ⟨trivial, ⟨trivial, ⟨trivial, trivial⟩⟩⟩⟩⟩
set_option maxRecDepth 100000 in
set_option maxHeartbeats 4000000 in
theorem n_X11_sheet_4 : en_lkC "EvenSteps" false [(.aload_n 0, 1, 0, 0, [], 0, 0), (.iconst 1, 1, 0, 0, [], 1, 0), (.invokevirtual 56, 3, 1, 0, [(10, 120)], 0, 0), (.ireturn, 1, 0, 0, [], 0, 0)] := ⟨trivial, ⟨trivial, ⟨lk_180, ⟨trivial, trivial⟩⟩⟩⟩
set_option maxRecDepth 100000 in
set_option maxHeartbeats 4000000 in
theorem n_X11_sheet_5 : en_lkC "EvenSteps" false [(.aload_n 0, 1, 0, 0, [], 0, 0), (.getfield 23, 3, 2, 2, [(10, 0)], 0, 0), (.iload_n 1, 1, 1, 0, [], 0, 0), (.aaload, 1, 0, 0, [], 0, 0), (.iload_n 2, 1, 2, 0, [], 0, 0), (.iload_n 3, 1, 3, 0, [], 0, 0), (.invokevirtual 349, 3, 2, 4, [(5, 36)], 0, 0), (.aload_n 0, 1, 0, 0, [], 0, 0), (.iconst 1, 1, 0, 0, [], 1, 0), (.invokevirtual 77, 3, 1, 0, [(10, 121)], 0, 0), (.ireturn, 1, 0, 0, [], 0, 0)] := ⟨trivial, ⟨lk_191, ⟨trivial, ⟨trivial, ⟨trivial, ⟨trivial, ⟨lk_292, ⟨trivial, ⟨trivial, ⟨lk_189, ⟨trivial, trivial⟩⟩⟩⟩⟩⟩⟩⟩⟩⟩⟩
set_option maxRecDepth 100000 in
set_option maxHeartbeats 4000000 in
theorem n_X11_sheet : en_lkM (⟨"EvenSteps", "sheet", "(III)I"⟩, prog_1_method_51_code, 4, (some .int), p_X11_sheet) := (List.forall_mem_cons.mpr ⟨n_X11_sheet_0, (List.forall_mem_cons.mpr ⟨n_X11_sheet_1, (List.forall_mem_cons.mpr ⟨n_X11_sheet_2, (List.forall_mem_cons.mpr ⟨n_X11_sheet_3, (List.forall_mem_cons.mpr ⟨n_X11_sheet_4, (List.forall_mem_cons.mpr ⟨n_X11_sheet_5, (fun _ h => absurd h List.not_mem_nil)⟩)⟩)⟩)⟩)⟩)⟩)
set_option maxRecDepth 100000 in
set_option maxHeartbeats 4000000 in
theorem k_X11_cell : en_ckM (⟨"EvenSteps", "cell", "(III)I"⟩, prog_1_method_52_code, 5, (some .int), p_X11_cell) = true := by decide +kernel
set_option maxRecDepth 100000 in
set_option maxHeartbeats 4000000 in
theorem n_X11_cell_0 : en_lkC "EvenSteps" false [(.iload_n 1, 1, 1, 0, [], 0, 0), (.ifCond .lt 20, 3, 1, 0, [], 0, 0), (.iload_n 1, 1, 1, 0, [], 0, 0), (.iconst 4, 1, 0, 0, [], 4, 0), (.if_icmp .ge 15, 3, 1, 0, [], 0, 0), (.iload_n 3, 1, 3, 0, [], 0, 0), (.bipush (-100), 2, 0, 0, [], (-100), 0), (.if_icmp .lt 9, 3, 1, 0, [], 0, 0), (.iload_n 3, 1, 3, 0, [], 0, 0), (.bipush 100, 2, 0, 0, [], 100, 0), (.if_icmp .le 9, 3, 2, 0, [], 0, 0)] := ⟨trivial, ⟨trivial, ⟨trivial, ⟨trivial, ⟨trivial, ⟨trivial, ⟨trivial, ⟨trivial, ⟨trivial, ⟨trivial, ⟨trivial, trivial⟩⟩⟩⟩⟩⟩⟩⟩⟩⟩⟩
set_option maxRecDepth 100000 in
set_option maxHeartbeats 4000000 in
theorem n_X11_cell_1 : en_lkC "EvenSteps" false [(.aload_n 0, 1, 0, 0, [], 0, 0), (.iconst 1, 1, 0, 0, [], 1, 0), (.invokevirtual 56, 3, 1, 0, [(10, 120)], 0, 0), (.ireturn, 1, 0, 0, [], 0, 0)] := ⟨trivial, ⟨trivial, ⟨lk_180, ⟨trivial, trivial⟩⟩⟩⟩
set_option maxRecDepth 100000 in
set_option maxHeartbeats 4000000 in
theorem n_X11_cell_2 : en_lkC "EvenSteps" false [(.aload_n 0, 1, 0, 0, [], 0, 0), (.getfield 23, 3, 2, 2, [(10, 0)], 0, 0), (.iload_n 1, 1, 1, 0, [], 0, 0), (.aaload, 1, 0, 0, [], 0, 0), (.astore 4, 2, 4, 0, [], 0, 0), (.aload 4, 2, 4, 0, [], 0, 0), (.invokevirtual 83, 3, 0, 3, [(5, 35)], 0, 0), (.ifCond .eq 10, 3, 3, 0, [], 0, 0), (.aload_n 0, 1, 0, 0, [], 0, 0), (.bipush 10, 2, 0, 0, [], 10, 0), (.invokevirtual 56, 3, 1, 0, [(10, 120)], 0, 0), (.ireturn, 1, 0, 0, [], 0, 0)] := ⟨trivial, ⟨lk_191, ⟨trivial, ⟨trivial, ⟨trivial, ⟨trivial, ⟨lk_192, ⟨trivial, ⟨trivial, ⟨trivial, ⟨lk_180, ⟨trivial, trivial⟩⟩⟩⟩⟩⟩⟩⟩⟩⟩⟩⟩
set_option maxRecDepth 100000 in
set_option maxHeartbeats 4000000 in
theorem n_X11_cell_3 : en_lkC "EvenSteps" false [(.iload_n 2, 1, 2, 0, [], 0, 0), (.ifCond .lt 12, 3, 4, 0, [], 0, 0), (.iload_n 2, 1, 2, 0, [], 0, 0), (.aload 4, 2, 4, 0, [], 0, 0), (.getfield 90, 3, 2, 0, [(5, 0)], 0, 0), (.if_icmp .lt 10, 3, 5, 0, [], 0, 0)] := ⟨trivial, ⟨trivial, ⟨trivial, ⟨trivial, ⟨lk_194, ⟨trivial, trivial⟩⟩⟩⟩⟩⟩
set_option maxRecDepth 100000 in
set_option maxHeartbeats 4000000 in
theorem n_X11_cell_4 : en_lkC "EvenSteps" false [(.aload_n 0, 1, 0, 0, [], 0, 0), (.bipush 12, 2, 0, 0, [], 12, 0), (.invokevirtual 56, 3, 1, 0, [(10, 120)], 0, 0), (.ireturn, 1, 0, 0, [], 0, 0)] := ⟨trivial, ⟨trivial, ⟨lk_180, ⟨trivial, trivial⟩⟩⟩⟩
set_option maxRecDepth 100000 in
set_option maxHeartbeats 4000000 in
theorem n_X11_cell_5 : en_lkC "EvenSteps" false [(.aload 4, 2, 4, 0, [], 0, 0), (.getfield 353, 3, 0, 2, [(5, 0)], 0, 0), (.iload_n 2, 1, 2, 0, [], 0, 0), (.iload_n 3, 1, 3, 0, [], 0, 0), (.iastore, 1, 0, 0, [], 0, 0), (.aload_n 0, 1, 0, 0, [], 0, 0), (.iconst 1, 1, 0, 0, [], 1, 0), (.invokevirtual 77, 3, 1, 0, [(10, 121)], 0, 0), (.ireturn, 1, 0, 0, [], 0, 0)] := ⟨trivial, ⟨lk_293, ⟨trivial, ⟨trivial, ⟨trivial, ⟨trivial, ⟨trivial, ⟨lk_189, ⟨trivial, trivial⟩⟩⟩⟩⟩⟩⟩⟩⟩
set_option maxRecDepth 100000 in
set_option maxHeartbeats 4000000 in
theorem n_X11_cell : en_lkM (⟨"EvenSteps", "cell", "(III)I"⟩, prog_1_method_52_code, 5, (some .int), p_X11_cell) := (List.forall_mem_cons.mpr ⟨n_X11_cell_0, (List.forall_mem_cons.mpr ⟨n_X11_cell_1, (List.forall_mem_cons.mpr ⟨n_X11_cell_2, (List.forall_mem_cons.mpr ⟨n_X11_cell_3, (List.forall_mem_cons.mpr ⟨n_X11_cell_4, (List.forall_mem_cons.mpr ⟨n_X11_cell_5, (fun _ h => absurd h List.not_mem_nil)⟩)⟩)⟩)⟩)⟩)⟩)
set_option maxRecDepth 100000 in
set_option maxHeartbeats 4000000 in
theorem k_X11_forge : en_ckM (⟨"EvenSteps", "forge", "(III)I"⟩, prog_1_method_53_code, 4, (some .int), p_X11_forge) = true := by decide +kernel
set_option maxRecDepth 100000 in
set_option maxHeartbeats 4000000 in
theorem n_X11_forge_0 : en_lkC "EvenSteps" false [(.iload_n 2, 1, 2, 0, [], 0, 0), (.bipush (-100), 2, 0, 0, [], (-100), 0), (.if_icmp .lt 21, 3, 1, 0, [], 0, 0), (.iload_n 2, 1, 2, 0, [], 0, 0), (.bipush 100, 2, 0, 0, [], 100, 0), (.if_icmp .gt 15, 3, 1, 0, [], 0, 0), (.iload_n 3, 1, 3, 0, [], 0, 0), (.bipush (-100), 2, 0, 0, [], (-100), 0), (.if_icmp .lt 9, 3, 1, 0, [], 0, 0), (.iload_n 3, 1, 3, 0, [], 0, 0), (.bipush 100, 2, 0, 0, [], 100, 0), (.if_icmp .le 9, 3, 2, 0, [], 0, 0)] := ⟨trivial, ⟨trivial, ⟨trivial, ⟨trivial, ⟨trivial, ⟨trivial, ⟨trivial, ⟨trivial, ⟨trivial, ⟨trivial, ⟨trivial, ⟨trivial, trivial⟩⟩⟩⟩⟩⟩⟩⟩⟩⟩⟩⟩
set_option maxRecDepth 100000 in
set_option maxHeartbeats 4000000 in
theorem n_X11_forge_1 : en_lkC "EvenSteps" false [(.aload_n 0, 1, 0, 0, [], 0, 0), (.iconst 1, 1, 0, 0, [], 1, 0), (.invokevirtual 56, 3, 1, 0, [(10, 120)], 0, 0), (.ireturn, 1, 0, 0, [], 0, 0)] := ⟨trivial, ⟨trivial, ⟨lk_180, ⟨trivial, trivial⟩⟩⟩⟩
set_option maxRecDepth 100000 in
set_option maxHeartbeats 4000000 in
theorem n_X11_forge_2 : en_lkC "EvenSteps" false [(.iload_n 1, 1, 1, 0, [], 0, 0), (.tableswitch 173 0 6 #[41, 61, 80, 96, 112, 127, 150], 41, 16, 0, [(0, 3), (1, 4), (2, 7), (3, 8), (4, 9), (5, 10), (6, 13)], 0, 0)] := ⟨trivial, ⟨trivial, trivial⟩⟩
set_option maxRecDepth 100000 in
set_option maxHeartbeats 4000000 in
theorem n_X11_forge_3 : en_lkC "EvenSteps" false [(.aload_n 0, 1, 0, 0, [], 0, 0), (.aload_n 0, 1, 0, 0, [], 0, 0), (.iload_n 3, 1, 3, 0, [], 0, 0), (.bipush 10, 2, 0, 0, [], 10, 0), (.invokestatic 192, 3, 2, 0, [(0, 213)], 0, 0), (.invokevirtual 123, 3, 1, 2, [(10, 124)], 0, 0), (.iload_n 2, 1, 2, 0, [], 0, 0), (.iconst 5, 1, 0, 0, [], 5, 0), (.invokestatic 192, 3, 2, 0, [(0, 213)], 0, 0), (.invokevirtual 354, 3, 2, 0, [(10, 114)], 0, 0), (.ireturn, 1, 0, 0, [], 0, 0)] := ⟨trivial, ⟨trivial, ⟨trivial, ⟨trivial, ⟨lk_233, ⟨lk_205, ⟨trivial, ⟨trivial, ⟨lk_233, ⟨lk_294, ⟨trivial, trivial⟩⟩⟩⟩⟩⟩⟩⟩⟩⟩⟩
set_option maxRecDepth 100000 in
set_option maxHeartbeats 4000000 in
theorem n_X11_forge_4 : en_lkC "EvenSteps" false [(.iload_n 2, 1, 2, 0, [], 0, 0), (.ifCond .ge 12, 3, 5, 0, [], 0, 0), (.aload_n 0, 1, 0, 0, [], 0, 0), (.bipush 13, 2, 0, 0, [], 13, 0), (.invokevirtual 56, 3, 1, 0, [(10, 120)], 0, 0), (.goto 8, 3, 6, 0, [], 0, 0)] := ⟨trivial, ⟨trivial, ⟨trivial, ⟨trivial, ⟨lk_180, ⟨trivial, trivial⟩⟩⟩⟩⟩⟩
set_option maxRecDepth 100000 in
set_option maxHeartbeats 4000000 in
theorem n_X11_forge_5 : en_lkC "EvenSteps" false [(.aload_n 0, 1, 0, 0, [], 0, 0), (.iload_n 2, 1, 2, 0, [], 0, 0), (.invokevirtual 77, 3, 1, 0, [(10, 121)], 0, 0)] := ⟨trivial, ⟨trivial, ⟨lk_189, trivial⟩⟩⟩
set_option maxRecDepth 100000 in
set_option maxHeartbeats 4000000 in
theorem n_X11_forge_6 : en_lkC "EvenSteps" false [(.ireturn, 1, 0, 0, [], 0, 0)] := ⟨trivial, trivial⟩
set_option maxRecDepth 100000 in
set_option maxHeartbeats 4000000 in
theorem n_X11_forge_7 : en_lkC "EvenSteps" false [(.aload_n 0, 1, 0, 0, [], 0, 0), (.aload_n 0, 1, 0, 0, [], 0, 0), (.getfield 23, 3, 2, 2, [(10, 0)], 0, 0), (.iload_n 3, 1, 3, 0, [], 0, 0), (.iconst 4, 1, 0, 0, [], 4, 0), (.invokestatic 192, 3, 2, 0, [(0, 213)], 0, 0), (.aaload, 1, 0, 0, [], 0, 0), (.iload_n 2, 1, 2, 0, [], 0, 0), (.invokevirtual 358, 3, 2, 0, [(10, 116)], 0, 0), (.ireturn, 1, 0, 0, [], 0, 0)] := ⟨trivial, ⟨trivial, ⟨lk_191, ⟨trivial, ⟨trivial, ⟨lk_233, ⟨trivial, ⟨trivial, ⟨lk_295, ⟨trivial, trivial⟩⟩⟩⟩⟩⟩⟩⟩⟩⟩
set_option maxRecDepth 100000 in
set_option maxHeartbeats 4000000 in
theorem n_X11_forge_8 : en_lkC "EvenSteps" false [(.aload_n 0, 1, 0, 0, [], 0, 0), (.aload_n 0, 1, 0, 0, [], 0, 0), (.getfield 23, 3, 2, 2, [(10, 0)], 0, 0), (.iload_n 3, 1, 3, 0, [], 0, 0), (.iconst 4, 1, 0, 0, [], 4, 0), (.invokestatic 192, 3, 2, 0, [(0, 213)], 0, 0), (.aaload, 1, 0, 0, [], 0, 0), (.iload_n 2, 1, 2, 0, [], 0, 0), (.invokevirtual 362, 3, 2, 0, [(10, 117)], 0, 0), (.ireturn, 1, 0, 0, [], 0, 0)] := ⟨trivial, ⟨trivial, ⟨lk_191, ⟨trivial, ⟨trivial, ⟨lk_233, ⟨trivial, ⟨trivial, ⟨lk_296, ⟨trivial, trivial⟩⟩⟩⟩⟩⟩⟩⟩⟩⟩
set_option maxRecDepth 100000 in
set_option maxHeartbeats 4000000 in
theorem n_X11_forge_9 : en_lkC "EvenSteps" false [(.aload_n 0, 1, 0, 0, [], 0, 0), (.aload_n 0, 1, 0, 0, [], 0, 0), (.iload_n 3, 1, 3, 0, [], 0, 0), (.bipush 10, 2, 0, 0, [], 10, 0), (.invokestatic 192, 3, 2, 0, [(0, 213)], 0, 0), (.invokevirtual 123, 3, 1, 2, [(10, 124)], 0, 0), (.invokevirtual 365, 3, 1, 0, [(10, 118)], 0, 0), (.ireturn, 1, 0, 0, [], 0, 0)] := ⟨trivial, ⟨trivial, ⟨trivial, ⟨trivial, ⟨lk_233, ⟨lk_205, ⟨lk_297, ⟨trivial, trivial⟩⟩⟩⟩⟩⟩⟩⟩
set_option maxRecDepth 100000 in
set_option maxHeartbeats 4000000 in
theorem n_X11_forge_10 : en_lkC "EvenSteps" false [(.iload_n 2, 1, 2, 0, [], 0, 0), (.ifCond .ne 12, 3, 11, 0, [], 0, 0), (.aload_n 0, 1, 0, 0, [], 0, 0), (.bipush 15, 2, 0, 0, [], 15, 0), (.invokevirtual 56, 3, 1, 0, [(10, 120)], 0, 0), (.goto 12, 3, 12, 0, [], 0, 0)] := ⟨trivial, ⟨trivial, ⟨trivial, ⟨trivial, ⟨lk_180, ⟨trivial, trivial⟩⟩⟩⟩⟩⟩
set_option maxRecDepth 100000 in
set_option maxHeartbeats 4000000 in
theorem n_X11_forge_11 : en_lkC "EvenSteps" false [(.aload_n 0, 1, 0, 0, [], 0, 0), (.sipush 1000, 3, 0, 0, [], 1000, 0), (.iload_n 2, 1, 2, 0, [], 0, 0), (.idiv, 1, 0, 0, [], 0, 0), (.invokevirtual 77, 3, 1, 0, [(10, 121)], 0, 0)] := ⟨trivial, ⟨trivial, ⟨trivial, ⟨trivial, ⟨lk_189, trivial⟩⟩⟩⟩⟩
set_option maxRecDepth 100000 in
set_option maxHeartbeats 4000000 in
theorem n_X11_forge_12 : en_lkC "EvenSteps" false [(.ireturn, 1, 0, 0, [], 0, 0)] := ⟨trivial, trivial⟩
set_option maxRecDepth 100000 in
set_option maxHeartbeats 4000000 in
theorem n_X11_forge_13 : en_lkC "EvenSteps" false [(.iload_n 2, 1, 2, 0, [], 0, 0), (.iconst 2, 1, 0, 0, [], 2, 0), (.invokestatic 192, 3, 2, 0, [(0, 213)], 0, 0), (.ifCond .ne 12, 3, 14, 0, [], 0, 0), (.aload_n 0, 1, 0, 0, [], 0, 0), (.bipush 10, 2, 0, 0, [], 10, 0), (.invokevirtual 56, 3, 1, 0, [(10, 120)], 0, 0), (.goto 8, 3, 15, 0, [], 0, 0)] := ⟨trivial, ⟨trivial, ⟨lk_233, ⟨trivial, ⟨trivial, ⟨trivial, ⟨lk_180, ⟨trivial, trivial⟩⟩⟩⟩⟩⟩⟩⟩
set_option maxRecDepth 100000 in
set_option maxHeartbeats 4000000 in
theorem n_X11_forge_14 : en_lkC "EvenSteps" false [(.aload_n 0, 1, 0, 0, [], 0, 0), (.iconst 1, 1, 0, 0, [], 1, 0), (.invokevirtual 77, 3, 1, 0, [(10, 121)], 0, 0)] := ⟨trivial, ⟨trivial, ⟨lk_189, trivial⟩⟩⟩
set_option maxRecDepth 100000 in
set_option maxHeartbeats 4000000 in
theorem n_X11_forge_15 : en_lkC "EvenSteps" false [(.ireturn, 1, 0, 0, [], 0, 0)] := ⟨trivial, trivial⟩
set_option maxRecDepth 100000 in
set_option maxHeartbeats 4000000 in
theorem n_X11_forge_16 : en_lkC "EvenSteps" false [(.aload_n 0, 1, 0, 0, [], 0, 0), (.iconst 1, 1, 0, 0, [], 1, 0), (.invokevirtual 56, 3, 1, 0, [(10, 120)], 0, 0), (.ireturn, 1, 0, 0, [], 0, 0)] := ⟨trivial, ⟨trivial, ⟨lk_180, ⟨trivial, trivial⟩⟩⟩⟩
set_option maxRecDepth 100000 in
set_option maxHeartbeats 4000000 in
theorem n_X11_forge : en_lkM (⟨"EvenSteps", "forge", "(III)I"⟩, prog_1_method_53_code, 4, (some .int), p_X11_forge) := (List.forall_mem_cons.mpr ⟨n_X11_forge_0, (List.forall_mem_cons.mpr ⟨n_X11_forge_1, (List.forall_mem_cons.mpr ⟨n_X11_forge_2, (List.forall_mem_cons.mpr ⟨n_X11_forge_3, (List.forall_mem_cons.mpr ⟨n_X11_forge_4, (List.forall_mem_cons.mpr ⟨n_X11_forge_5, (List.forall_mem_cons.mpr ⟨n_X11_forge_6, (List.forall_mem_cons.mpr ⟨n_X11_forge_7, (List.forall_mem_cons.mpr ⟨n_X11_forge_8, (List.forall_mem_cons.mpr ⟨n_X11_forge_9, (List.forall_mem_cons.mpr ⟨n_X11_forge_10, (List.forall_mem_cons.mpr ⟨n_X11_forge_11, (List.forall_mem_cons.mpr ⟨n_X11_forge_12, (List.forall_mem_cons.mpr ⟨n_X11_forge_13, (List.forall_mem_cons.mpr ⟨n_X11_forge_14, (List.forall_mem_cons.mpr ⟨n_X11_forge_15, (List.forall_mem_cons.mpr ⟨n_X11_forge_16, (fun _ h => absurd h List.not_mem_nil)⟩)⟩)⟩)⟩)⟩)⟩)⟩)⟩)⟩)⟩)⟩)⟩)⟩)⟩)⟩)⟩)⟩)
set_option maxRecDepth 100000 in
set_option maxHeartbeats 4000000 in
theorem k_X11_forgeKind : en_ckM (⟨"EvenSteps", "forgeKind", "(LEvenSteps$Row;I)I"⟩, prog_1_method_54_code, 3, (some .int), p_X11_forgeKind) = true := by decide +kernel
set_option maxRecDepth 100000 in
set_option maxHeartbeats 4000000 in
theorem n_X11_forgeKind_0 : en_lkC "EvenSteps" false [(.aload_n 1, 1, 1, 0, [], 0, 0), (.ifnonnull 10, 3, 1, 0, [], 0, 0), (.aload_n 0, 1, 0, 0, [], 0, 0), (.bipush 10, 2, 0, 0, [], 10, 0), (.invokevirtual 56, 3, 1, 0, [(10, 120)], 0, 0), (.ireturn, 1, 0, 0, [], 0, 0)] := ⟨trivial, ⟨trivial, ⟨trivial, ⟨trivial, ⟨lk_180, ⟨trivial, trivial⟩⟩⟩⟩⟩⟩
set_option maxRecDepth 100000 in
set_option maxHeartbeats 4000000 in
theorem n_X11_forgeKind_1 : en_lkC "EvenSteps" false [(.aload_n 1, 1, 1, 0, [], 0, 0), (.iload_n 2, 1, 2, 0, [], 0, 0), (.invokestatic 368, 3, 2, 3, [(0, 115)], 0, 0), (.ifCond .eq 14, 3, 2, 0, [], 0, 0), (.aload_n 0, 1, 0, 0, [], 0, 0), (.aload_n 1, 1, 1, 0, [], 0, 0), (.invokevirtual 213, 3, 0, 0, [(1, 8), (2, 16), (3, 22), (4, 26), (8, 56)], 0, 0), (.invokevirtual 77, 3, 1, 0, [(10, 121)], 0, 0), (.goto 9, 3, 3, 0, [], 0, 0)] := ⟨trivial, ⟨trivial, ⟨lk_298, ⟨trivial, ⟨trivial, ⟨trivial, ⟨lk_240, ⟨lk_189, ⟨trivial, trivial⟩⟩⟩⟩⟩⟩⟩⟩⟩
set_option maxRecDepth 100000 in
set_option maxHeartbeats 4000000 in
theorem n_X11_forgeKind_2 : en_lkC "EvenSteps" false [(.aload_n 0, 1, 0, 0, [], 0, 0), (.bipush 11, 2, 0, 0, [], 11, 0), (.invokevirtual 56, 3, 1, 0, [(10, 120)], 0, 0)] := ⟨trivial, ⟨trivial, ⟨lk_180, trivial⟩⟩⟩
set_option maxRecDepth 100000 in
set_option maxHeartbeats 4000000 in
theorem n_X11_forgeKind_3 : en_lkC "EvenSteps" false [(.ireturn, 1, 0, 0, [], 0, 0)] := ⟨trivial, trivial⟩
set_option maxRecDepth 100000 in
set_option maxHeartbeats 4000000 in
theorem n_X11_forgeKind : en_lkM (⟨"EvenSteps", "forgeKind", "(LEvenSteps$Row;I)I"⟩, prog_1_method_54_code, 3, (some .int), p_X11_forgeKind) := (List.forall_mem_cons.mpr ⟨n_X11_forgeKind_0, (List.forall_mem_cons.mpr ⟨n_X11_forgeKind_1, (List.forall_mem_cons.mpr ⟨n_X11_forgeKind_2, (List.forall_mem_cons.mpr ⟨n_X11_forgeKind_3, (fun _ h => absurd h List.not_mem_nil)⟩)⟩)⟩)⟩)
set_option maxRecDepth 100000 in
set_option maxHeartbeats 4000000 in
theorem k_X11_isOfKind : en_ckM (⟨"EvenSteps", "isOfKind", "(LEvenSteps$Row;I)Z"⟩, prog_1_method_55_code, 2, (some .boolean), p_X11_isOfKind) = true := by decide +kernel
set_option maxRecDepth 100000 in
set_option maxHeartbeats 4000000 in
theorem n_X11_isOfKind_0 : en_lkC "EvenSteps" false [(.iload_n 1, 1, 1, 0, [], 0, 0), (.tableswitch 48 0 3 #[31, 33, 38, 43], 31, 5, 0, [(0, 1), (1, 2), (2, 3), (3, 4)], 0, 0)] := ⟨trivial, ⟨trivial, trivial⟩⟩
set_option maxRecDepth 100000 in
set_option maxHeartbeats 4000000 in
theorem n_X11_isOfKind_1 : en_lkC "EvenSteps" false [(.iconst 1, 1, 0, 0, [], 1, 0), (.ireturn, 1, 0, 3, [], 0, 0)] := ⟨trivial, ⟨trivial, trivial⟩⟩
set_option maxRecDepth 100000 in
set_option maxHeartbeats 4000000 in
theorem n_X11_isOfKind_2 : en_lkC "EvenSteps" false [(.aload_n 0, 1, 0, 0, [], 0, 0), (.instanceof 113, 3, 0, 0, [(1, 0), (2, 1), (3, 1), (4, 1), (8, 0)], 0, 0), (.ireturn, 1, 0, 3, [], 0, 0)] := ⟨trivial, ⟨⟨"EvenSteps$Even", wd_419, lk_216⟩, ⟨trivial, trivial⟩⟩⟩
set_option maxRecDepth 100000 in
set_option maxHeartbeats 4000000 in
theorem n_X11_isOfKind_3 : en_lkC "EvenSteps" false [(.aload_n 0, 1, 0, 0, [], 0, 0), (.instanceof 118, 3, 0, 0, [(1, 0), (2, 0), (3, 0), (4, 1), (8, 0)], 0, 0), (.ireturn, 1, 0, 3, [], 0, 0)] := ⟨trivial, ⟨⟨"EvenSteps$Ring", wd_447, lk_299⟩, ⟨trivial, trivial⟩⟩⟩
set_option maxRecDepth 100000 in
set_option maxHeartbeats 4000000 in
theorem n_X11_isOfKind_4 : en_lkC "EvenSteps" false [(.aload_n 0, 1, 0, 0, [], 0, 0), (.instanceof 131, 3, 0, 0, [(1, 1), (2, 0), (3, 0), (4, 0), (8, 0)], 0, 0), (.ireturn, 1, 0, 3, [], 0, 0)] := ⟨trivial, ⟨⟨"EvenSteps$Cut", wd_474, lk_300⟩, ⟨trivial, trivial⟩⟩⟩
set_option maxRecDepth 100000 in
set_option maxHeartbeats 4000000 in
theorem n_X11_isOfKind_5 : en_lkC "EvenSteps" false [(.aload_n 0, 1, 0, 0, [], 0, 0), (.instanceof 136, 3, 0, 0, [(1, 0), (2, 0), (3, 1), (4, 0), (8, 0)], 0, 0), (.ireturn, 1, 0, 3, [], 0, 0)] := ⟨trivial, ⟨⟨"EvenSteps$Points", wd_514, lk_269⟩, ⟨trivial, trivial⟩⟩⟩
set_option maxRecDepth 100000 in
set_option maxHeartbeats 4000000 in
theorem n_X11_isOfKind : en_lkM (⟨"EvenSteps", "isOfKind", "(LEvenSteps$Row;I)Z"⟩, prog_1_method_55_code, 2, (some .boolean), p_X11_isOfKind) := (List.forall_mem_cons.mpr ⟨n_X11_isOfKind_0, (List.forall_mem_cons.mpr ⟨n_X11_isOfKind_1, (List.forall_mem_cons.mpr ⟨n_X11_isOfKind_2, (List.forall_mem_cons.mpr ⟨n_X11_isOfKind_3, (List.forall_mem_cons.mpr ⟨n_X11_isOfKind_4, (List.forall_mem_cons.mpr ⟨n_X11_isOfKind_5, (fun _ h => absurd h List.not_mem_nil)⟩)⟩)⟩)⟩)⟩)⟩)
set_option maxRecDepth 100000 in
set_option maxHeartbeats 4000000 in
theorem k_X11_forgeNumber : en_ckM (⟨"EvenSteps", "forgeNumber", "(LEvenSteps$Sheet;I)I"⟩, prog_1_method_56_code, 3, (some .int), p_X11_forgeNumber) = true := by decide +kernel
set_option maxRecDepth 100000 in
set_option maxHeartbeats 4000000 in
theorem n_X11_forgeNumber_0 : en_lkC "EvenSteps" false [(.aload_n 1, 1, 1, 0, [], 0, 0), (.invokevirtual 83, 3, 0, 3, [(5, 35)], 0, 0), (.ifCond .eq 10, 3, 1, 0, [], 0, 0), (.aload_n 0, 1, 0, 0, [], 0, 0), (.bipush 10, 2, 0, 0, [], 10, 0), (.invokevirtual 56, 3, 1, 0, [(10, 120)], 0, 0), (.ireturn, 1, 0, 0, [], 0, 0)] := ⟨trivial, ⟨lk_192, ⟨trivial, ⟨trivial, ⟨trivial, ⟨lk_180, ⟨trivial, trivial⟩⟩⟩⟩⟩⟩⟩
set_option maxRecDepth 100000 in
set_option maxHeartbeats 4000000 in
theorem n_X11_forgeNumber_1 : en_lkC "EvenSteps" false [(.aload_n 1, 1, 1, 0, [], 0, 0), (.getfield 87, 3, 1, 0, [(5, 0)], 0, 0), (.iconst 1, 1, 0, 0, [], 1, 0), (.if_icmp .eq 10, 3, 2, 0, [], 0, 0), (.aload_n 0, 1, 0, 0, [], 0, 0), (.bipush 11, 2, 0, 0, [], 11, 0), (.invokevirtual 56, 3, 1, 0, [(10, 120)], 0, 0), (.ireturn, 1, 0, 0, [], 0, 0)] := ⟨trivial, ⟨lk_193, ⟨trivial, ⟨trivial, ⟨trivial, ⟨trivial, ⟨lk_180, ⟨trivial, trivial⟩⟩⟩⟩⟩⟩⟩⟩
set_option maxRecDepth 100000 in
set_option maxHeartbeats 4000000 in
theorem n_X11_forgeNumber_2 : en_lkC "EvenSteps" false [(.iload_n 2, 1, 2, 0, [], 0, 0), (.ifCond .lt 11, 3, 3, 0, [], 0, 0), (.iload_n 2, 1, 2, 0, [], 0, 0), (.aload_n 1, 1, 1, 0, [], 0, 0), (.getfield 90, 3, 2, 0, [(5, 0)], 0, 0), (.if_icmp .lt 12, 3, 4, 0, [], 0, 0)] := ⟨trivial, ⟨trivial, ⟨trivial, ⟨trivial, ⟨lk_194, ⟨trivial, trivial⟩⟩⟩⟩⟩⟩
set_option maxRecDepth 100000 in
set_option maxHeartbeats 4000000 in
theorem n_X11_forgeNumber_3 : en_lkC "EvenSteps" false [(.aload_n 0, 1, 0, 0, [], 0, 0), (.bipush 12, 2, 0, 0, [], 12, 0), (.invokevirtual 56, 3, 1, 0, [(10, 120)], 0, 0), (.goto 13, 3, 5, 0, [], 0, 0)] := ⟨trivial, ⟨trivial, ⟨lk_180, ⟨trivial, trivial⟩⟩⟩⟩
set_option maxRecDepth 100000 in
set_option maxHeartbeats 4000000 in
theorem n_X11_forgeNumber_4 : en_lkC "EvenSteps" false [(.aload_n 0, 1, 0, 0, [], 0, 0), (.aload_n 1, 1, 1, 0, [], 0, 0), (.getfield 353, 3, 0, 2, [(5, 0)], 0, 0), (.iload_n 2, 1, 2, 0, [], 0, 0), (.iaload, 1, 0, 0, [], 0, 0), (.invokevirtual 77, 3, 1, 0, [(10, 121)], 0, 0)] := ⟨trivial, ⟨trivial, ⟨lk_293, ⟨trivial, ⟨trivial, ⟨lk_189, trivial⟩⟩⟩⟩⟩⟩
set_option maxRecDepth 100000 in
set_option maxHeartbeats 4000000 in
theorem n_X11_forgeNumber_5 : en_lkC "EvenSteps" false [(.ireturn, 1, 0, 0, [], 0, 0)] := ⟨trivial, trivial⟩
set_option maxRecDepth 100000 in
set_option maxHeartbeats 4000000 in
theorem n_X11_forgeNumber : en_lkM (⟨"EvenSteps", "forgeNumber", "(LEvenSteps$Sheet;I)I"⟩, prog_1_method_56_code, 3, (some .int), p_X11_forgeNumber) := (List.forall_mem_cons.mpr ⟨n_X11_forgeNumber_0, (List.forall_mem_cons.mpr ⟨n_X11_forgeNumber_1, (List.forall_mem_cons.mpr ⟨n_X11_forgeNumber_2, (List.forall_mem_cons.mpr ⟨n_X11_forgeNumber_3, (List.forall_mem_cons.mpr ⟨n_X11_forgeNumber_4, (List.forall_mem_cons.mpr ⟨n_X11_forgeNumber_5, (fun _ h => absurd h List.not_mem_nil)⟩)⟩)⟩)⟩)⟩)⟩)
set_option maxRecDepth 100000 in
set_option maxHeartbeats 4000000 in
theorem k_X11_forgeCopy : en_ckM (⟨"EvenSteps", "forgeCopy", "(LEvenSteps$Sheet;I)I"⟩, prog_1_method_57_code, 5, (some .int), p_X11_forgeCopy) = true := by decide +kernel
set_option maxRecDepth 100000 in
set_option maxHeartbeats 4000000 in
theorem n_X11_forgeCopy_0 : en_lkC "EvenSteps" false [(.aload_n 1, 1, 1, 0, [], 0, 0), (.invokevirtual 83, 3, 0, 3, [(5, 35)], 0, 0), (.ifCond .eq 10, 3, 1, 0, [], 0, 0), (.aload_n 0, 1, 0, 0, [], 0, 0), (.bipush 10, 2, 0, 0, [], 10, 0), (.invokevirtual 56, 3, 1, 0, [(10, 120)], 0, 0), (.ireturn, 1, 0, 0, [], 0, 0)] := ⟨trivial, ⟨lk_192, ⟨trivial, ⟨trivial, ⟨trivial, ⟨lk_180, ⟨trivial, trivial⟩⟩⟩⟩⟩⟩⟩
set_option maxRecDepth 100000 in
set_option maxHeartbeats 4000000 in
theorem n_X11_forgeCopy_1 : en_lkC "EvenSteps" false [(.aload_n 1, 1, 1, 0, [], 0, 0), (.getfield 87, 3, 1, 0, [(5, 0)], 0, 0), (.ifCond .eq 10, 3, 2, 0, [], 0, 0), (.aload_n 0, 1, 0, 0, [], 0, 0), (.bipush 11, 2, 0, 0, [], 11, 0), (.invokevirtual 56, 3, 1, 0, [(10, 120)], 0, 0), (.ireturn, 1, 0, 0, [], 0, 0)] := ⟨trivial, ⟨lk_193, ⟨trivial, ⟨trivial, ⟨trivial, ⟨lk_180, ⟨trivial, trivial⟩⟩⟩⟩⟩⟩⟩
set_option maxRecDepth 100000 in
set_option maxHeartbeats 4000000 in
theorem n_X11_forgeCopy_2 : en_lkC "EvenSteps" false [(.iload_n 2, 1, 2, 0, [], 0, 0), (.ifCond .lt 21, 3, 3, 0, [], 0, 0), (.iconst 1, 1, 0, 0, [], 1, 0), (.iload_n 2, 1, 2, 0, [], 0, 0), (.iadd, 1, 0, 0, [], 0, 0), (.aload_n 1, 1, 1, 0, [], 0, 0), (.getfield 90, 3, 2, 0, [(5, 0)], 0, 0), (.if_icmp .gt 11, 3, 3, 0, [], 0, 0), (.iload_n 2, 1, 2, 0, [], 0, 0), (.iload_n 2, 1, 2, 0, [], 0, 0), (.iadd, 1, 0, 0, [], 0, 0), (.bipush 6, 2, 0, 0, [], 6, 0), (.if_icmp .le 10, 3, 4, 0, [], 0, 0)] := ⟨trivial, ⟨trivial, ⟨trivial, ⟨trivial, ⟨trivial, ⟨trivial, ⟨lk_194, ⟨trivial, ⟨trivial, ⟨trivial, ⟨trivial, ⟨trivial, ⟨trivial, trivial⟩⟩⟩⟩⟩⟩⟩⟩⟩⟩⟩⟩⟩
set_option maxRecDepth 100000 in
set_option maxHeartbeats 4000000 in
theorem n_X11_forgeCopy_3 : en_lkC "EvenSteps" false [(.aload_n 0, 1, 0, 0, [], 0, 0), (.bipush 12, 2, 0, 0, [], 12, 0), (.invokevirtual 56, 3, 1, 0, [(10, 120)], 0, 0), (.ireturn, 1, 0, 0, [], 0, 0)] := ⟨trivial, ⟨trivial, ⟨lk_180, ⟨trivial, trivial⟩⟩⟩⟩
set_option maxRecDepth 100000 in
set_option maxHeartbeats 4000000 in
theorem n_X11_forgeCopy_4 : en_lkC "EvenSteps" false [(.iconst 0, 1, 0, 0, [], 0, 0), (.istore_n 3, 1, 3, 0, [], 0, 0), (.iconst 1, 1, 0, 0, [], 1, 0), (.istore 4, 2, 4, 0, [], 0, 0)] := ⟨trivial, ⟨trivial, ⟨trivial, ⟨trivial, trivial⟩⟩⟩⟩
set_option maxRecDepth 100000 in
set_option maxHeartbeats 4000000 in
theorem n_X11_forgeCopy_5 : en_lkC "EvenSteps" false [(.iload 4, 2, 4, 0, [], 0, 0), (.iload_n 2, 1, 2, 0, [], 0, 0), (.if_icmp .gt 19, 3, 6, 0, [], 0, 0), (.iload_n 3, 1, 3, 0, [], 0, 0), (.aload_n 1, 1, 1, 0, [], 0, 0), (.getfield 353, 3, 0, 2, [(5, 0)], 0, 0), (.iload 4, 2, 4, 0, [], 0, 0), (.iaload, 1, 0, 0, [], 0, 0), (.iadd, 1, 0, 0, [], 0, 0), (.istore_n 3, 1, 3, 0, [], 0, 0), (.iinc 4 1, 3, 4, 0, [], 1, 0), (.goto (-19), 3, 5, 0, [], 0, 0)] := ⟨trivial, ⟨trivial, ⟨trivial, ⟨trivial, ⟨trivial, ⟨lk_293, ⟨trivial, ⟨trivial, ⟨trivial, ⟨trivial, ⟨trivial, ⟨trivial, trivial⟩⟩⟩⟩⟩⟩⟩⟩⟩⟩⟩⟩
set_option maxRecDepth 100000 in
set_option maxHeartbeats 4000000 in
theorem n_X11_forgeCopy_6 : en_lkC "EvenSteps" false [(.aload_n 0, 1, 0, 0, [], 0, 0), (.iload_n 3, 1, 3, 0, [], 0, 0), (.invokevirtual 77, 3, 1, 0, [(10, 121)], 0, 0), (.ireturn, 1, 0, 0, [], 0, 0)] := ⟨trivial, ⟨trivial, ⟨lk_189, ⟨trivial, trivial⟩⟩⟩⟩
set_option maxRecDepth 100000 in
set_option maxHeartbeats 4000000 in
theorem n_X11_forgeCopy : en_lkM (⟨"EvenSteps", "forgeCopy", "(LEvenSteps$Sheet;I)I"⟩, prog_1_method_57_code, 5, (some .int), p_X11_forgeCopy) := (List.forall_mem_cons.mpr ⟨n_X11_forgeCopy_0, (List.forall_mem_cons.mpr ⟨n_X11_forgeCopy_1, (List.forall_mem_cons.mpr ⟨n_X11_forgeCopy_2, (List.forall_mem_cons.mpr ⟨n_X11_forgeCopy_3, (List.forall_mem_cons.mpr ⟨n_X11_forgeCopy_4, (List.forall_mem_cons.mpr ⟨n_X11_forgeCopy_5, (List.forall_mem_cons.mpr ⟨n_X11_forgeCopy_6, (fun _ h => absurd h List.not_mem_nil)⟩)⟩)⟩)⟩)⟩)⟩)⟩)
set_option maxRecDepth 100000 in
set_option maxHeartbeats 4000000 in
theorem k_X11_forgePut : en_ckM (⟨"EvenSteps", "forgePut", "(LEvenSteps$Row;)I"⟩, prog_1_method_58_code, 2, (some .int), p_X11_forgePut) = true := by decide +kernel
set_option maxRecDepth 100000 in
set_option maxHeartbeats 4000000 in
theorem n_X11_forgePut_0 : en_lkC "EvenSteps" false [(.aload_n 1, 1, 1, 0, [], 0, 0), (.ifnonnull 9, 3, 1, 0, [], 0, 0), (.aload_n 0, 1, 0, 0, [], 0, 0), (.iconst 0, 1, 0, 0, [], 0, 0), (.invokevirtual 77, 3, 1, 0, [(10, 121)], 0, 0), (.ireturn, 1, 0, 0, [], 0, 0)] := ⟨trivial, ⟨trivial, ⟨trivial, ⟨trivial, ⟨lk_189, ⟨trivial, trivial⟩⟩⟩⟩⟩⟩
set_option maxRecDepth 100000 in
set_option maxHeartbeats 4000000 in
theorem n_X11_forgePut_1 : en_lkC "EvenSteps" false [(.aload_n 1, 1, 1, 0, [], 0, 0), (.instanceof 113, 3, 0, 0, [(1, 0), (2, 1), (3, 1), (4, 1), (8, 0)], 0, 0), (.ifCond .eq 14, 3, 2, 0, [], 0, 0), (.aload_n 0, 1, 0, 0, [], 0, 0), (.aload_n 1, 1, 1, 0, [], 0, 0), (.invokevirtual 213, 3, 0, 0, [(1, 8), (2, 16), (3, 22), (4, 26), (8, 56)], 0, 0), (.invokevirtual 77, 3, 1, 0, [(10, 121)], 0, 0), (.goto 9, 3, 3, 0, [], 0, 0)] := ⟨trivial, ⟨⟨"EvenSteps$Even", wd_419, lk_216⟩, ⟨trivial, ⟨trivial, ⟨trivial, ⟨lk_240, ⟨lk_189, ⟨trivial, trivial⟩⟩⟩⟩⟩⟩⟩⟩
set_option maxRecDepth 100000 in
set_option maxHeartbeats 4000000 in
theorem n_X11_forgePut_2 : en_lkC "EvenSteps" false [(.aload_n 0, 1, 0, 0, [], 0, 0), (.bipush 14, 2, 0, 0, [], 14, 0), (.invokevirtual 56, 3, 1, 0, [(10, 120)], 0, 0)] := ⟨trivial, ⟨trivial, ⟨lk_180, trivial⟩⟩⟩
set_option maxRecDepth 100000 in
set_option maxHeartbeats 4000000 in
theorem n_X11_forgePut_3 : en_lkC "EvenSteps" false [(.ireturn, 1, 0, 0, [], 0, 0)] := ⟨trivial, trivial⟩
set_option maxRecDepth 100000 in
set_option maxHeartbeats 4000000 in
theorem n_X11_forgePut : en_lkM (⟨"EvenSteps", "forgePut", "(LEvenSteps$Row;)I"⟩, prog_1_method_58_code, 2, (some .int), p_X11_forgePut) := (List.forall_mem_cons.mpr ⟨n_X11_forgePut_0, (List.forall_mem_cons.mpr ⟨n_X11_forgePut_1, (List.forall_mem_cons.mpr ⟨n_X11_forgePut_2, (List.forall_mem_cons.mpr ⟨n_X11_forgePut_3, (fun _ h => absurd h List.not_mem_nil)⟩)⟩)⟩)⟩)
set_option maxRecDepth 100000 in
set_option maxHeartbeats 4000000 in
theorem k_X11_status : en_ckM (⟨"EvenSteps", "status", "()I"⟩, prog_1_method_59_code, 1, (some .int), p_X11_status) = true := by decide +kernel
set_option maxRecDepth 100000 in
set_option maxHeartbeats 4000000 in
theorem n_X11_status_0 : en_lkC "EvenSteps" false [(.aload_n 0, 1, 0, 0, [], 0, 0), (.getfield 372, 3, 10, 0, [(10, 0)], 0, 0), (.ireturn, 1, 0, 0, [], 0, 0)] := ⟨trivial, ⟨lk_301, ⟨trivial, trivial⟩⟩⟩
set_option maxRecDepth 100000 in
set_option maxHeartbeats 4000000 in
theorem n_X11_status : en_lkM (⟨"EvenSteps", "status", "()I"⟩, prog_1_method_59_code, 1, (some .int), p_X11_status) := (List.forall_mem_cons.mpr ⟨n_X11_status_0, (fun _ h => absurd h List.not_mem_nil)⟩)
set_option maxRecDepth 100000 in
set_option maxHeartbeats 4000000 in
theorem k_X11_refuse : en_ckM (⟨"EvenSteps", "refuse", "(I)I"⟩, prog_1_method_60_code, 2, (some .int), p_X11_refuse) = true := by decide +kernel
set_option maxRecDepth 100000 in
set_option maxHeartbeats 4000000 in
theorem n_X11_refuse_0 : en_lkC "EvenSteps" false [(.aload_n 0, 1, 0, 0, [], 0, 0), (.iload_n 1, 1, 1, 0, [], 0, 0), (.putfield 372, 3, 10, 0, [(10, 0)], 0, 0), (.iconst (-1), 1, 0, 0, [], (-1), 0), (.ireturn, 1, 0, 0, [], 0, 0)] := ⟨trivial, ⟨trivial, ⟨lk_302, ⟨trivial, ⟨trivial, trivial⟩⟩⟩⟩⟩
set_option maxRecDepth 100000 in
set_option maxHeartbeats 4000000 in
theorem n_X11_refuse : en_lkM (⟨"EvenSteps", "refuse", "(I)I"⟩, prog_1_method_60_code, 2, (some .int), p_X11_refuse) := (List.forall_mem_cons.mpr ⟨n_X11_refuse_0, (fun _ h => absurd h List.not_mem_nil)⟩)
set_option maxRecDepth 100000 in
set_option maxHeartbeats 4000000 in
theorem k_X11_done : en_ckM (⟨"EvenSteps", "done", "(I)I"⟩, prog_1_method_61_code, 2, (some .int), p_X11_done) = true := by decide +kernel
set_option maxRecDepth 100000 in
set_option maxHeartbeats 4000000 in
theorem n_X11_done_0 : en_lkC "EvenSteps" false [(.aload_n 0, 1, 0, 0, [], 0, 0), (.iconst 0, 1, 0, 0, [], 0, 0), (.putfield 372, 3, 10, 0, [(10, 0)], 0, 0), (.iload_n 1, 1, 1, 0, [], 0, 0), (.ireturn, 1, 0, 0, [], 0, 0)] := ⟨trivial, ⟨trivial, ⟨lk_302, ⟨trivial, ⟨trivial, trivial⟩⟩⟩⟩⟩
set_option maxRecDepth 100000 in
set_option maxHeartbeats 4000000 in
theorem n_X11_done : en_lkM (⟨"EvenSteps", "done", "(I)I"⟩, prog_1_method_61_code, 2, (some .int), p_X11_done) := (List.forall_mem_cons.mpr ⟨n_X11_done_0, (fun _ h => absurd h List.not_mem_nil)⟩)
set_option maxRecDepth 100000 in
set_option maxHeartbeats 4000000 in
theorem k_X11_keep : en_ckM (⟨"EvenSteps", "keep", "(LEvenSteps$Row;)I"⟩, prog_1_method_62_code, 2, (some .int), p_X11_keep) = true := by decide +kernel
set_option maxRecDepth 100000 in
set_option maxHeartbeats 4000000 in
theorem n_X11_keep_0 : en_lkC "EvenSteps" false [(.aload_n 1, 1, 1, 0, [], 0, 0), (.iconst 0, 1, 0, 0, [], 0, 0), (.aload_n 1, 1, 1, 0, [], 0, 0), (.iconst 1, 1, 0, 0, [], 1, 0), (.invokevirtual 216, 3, 1, 0, [(1, 9), (2, 17), (3, 17), (4, 17), (8, 57)], 0, 0), (.invokestatic 188, 3, 2, 0, [(0, 217)], 0, 0), (.putfield 375, 3, 1, 0, [(1, 0), (2, 0), (3, 0), (4, 0), (8, 0)], 0, 0), (.aload_n 0, 1, 0, 0, [], 0, 0), (.getfield 17, 3, 1, 2, [(10, 0)], 0, 0), (.aload_n 0, 1, 0, 0, [], 0, 0), (.getfield 80, 3, 9, 0, [(10, 0)], 0, 0), (.aload_n 1, 1, 1, 0, [], 0, 0), (.aastore, 1, 0, 0, [], 0, 0), (.aload_n 0, 1, 0, 0, [], 0, 0), (.dup, 1, 0, 0, [], 0, 0), (.getfield 80, 3, 9, 0, [(10, 0)], 0, 0), (.iconst 1, 1, 0, 0, [], 1, 0), (.iadd, 1, 0, 0, [], 0, 0), (.putfield 80, 3, 9, 0, [(10, 0)], 0, 0), (.aload_n 0, 1, 0, 0, [], 0, 0), (.aload_n 1, 1, 1, 0, [], 0, 0), (.getfield 378, 3, 0, 0, [(1, 0), (2, 0), (3, 0), (4, 0), (8, 0)], 0, 0), (.invokevirtual 77, 3, 1, 0, [(10, 121)], 0, 0), (.ireturn, 1, 0, 0, [], 0, 0)] := ⟨trivial, ⟨trivial, ⟨trivial, ⟨trivial, ⟨lk_241, ⟨lk_232, ⟨lk_303, ⟨trivial, ⟨lk_214, ⟨trivial, ⟨lk_190, ⟨trivial, ⟨trivial, ⟨trivial, ⟨trivial, ⟨lk_190, ⟨trivial, ⟨trivial, ⟨lk_213, ⟨trivial, ⟨trivial, ⟨lk_304, ⟨lk_189, ⟨trivial, trivial⟩⟩⟩⟩⟩⟩⟩⟩⟩⟩⟩⟩⟩⟩⟩⟩⟩⟩⟩⟩⟩⟩⟩⟩
set_option maxRecDepth 100000 in
set_option maxHeartbeats 4000000 in
theorem n_X11_keep : en_lkM (⟨"EvenSteps", "keep", "(LEvenSteps$Row;)I"⟩, prog_1_method_62_code, 2, (some .int), p_X11_keep) := (List.forall_mem_cons.mpr ⟨n_X11_keep_0, (fun _ h => absurd h List.not_mem_nil)⟩)
set_option maxRecDepth 100000 in
set_option maxHeartbeats 4000000 in
theorem k_X11_slopeAt : en_ckM (⟨"EvenSteps", "slopeAt", "(I)LEvenSteps$Slope;"⟩, prog_1_method_63_code, 2, (some (.object "EvenSteps$Slope")), p_X11_slopeAt) = true := by decide +kernel
set_option maxRecDepth 100000 in
set_option maxHeartbeats 4000000 in
theorem n_X11_slopeAt_0 : en_lkC "EvenSteps" false [(.iload_n 1, 1, 1, 0, [], 0, 0), (.ifCond .lt 11, 3, 1, 0, [], 0, 0), (.iload_n 1, 1, 1, 0, [], 0, 0), (.aload_n 0, 1, 0, 0, [], 0, 0), (.getfield 64, 3, 8, 0, [(10, 0)], 0, 0), (.if_icmp .lt 7, 3, 2, 0, [], 0, 0)] := ⟨trivial, ⟨trivial, ⟨trivial, ⟨trivial, ⟨lk_182, ⟨trivial, trivial⟩⟩⟩⟩⟩⟩
set_option maxRecDepth 100000 in
set_option maxHeartbeats 4000000 in
theorem n_X11_slopeAt_1 : en_lkC "EvenSteps" false [(.aconst_null, 1, 0, 0, [], 0, 0), (.goto 9, 3, 3, 0, [], 0, 0)] := ⟨trivial, ⟨trivial, trivial⟩⟩
set_option maxRecDepth 100000 in
set_option maxHeartbeats 4000000 in
theorem n_X11_slopeAt_2 : en_lkC "EvenSteps" false [(.aload_n 0, 1, 0, 0, [], 0, 0), (.getfield 11, 3, 0, 2, [(10, 0)], 0, 0), (.iload_n 1, 1, 1, 0, [], 0, 0), (.aaload, 1, 0, 0, [], 0, 0)] := ⟨trivial, ⟨lk_185, ⟨trivial, ⟨trivial, trivial⟩⟩⟩⟩
set_option maxRecDepth 100000 in
set_option maxHeartbeats 4000000 in
theorem n_X11_slopeAt_3 : en_lkC "EvenSteps" false [(.areturn, 1, 0, 0, [], 0, 0)] := ⟨trivial, trivial⟩
set_option maxRecDepth 100000 in
set_option maxHeartbeats 4000000 in
theorem n_X11_slopeAt : en_lkM (⟨"EvenSteps", "slopeAt", "(I)LEvenSteps$Slope;"⟩, prog_1_method_63_code, 2, (some (.object "EvenSteps$Slope")), p_X11_slopeAt) := (List.forall_mem_cons.mpr ⟨n_X11_slopeAt_0, (List.forall_mem_cons.mpr ⟨n_X11_slopeAt_1, (List.forall_mem_cons.mpr ⟨n_X11_slopeAt_2, (List.forall_mem_cons.mpr ⟨n_X11_slopeAt_3, (fun _ h => absurd h List.not_mem_nil)⟩)⟩)⟩)⟩)
set_option maxRecDepth 100000 in
set_option maxHeartbeats 4000000 in
theorem k_X11_rowAt : en_ckM (⟨"EvenSteps", "rowAt", "(I)LEvenSteps$Row;"⟩, prog_1_method_64_code, 2, (some (.object "EvenSteps$Row")), p_X11_rowAt) = true := by decide +kernel
set_option maxRecDepth 100000 in
set_option maxHeartbeats 4000000 in
theorem n_X11_rowAt_0 : en_lkC "EvenSteps" false [(.iload_n 1, 1, 1, 0, [], 0, 0), (.ifCond .lt 11, 3, 1, 0, [], 0, 0), (.iload_n 1, 1, 1, 0, [], 0, 0), (.aload_n 0, 1, 0, 0, [], 0, 0), (.getfield 80, 3, 9, 0, [(10, 0)], 0, 0), (.if_icmp .lt 7, 3, 2, 0, [], 0, 0)] := ⟨trivial, ⟨trivial, ⟨trivial, ⟨trivial, ⟨lk_190, ⟨trivial, trivial⟩⟩⟩⟩⟩⟩
set_option maxRecDepth 100000 in
set_option maxHeartbeats 4000000 in
theorem n_X11_rowAt_1 : en_lkC "EvenSteps" false [(.aconst_null, 1, 0, 0, [], 0, 0), (.goto 9, 3, 3, 0, [], 0, 0)] := ⟨trivial, ⟨trivial, trivial⟩⟩
set_option maxRecDepth 100000 in
set_option maxHeartbeats 4000000 in
theorem n_X11_rowAt_2 : en_lkC "EvenSteps" false [(.aload_n 0, 1, 0, 0, [], 0, 0), (.getfield 17, 3, 1, 2, [(10, 0)], 0, 0), (.iload_n 1, 1, 1, 0, [], 0, 0), (.aaload, 1, 0, 0, [], 0, 0)] := ⟨trivial, ⟨lk_214, ⟨trivial, ⟨trivial, trivial⟩⟩⟩⟩
set_option maxRecDepth 100000 in
set_option maxHeartbeats 4000000 in
theorem n_X11_rowAt_3 : en_lkC "EvenSteps" false [(.areturn, 1, 0, 0, [], 0, 0)] := ⟨trivial, trivial⟩
set_option maxRecDepth 100000 in
set_option maxHeartbeats 4000000 in
theorem n_X11_rowAt : en_lkM (⟨"EvenSteps", "rowAt", "(I)LEvenSteps$Row;"⟩, prog_1_method_64_code, 2, (some (.object "EvenSteps$Row")), p_X11_rowAt) := (List.forall_mem_cons.mpr ⟨n_X11_rowAt_0, (List.forall_mem_cons.mpr ⟨n_X11_rowAt_1, (List.forall_mem_cons.mpr ⟨n_X11_rowAt_2, (List.forall_mem_cons.mpr ⟨n_X11_rowAt_3, (fun _ h => absurd h List.not_mem_nil)⟩)⟩)⟩)⟩)
set_option maxRecDepth 100000 in
set_option maxHeartbeats 4000000 in
theorem k_X11_isBits : en_ckM (⟨"EvenSteps", "isBits", "(II)Z"⟩, prog_1_method_65_code, 2, (some .boolean), p_X11_isBits) = true := by decide +kernel
set_option maxRecDepth 100000 in
set_option maxHeartbeats 4000000 in
theorem n_X11_isBits_0 : en_lkC "EvenSteps" false [(.iload_n 1, 1, 1, 0, [], 0, 0), (.iconst 1, 1, 0, 0, [], 1, 0), (.if_icmp .lt 24, 3, 1, 0, [], 0, 0), (.iload_n 1, 1, 1, 0, [], 0, 0), (.bipush 6, 2, 0, 0, [], 6, 0), (.if_icmp .gt 18, 3, 1, 0, [], 0, 0), (.iload_n 0, 1, 0, 0, [], 0, 0), (.ifCond .lt 14, 3, 1, 0, [], 0, 0), (.iload_n 0, 1, 0, 0, [], 0, 0), (.iconst 1, 1, 0, 0, [], 1, 0), (.iload_n 1, 1, 1, 0, [], 0, 0), (.ishl, 1, 0, 0, [], 0, 0), (.if_icmp .ge 7, 3, 1, 0, [], 0, 0), (.iconst 1, 1, 0, 0, [], 1, 0), (.goto 4, 3, 2, 0, [], 0, 0)] := ⟨trivial, ⟨trivial, ⟨trivial, ⟨trivial, ⟨trivial, ⟨trivial, ⟨trivial, ⟨trivial, ⟨trivial, ⟨trivial, ⟨trivial, ⟨trivial, ⟨trivial, ⟨trivial, ⟨trivial, trivial⟩⟩⟩⟩⟩⟩⟩⟩⟩⟩⟩⟩⟩⟩⟩
set_option maxRecDepth 100000 in
set_option maxHeartbeats 4000000 in
theorem n_X11_isBits_1 : en_lkC "EvenSteps" false [(.iconst 0, 1, 0, 0, [], 0, 0)] := ⟨trivial, trivial⟩
set_option maxRecDepth 100000 in
set_option maxHeartbeats 4000000 in
theorem n_X11_isBits_2 : en_lkC "EvenSteps" false [(.ireturn, 1, 0, 3, [], 0, 0)] := ⟨trivial, trivial⟩
set_option maxRecDepth 100000 in
set_option maxHeartbeats 4000000 in
theorem n_X11_isBits : en_lkM (⟨"EvenSteps", "isBits", "(II)Z"⟩, prog_1_method_65_code, 2, (some .boolean), p_X11_isBits) := (List.forall_mem_cons.mpr ⟨n_X11_isBits_0, (List.forall_mem_cons.mpr ⟨n_X11_isBits_1, (List.forall_mem_cons.mpr ⟨n_X11_isBits_2, (fun _ h => absurd h List.not_mem_nil)⟩)⟩)⟩)
set_option maxRecDepth 100000 in
set_option maxHeartbeats 4000000 in
theorem k_X11_isSquare : en_ckM (⟨"EvenSteps", "isSquare", "(I)Z"⟩, prog_1_method_66_code, 3, (some .boolean), p_X11_isSquare) = true := by decide +kernel
set_option maxRecDepth 100000 in
set_option maxHeartbeats 4000000 in
theorem n_X11_isSquare_0 : en_lkC "EvenSteps" false [(.iload_n 0, 1, 0, 0, [], 0, 0), (.i2l, 1, 0, 0, [], 0, 0), (.invokestatic 329, 3, 1, 1, [(0, 127)], 0, 0), (.lstore_n 1, 1, 1, 0, [], 0, 0), (.lload_n 1, 1, 1, 0, [], 0, 0), (.lload_n 1, 1, 1, 0, [], 0, 0), (.lmul, 1, 0, 0, [], 0, 0), (.iload_n 0, 1, 0, 0, [], 0, 0), (.i2l, 1, 0, 0, [], 0, 0), (.lcmp, 1, 0, 0, [], 0, 0), (.ifCond .ne 7, 3, 1, 0, [], 0, 0), (.iconst 1, 1, 0, 0, [], 1, 0), (.goto 4, 3, 2, 0, [], 0, 0)] := ⟨trivial, ⟨trivial, ⟨lk_285, ⟨trivial, ⟨trivial, ⟨trivial, ⟨trivial, ⟨trivial, ⟨trivial, ⟨trivial, ⟨trivial, ⟨trivial, ⟨trivial, trivial⟩⟩⟩⟩⟩⟩⟩⟩⟩⟩⟩⟩⟩
set_option maxRecDepth 100000 in
set_option maxHeartbeats 4000000 in
theorem n_X11_isSquare_1 : en_lkC "EvenSteps" false [(.iconst 0, 1, 0, 0, [], 0, 0)] := ⟨trivial, trivial⟩
set_option maxRecDepth 100000 in
set_option maxHeartbeats 4000000 in
theorem n_X11_isSquare_2 : en_lkC "EvenSteps" false [(.ireturn, 1, 0, 3, [], 0, 0)] := ⟨trivial, trivial⟩
set_option maxRecDepth 100000 in
set_option maxHeartbeats 4000000 in
theorem n_X11_isSquare : en_lkM (⟨"EvenSteps", "isSquare", "(I)Z"⟩, prog_1_method_66_code, 3, (some .boolean), p_X11_isSquare) := (List.forall_mem_cons.mpr ⟨n_X11_isSquare_0, (List.forall_mem_cons.mpr ⟨n_X11_isSquare_1, (List.forall_mem_cons.mpr ⟨n_X11_isSquare_2, (fun _ h => absurd h List.not_mem_nil)⟩)⟩)⟩)
set_option maxRecDepth 100000 in
set_option maxHeartbeats 4000000 in
theorem k_X11_rootOf : en_ckM (⟨"EvenSteps", "rootOf", "(J)J"⟩, prog_1_method_67_code, 7, (some .long), p_X11_rootOf) = true := by decide +kernel
set_option maxRecDepth 100000 in
set_option maxHeartbeats 4000000 in
theorem n_X11_rootOf_0 : en_lkC "EvenSteps" false [(.lload_n 0, 1, 0, 0, [], 0, 0), (.lconst 1, 1, 0, 0, [], 0, 1), (.lcmp, 1, 0, 0, [], 0, 0), (.ifCond .ge 5, 3, 1, 0, [], 0, 0), (.lconst 0, 1, 0, 0, [], 0, 0), (.lreturn, 1, 0, 0, [], 0, 0)] := ⟨trivial, ⟨trivial, ⟨trivial, ⟨trivial, ⟨trivial, ⟨trivial, trivial⟩⟩⟩⟩⟩⟩
set_option maxRecDepth 100000 in
set_option maxHeartbeats 4000000 in
theorem n_X11_rootOf_1 : en_lkC "EvenSteps" false [(.lconst 1, 1, 0, 0, [], 0, 1), (.bipush 65, 2, 0, 0, [], 65, 0), (.lload_n 0, 1, 0, 0, [], 0, 0), (.invokestatic 381, 3, 1, 0, [(0, 209)], 0, 0), (.isub, 1, 0, 0, [], 0, 0), (.iconst 2, 1, 0, 0, [], 2, 0), (.idiv, 1, 0, 0, [], 0, 0), (.lshl, 1, 0, 0, [], 0, 0), (.lstore_n 2, 1, 2, 0, [], 0, 0), (.iconst 0, 1, 0, 0, [], 0, 0), (.istore 4, 2, 4, 0, [], 0, 0)] := ⟨trivial, ⟨trivial, ⟨trivial, ⟨lk_305, ⟨trivial, ⟨trivial, ⟨trivial, ⟨trivial, ⟨trivial, ⟨trivial, ⟨trivial, trivial⟩⟩⟩⟩⟩⟩⟩⟩⟩⟩⟩
set_option maxRecDepth 100000 in
set_option maxHeartbeats 4000000 in
theorem n_X11_rootOf_2 : en_lkC "EvenSteps" false [(.iload 4, 2, 4, 0, [], 0, 0), (.bipush 64, 2, 0, 0, [], 64, 0), (.if_icmp .ge 39, 3, 5, 0, [], 0, 0), (.lload_n 2, 1, 2, 0, [], 0, 0), (.lload_n 0, 1, 0, 0, [], 0, 0), (.lload_n 2, 1, 2, 0, [], 0, 0), (.ldiv, 1, 0, 0, [], 0, 0), (.ladd, 1, 0, 0, [], 0, 0), (.ldc2_w 207, 3, 0, 0, [], 0, 2), (.ldiv, 1, 0, 0, [], 0, 0), (.lstore 5, 2, 5, 0, [], 0, 0), (.lload 5, 2, 5, 0, [], 0, 0), (.lload_n 2, 1, 2, 0, [], 0, 0), (.lcmp, 1, 0, 0, [], 0, 0), (.ifCond .ge 10, 3, 3, 0, [], 0, 0), (.lload 5, 2, 5, 0, [], 0, 0), (.lconst 1, 1, 0, 0, [], 0, 1), (.lcmp, 1, 0, 0, [], 0, 0), (.ifCond .ge 5, 3, 4, 0, [], 0, 0)] := ⟨trivial, ⟨trivial, ⟨trivial, ⟨trivial, ⟨trivial, ⟨trivial, ⟨trivial, ⟨trivial, ⟨wd_265, ⟨trivial, ⟨trivial, ⟨trivial, ⟨trivial, ⟨trivial, ⟨trivial, ⟨trivial, ⟨trivial, ⟨trivial, ⟨trivial, trivial⟩⟩⟩⟩⟩⟩⟩⟩⟩⟩⟩⟩⟩⟩⟩⟩⟩⟩⟩
set_option maxRecDepth 100000 in
set_option maxHeartbeats 4000000 in
theorem n_X11_rootOf_3 : en_lkC "EvenSteps" false [(.lload_n 2, 1, 2, 0, [], 0, 0), (.lreturn, 1, 0, 0, [], 0, 0)] := ⟨trivial, ⟨trivial, trivial⟩⟩
set_option maxRecDepth 100000 in
set_option maxHeartbeats 4000000 in
theorem n_X11_rootOf_4 : en_lkC "EvenSteps" false [(.lload 5, 2, 5, 0, [], 0, 0), (.lstore_n 2, 1, 2, 0, [], 0, 0), (.iinc 4 1, 3, 4, 0, [], 1, 0), (.goto (-40), 3, 2, 0, [], 0, 0)] := ⟨trivial, ⟨trivial, ⟨trivial, ⟨trivial, trivial⟩⟩⟩⟩
set_option maxRecDepth 100000 in
set_option maxHeartbeats 4000000 in
theorem n_X11_rootOf_5 : en_lkC "EvenSteps" false [(.lload_n 2, 1, 2, 0, [], 0, 0), (.lreturn, 1, 0, 0, [], 0, 0)] := ⟨trivial, ⟨trivial, trivial⟩⟩
set_option maxRecDepth 100000 in
set_option maxHeartbeats 4000000 in
theorem n_X11_rootOf : en_lkM (⟨"EvenSteps", "rootOf", "(J)J"⟩, prog_1_method_67_code, 7, (some .long), p_X11_rootOf) := (List.forall_mem_cons.mpr ⟨n_X11_rootOf_0, (List.forall_mem_cons.mpr ⟨n_X11_rootOf_1, (List.forall_mem_cons.mpr ⟨n_X11_rootOf_2, (List.forall_mem_cons.mpr ⟨n_X11_rootOf_3, (List.forall_mem_cons.mpr ⟨n_X11_rootOf_4, (List.forall_mem_cons.mpr ⟨n_X11_rootOf_5, (fun _ h => absurd h List.not_mem_nil)⟩)⟩)⟩)⟩)⟩)⟩)
set_option maxRecDepth 100000 in
set_option maxHeartbeats 4000000 in
theorem k_X11_signOf : en_ckM (⟨"EvenSteps", "signOf", "(JJJ)I"⟩, prog_1_method_68_code, 10, (some .int), p_X11_signOf) = true := by decide +kernel
set_option maxRecDepth 100000 in
set_option maxHeartbeats 4000000 in
theorem n_X11_signOf_0 : en_lkC "EvenSteps" false [(.lload_n 0, 1, 0, 0, [], 0, 0), (.lconst 0, 1, 0, 0, [], 0, 0), (.lcmp, 1, 0, 0, [], 0, 0), (.ifCond .le 7, 3, 1, 0, [], 0, 0), (.iconst 1, 1, 0, 0, [], 1, 0), (.goto 14, 3, 3, 0, [], 0, 0)] := ⟨trivial, ⟨trivial, ⟨trivial, ⟨trivial, ⟨trivial, ⟨trivial, trivial⟩⟩⟩⟩⟩⟩
set_option maxRecDepth 100000 in
set_option maxHeartbeats 4000000 in
theorem n_X11_signOf_1 : en_lkC "EvenSteps" false [(.lload_n 0, 1, 0, 0, [], 0, 0), (.lconst 0, 1, 0, 0, [], 0, 0), (.lcmp, 1, 0, 0, [], 0, 0), (.ifCond .ge 7, 3, 2, 0, [], 0, 0), (.iconst (-1), 1, 0, 0, [], (-1), 0), (.goto 4, 3, 3, 0, [], 0, 0)] := ⟨trivial, ⟨trivial, ⟨trivial, ⟨trivial, ⟨trivial, ⟨trivial, trivial⟩⟩⟩⟩⟩⟩
