/-! the words of the tables. Written by wip/whole/lnk.py. -/
set_option maxRecDepth 100000 in
set_option maxHeartbeats 4000000 in
theorem wd_161 : Cond.methodLink "EvenSteps$Circle" 3 ⟨"java/lang/Object", "<init>", "()V"⟩ ∈ en_tb := en_tbi (List.mem_of_getElem? (i := 161) (by decide +kernel)) (by decide +kernel)
set_option maxRecDepth 100000 in
set_option maxHeartbeats 4000000 in
theorem wd_85 : Cond.instanceMethod ⟨"java/lang/Object", "<init>", "()V"⟩ ∈ en_tb := en_tbi (List.mem_of_getElem? (i := 85) (by decide +kernel)) (by decide +kernel)
set_option maxRecDepth 100000 in
set_option maxHeartbeats 4000000 in
theorem wd_86 : Cond.code objectInit ⟨#[0xb1]⟩ 1 none ∈ en_tb := en_tbi (List.mem_of_getElem? (i := 86) (by decide +kernel)) (by decide +kernel)
set_option maxRecDepth 100000 in
set_option maxHeartbeats 4000000 in
theorem wd_108 : Cond.arrayClass .int ∈ en_tb := en_tbi (List.mem_of_getElem? (i := 108) (by decide +kernel)) (by decide +kernel)
set_option maxRecDepth 100000 in
set_option maxHeartbeats 4000000 in
theorem wd_162 : Cond.fieldLink "EvenSteps$Circle" 9 "EvenSteps$Circle" "next" "[I" ∈ en_tb := en_tbi (List.mem_of_getElem? (i := 162) (by decide +kernel)) (by decide +kernel)
set_option maxRecDepth 100000 in
set_option maxHeartbeats 4000000 in
theorem wd_164 : Cond.fieldLink "EvenSteps$Circle" 15 "EvenSteps$Circle" "counts" "[I" ∈ en_tb := en_tbi (List.mem_of_getElem? (i := 164) (by decide +kernel)) (by decide +kernel)
set_option maxRecDepth 100000 in
set_option maxHeartbeats 4000000 in
theorem wd_166 : Cond.fieldLink "EvenSteps$Circle" 18 "EvenSteps$Circle" "wholes" "[I" ∈ en_tb := en_tbi (List.mem_of_getElem? (i := 166) (by decide +kernel)) (by decide +kernel)
set_option maxRecDepth 100000 in
set_option maxHeartbeats 4000000 in
theorem wd_168 : Cond.fieldLink "EvenSteps$Circle" 21 "EvenSteps$Circle" "times" "[I" ∈ en_tb := en_tbi (List.mem_of_getElem? (i := 168) (by decide +kernel)) (by decide +kernel)
set_option maxRecDepth 100000 in
set_option maxHeartbeats 4000000 in
theorem wd_172 : Cond.fieldLink "EvenSteps$Circle" 24 "EvenSteps$Circle" "order" "[I" ∈ en_tb := en_tbi (List.mem_of_getElem? (i := 172) (by decide +kernel)) (by decide +kernel)
set_option maxRecDepth 100000 in
set_option maxHeartbeats 4000000 in
theorem wd_173 : Cond.fieldLink "EvenSteps$Circle" 27 "EvenSteps$Circle" "turns" "[I" ∈ en_tb := en_tbi (List.mem_of_getElem? (i := 173) (by decide +kernel)) (by decide +kernel)
set_option maxRecDepth 100000 in
set_option maxHeartbeats 4000000 in
theorem wd_174 : Cond.fieldLink "EvenSteps$Circle" 30 "EvenSteps$Circle" "slope" "LEvenSteps$Slope;" ∈ en_tb := en_tbi (List.mem_of_getElem? (i := 174) (by decide +kernel)) (by decide +kernel)
set_option maxRecDepth 100000 in
set_option maxHeartbeats 4000000 in
theorem wd_399 : Cond.code ⟨"EvenSteps$Slope", "wholeOf", "(JJJ)J"⟩ prog_9_method_6_code 15 (some .long) ∈ en_tb := en_tbi (List.mem_of_getElem? (i := 399) (by decide +kernel)) (by decide +kernel)
set_option maxRecDepth 100000 in
set_option maxHeartbeats 4000000 in
theorem wd_71 : Cond.initialized "EvenSteps$Slope" ∈ en_tb := en_tbi (List.mem_of_getElem? (i := 71) (by decide +kernel)) (by decide +kernel)
set_option maxRecDepth 100000 in
set_option maxHeartbeats 4000000 in
theorem wd_746 : Cond.methodLink "EvenSteps$Circle" 34 ⟨"EvenSteps$Slope", "wholeOf", "(JJJ)J"⟩ ∈ en_tb := en_tbi (List.mem_of_getElem? (i := 746) (by decide +kernel)) (by decide +kernel)
set_option maxRecDepth 100000 in
set_option maxHeartbeats 4000000 in
theorem wd_398 : Cond.selects "EvenSteps$Slope" ⟨"EvenSteps$Slope", "wholeOf", "(JJJ)J"⟩ ⟨"EvenSteps$Slope", "wholeOf", "(JJJ)J"⟩ ∈ en_tb := en_tbi (List.mem_of_getElem? (i := 398) (by decide +kernel)) (by decide +kernel)
set_option maxRecDepth 100000 in
set_option maxHeartbeats 4000000 in
theorem wd_397 : Cond.instanceMethod ⟨"EvenSteps$Slope", "wholeOf", "(JJJ)J"⟩ ∈ en_tb := en_tbi (List.mem_of_getElem? (i := 397) (by decide +kernel)) (by decide +kernel)
set_option maxRecDepth 100000 in
set_option maxHeartbeats 4000000 in
theorem wd_750 : Cond.code ⟨"EvenSteps$Circle", "place", "(I)V"⟩ prog_2_method_3_code 3 none ∈ en_tb := en_tbi (List.mem_of_getElem? (i := 750) (by decide +kernel)) (by decide +kernel)
set_option maxRecDepth 100000 in
set_option maxHeartbeats 4000000 in
theorem wd_66 : Cond.initialized "EvenSteps$Circle" ∈ en_tb := en_tbi (List.mem_of_getElem? (i := 66) (by decide +kernel)) (by decide +kernel)
set_option maxRecDepth 100000 in
set_option maxHeartbeats 4000000 in
theorem wd_747 : Cond.methodLink "EvenSteps$Circle" 40 ⟨"EvenSteps$Circle", "place", "(I)V"⟩ ∈ en_tb := en_tbi (List.mem_of_getElem? (i := 747) (by decide +kernel)) (by decide +kernel)
set_option maxRecDepth 100000 in
set_option maxHeartbeats 4000000 in
theorem wd_19 : Cond.selects "EvenSteps$Circle" ⟨"EvenSteps$Circle", "place", "(I)V"⟩ ⟨"EvenSteps$Circle", "place", "(I)V"⟩ ∈ en_tb := en_tbi (List.mem_of_getElem? (i := 19) (by decide +kernel)) (by decide +kernel)
set_option maxRecDepth 100000 in
set_option maxHeartbeats 4000000 in
theorem wd_749 : Cond.instanceMethod ⟨"EvenSteps$Circle", "place", "(I)V"⟩ ∈ en_tb := en_tbi (List.mem_of_getElem? (i := 749) (by decide +kernel)) (by decide +kernel)
set_option maxRecDepth 100000 in
set_option maxHeartbeats 4000000 in
theorem wd_170 : Cond.fieldLink "EvenSteps$Circle" 44 "EvenSteps$Circle" "sorts" "I" ∈ en_tb := en_tbi (List.mem_of_getElem? (i := 170) (by decide +kernel)) (by decide +kernel)
set_option maxRecDepth 100000 in
set_option maxHeartbeats 4000000 in
theorem wd_759 : Cond.code ⟨"EvenSteps$Circle", "addGap", "(II)V"⟩ prog_2_method_5_code 4 none ∈ en_tb := en_tbi (List.mem_of_getElem? (i := 759) (by decide +kernel)) (by decide +kernel)
set_option maxRecDepth 100000 in
set_option maxHeartbeats 4000000 in
theorem wd_756 : Cond.methodLink "EvenSteps$Circle" 48 ⟨"EvenSteps$Circle", "addGap", "(II)V"⟩ ∈ en_tb := en_tbi (List.mem_of_getElem? (i := 756) (by decide +kernel)) (by decide +kernel)
set_option maxRecDepth 100000 in
set_option maxHeartbeats 4000000 in
theorem wd_21 : Cond.selects "EvenSteps$Circle" ⟨"EvenSteps$Circle", "addGap", "(II)V"⟩ ⟨"EvenSteps$Circle", "addGap", "(II)V"⟩ ∈ en_tb := en_tbi (List.mem_of_getElem? (i := 21) (by decide +kernel)) (by decide +kernel)
set_option maxRecDepth 100000 in
set_option maxHeartbeats 4000000 in
theorem wd_758 : Cond.instanceMethod ⟨"EvenSteps$Circle", "addGap", "(II)V"⟩ ∈ en_tb := en_tbi (List.mem_of_getElem? (i := 758) (by decide +kernel)) (by decide +kernel)
set_option maxRecDepth 100000 in
set_option maxHeartbeats 4000000 in
theorem wd_754 : Cond.code ⟨"EvenSteps$Circle", "isAhead", "(II)Z"⟩ prog_2_method_4_code 3 (some .boolean) ∈ en_tb := en_tbi (List.mem_of_getElem? (i := 754) (by decide +kernel)) (by decide +kernel)
set_option maxRecDepth 100000 in
set_option maxHeartbeats 4000000 in
theorem wd_751 : Cond.methodLink "EvenSteps$Circle" 52 ⟨"EvenSteps$Circle", "isAhead", "(II)Z"⟩ ∈ en_tb := en_tbi (List.mem_of_getElem? (i := 751) (by decide +kernel)) (by decide +kernel)
set_option maxRecDepth 100000 in
set_option maxHeartbeats 4000000 in
theorem wd_20 : Cond.selects "EvenSteps$Circle" ⟨"EvenSteps$Circle", "isAhead", "(II)Z"⟩ ⟨"EvenSteps$Circle", "isAhead", "(II)Z"⟩ ∈ en_tb := en_tbi (List.mem_of_getElem? (i := 20) (by decide +kernel)) (by decide +kernel)
set_option maxRecDepth 100000 in
set_option maxHeartbeats 4000000 in
theorem wd_753 : Cond.instanceMethod ⟨"EvenSteps$Circle", "isAhead", "(II)Z"⟩ ∈ en_tb := en_tbi (List.mem_of_getElem? (i := 753) (by decide +kernel)) (by decide +kernel)
set_option maxRecDepth 100000 in
set_option maxHeartbeats 4000000 in
theorem wd_562 : Cond.code ⟨"EvenSteps$Slope", "signOfSum", "(JJ)I"⟩ prog_9_method_7_code 5 (some .int) ∈ en_tb := en_tbi (List.mem_of_getElem? (i := 562) (by decide +kernel)) (by decide +kernel)
set_option maxRecDepth 100000 in
set_option maxHeartbeats 4000000 in
theorem wd_755 : Cond.methodLink "EvenSteps$Circle" 56 ⟨"EvenSteps$Slope", "signOfSum", "(JJ)I"⟩ ∈ en_tb := en_tbi (List.mem_of_getElem? (i := 755) (by decide +kernel)) (by decide +kernel)
set_option maxRecDepth 100000 in
set_option maxHeartbeats 4000000 in
theorem wd_561 : Cond.selects "EvenSteps$Slope" ⟨"EvenSteps$Slope", "signOfSum", "(JJ)I"⟩ ⟨"EvenSteps$Slope", "signOfSum", "(JJ)I"⟩ ∈ en_tb := en_tbi (List.mem_of_getElem? (i := 561) (by decide +kernel)) (by decide +kernel)
set_option maxRecDepth 100000 in
set_option maxHeartbeats 4000000 in
theorem wd_560 : Cond.instanceMethod ⟨"EvenSteps$Slope", "signOfSum", "(JJ)I"⟩ ∈ en_tb := en_tbi (List.mem_of_getElem? (i := 560) (by decide +kernel)) (by decide +kernel)
set_option maxRecDepth 100000 in
set_option maxHeartbeats 4000000 in
theorem wd_763 : Cond.code ⟨"EvenSteps$Circle", "signBeside", "(III)I"⟩ prog_2_method_6_code 4 (some .int) ∈ en_tb := en_tbi (List.mem_of_getElem? (i := 763) (by decide +kernel)) (by decide +kernel)
set_option maxRecDepth 100000 in
set_option maxHeartbeats 4000000 in
theorem wd_760 : Cond.methodLink "EvenSteps$Circle" 60 ⟨"EvenSteps$Circle", "signBeside", "(III)I"⟩ ∈ en_tb := en_tbi (List.mem_of_getElem? (i := 760) (by decide +kernel)) (by decide +kernel)
set_option maxRecDepth 100000 in
set_option maxHeartbeats 4000000 in
theorem wd_22 : Cond.selects "EvenSteps$Circle" ⟨"EvenSteps$Circle", "signBeside", "(III)I"⟩ ⟨"EvenSteps$Circle", "signBeside", "(III)I"⟩ ∈ en_tb := en_tbi (List.mem_of_getElem? (i := 22) (by decide +kernel)) (by decide +kernel)
set_option maxRecDepth 100000 in
set_option maxHeartbeats 4000000 in
theorem wd_762 : Cond.instanceMethod ⟨"EvenSteps$Circle", "signBeside", "(III)I"⟩ ∈ en_tb := en_tbi (List.mem_of_getElem? (i := 762) (by decide +kernel)) (by decide +kernel)
set_option maxRecDepth 100000 in
set_option maxHeartbeats 4000000 in
theorem wd_767 : Cond.code ⟨"EvenSteps$Circle", "insertSort", "(III)V"⟩ prog_2_method_7_code 5 none ∈ en_tb := en_tbi (List.mem_of_getElem? (i := 767) (by decide +kernel)) (by decide +kernel)
set_option maxRecDepth 100000 in
set_option maxHeartbeats 4000000 in
theorem wd_764 : Cond.methodLink "EvenSteps$Circle" 64 ⟨"EvenSteps$Circle", "insertSort", "(III)V"⟩ ∈ en_tb := en_tbi (List.mem_of_getElem? (i := 764) (by decide +kernel)) (by decide +kernel)
set_option maxRecDepth 100000 in
set_option maxHeartbeats 4000000 in
theorem wd_23 : Cond.selects "EvenSteps$Circle" ⟨"EvenSteps$Circle", "insertSort", "(III)V"⟩ ⟨"EvenSteps$Circle", "insertSort", "(III)V"⟩ ∈ en_tb := en_tbi (List.mem_of_getElem? (i := 23) (by decide +kernel)) (by decide +kernel)
set_option maxRecDepth 100000 in
set_option maxHeartbeats 4000000 in
theorem wd_766 : Cond.instanceMethod ⟨"EvenSteps$Circle", "insertSort", "(III)V"⟩ ∈ en_tb := en_tbi (List.mem_of_getElem? (i := 766) (by decide +kernel)) (by decide +kernel)
set_option maxRecDepth 100000 in
set_option maxHeartbeats 4000000 in
theorem wd_362 : Cond.code ⟨"EvenSteps$Row", "<init>", "(I)V"⟩ prog_7_method_1_code 2 none ∈ en_tb := en_tbi (List.mem_of_getElem? (i := 362) (by decide +kernel)) (by decide +kernel)
set_option maxRecDepth 100000 in
set_option maxHeartbeats 4000000 in
theorem wd_73 : Cond.initialized "EvenSteps$Row" ∈ en_tb := en_tbi (List.mem_of_getElem? (i := 73) (by decide +kernel)) (by decide +kernel)
set_option maxRecDepth 100000 in
set_option maxHeartbeats 4000000 in
theorem wd_361 : Cond.instanceMethod ⟨"EvenSteps$Row", "<init>", "(I)V"⟩ ∈ en_tb := en_tbi (List.mem_of_getElem? (i := 361) (by decide +kernel)) (by decide +kernel)
set_option maxRecDepth 100000 in
set_option maxHeartbeats 4000000 in
theorem wd_478 : Cond.methodLink "EvenSteps$Cut" 3 ⟨"EvenSteps$Row", "<init>", "(I)V"⟩ ∈ en_tb := en_tbi (List.mem_of_getElem? (i := 478) (by decide +kernel)) (by decide +kernel)
set_option maxRecDepth 100000 in
set_option maxHeartbeats 4000000 in
theorem wd_509 : Cond.arrayClass .long ∈ en_tb := en_tbi (List.mem_of_getElem? (i := 509) (by decide +kernel)) (by decide +kernel)
set_option maxRecDepth 100000 in
set_option maxHeartbeats 4000000 in
theorem wd_484 : Cond.fieldLink "EvenSteps$Cut" 9 "EvenSteps$Cut" "steps" "[J" ∈ en_tb := en_tbi (List.mem_of_getElem? (i := 484) (by decide +kernel)) (by decide +kernel)
set_option maxRecDepth 100000 in
set_option maxHeartbeats 4000000 in
theorem wd_479 : Cond.fieldLink "EvenSteps$Cut" 15 "EvenSteps$Cut" "source" "LEvenSteps$Row;" ∈ en_tb := en_tbi (List.mem_of_getElem? (i := 479) (by decide +kernel)) (by decide +kernel)
set_option maxRecDepth 100000 in
set_option maxHeartbeats 4000000 in
theorem wd_480 : Cond.fieldLink "EvenSteps$Cut" 19 "EvenSteps$Cut" "zero" "I" ∈ en_tb := en_tbi (List.mem_of_getElem? (i := 480) (by decide +kernel)) (by decide +kernel)
set_option maxRecDepth 100000 in
set_option maxHeartbeats 4000000 in
theorem wd_481 : Cond.fieldLink "EvenSteps$Cut" 23 "EvenSteps$Cut" "zeros" "I" ∈ en_tb := en_tbi (List.mem_of_getElem? (i := 481) (by decide +kernel)) (by decide +kernel)
set_option maxRecDepth 100000 in
set_option maxHeartbeats 4000000 in
theorem wd_482 : Cond.fieldLink "EvenSteps$Cut" 26 "EvenSteps$Cut" "one" "I" ∈ en_tb := en_tbi (List.mem_of_getElem? (i := 482) (by decide +kernel)) (by decide +kernel)
set_option maxRecDepth 100000 in
set_option maxHeartbeats 4000000 in
theorem wd_483 : Cond.fieldLink "EvenSteps$Cut" 29 "EvenSteps$Cut" "ones" "I" ∈ en_tb := en_tbi (List.mem_of_getElem? (i := 483) (by decide +kernel)) (by decide +kernel)
set_option maxRecDepth 100000 in
set_option maxHeartbeats 4000000 in
theorem wd_392 : Cond.code ⟨"EvenSteps$Cut", "learn", "(I)V"⟩ prog_3_method_5_code 4 none ∈ en_tb := en_tbi (List.mem_of_getElem? (i := 392) (by decide +kernel)) (by decide +kernel)
set_option maxRecDepth 100000 in
set_option maxHeartbeats 4000000 in
theorem wd_77 : Cond.initialized "EvenSteps$Cut" ∈ en_tb := en_tbi (List.mem_of_getElem? (i := 77) (by decide +kernel)) (by decide +kernel)
set_option maxRecDepth 100000 in
set_option maxHeartbeats 4000000 in
theorem wd_388 : Cond.methodLink "EvenSteps$Cut" 32 ⟨"EvenSteps$Cut", "learn", "(I)V"⟩ ∈ en_tb := en_tbi (List.mem_of_getElem? (i := 388) (by decide +kernel)) (by decide +kernel)
set_option maxRecDepth 100000 in
set_option maxHeartbeats 4000000 in
theorem wd_3 : Cond.selects "EvenSteps$Cut" ⟨"EvenSteps$Cut", "learn", "(I)V"⟩ ⟨"EvenSteps$Cut", "learn", "(I)V"⟩ ∈ en_tb := en_tbi (List.mem_of_getElem? (i := 3) (by decide +kernel)) (by decide +kernel)
set_option maxRecDepth 100000 in
set_option maxHeartbeats 4000000 in
theorem wd_390 : Cond.instanceMethod ⟨"EvenSteps$Cut", "learn", "(I)V"⟩ ∈ en_tb := en_tbi (List.mem_of_getElem? (i := 390) (by decide +kernel)) (by decide +kernel)
set_option maxRecDepth 100000 in
set_option maxHeartbeats 4000000 in
theorem wd_485 : Cond.fieldLink "EvenSteps$Cut" 35 "EvenSteps$Cut" "known" "I" ∈ en_tb := en_tbi (List.mem_of_getElem? (i := 485) (by decide +kernel)) (by decide +kernel)
set_option maxRecDepth 100000 in
set_option maxHeartbeats 4000000 in
theorem wd_649 : Cond.code ⟨"java/lang/Long", "bitCount", "(J)I"⟩ prog_16_method_50_code 2 (some .int) ∈ en_tb := en_tbi (List.mem_of_getElem? (i := 649) (by decide +kernel)) (by decide +kernel)
set_option maxRecDepth 100000 in
set_option maxHeartbeats 4000000 in
theorem wd_69 : Cond.initialized "java/lang/Long" ∈ en_tb := en_tbi (List.mem_of_getElem? (i := 69) (by decide +kernel)) (by decide +kernel)
set_option maxRecDepth 100000 in
set_option maxHeartbeats 4000000 in
theorem wd_648 : Cond.static ⟨"java/lang/Long", "bitCount", "(J)I"⟩ ∈ en_tb := en_tbi (List.mem_of_getElem? (i := 648) (by decide +kernel)) (by decide +kernel)
set_option maxRecDepth 100000 in
set_option maxHeartbeats 4000000 in
theorem wd_647 : Cond.methodLink "EvenSteps$Cut" 38 ⟨"java/lang/Long", "bitCount", "(J)I"⟩ ∈ en_tb := en_tbi (List.mem_of_getElem? (i := 647) (by decide +kernel)) (by decide +kernel)
set_option maxRecDepth 100000 in
set_option maxHeartbeats 4000000 in
theorem wd_487 : Cond.fieldLink "EvenSteps$Cut" 44 "EvenSteps$Cut" "ended" "Z" ∈ en_tb := en_tbi (List.mem_of_getElem? (i := 487) (by decide +kernel)) (by decide +kernel)
set_option maxRecDepth 100000 in
set_option maxHeartbeats 4000000 in
theorem wd_486 : Cond.fieldLink "EvenSteps$Cut" 48 "EvenSteps$Cut" "taken" "I" ∈ en_tb := en_tbi (List.mem_of_getElem? (i := 486) (by decide +kernel)) (by decide +kernel)
set_option maxRecDepth 100000 in
set_option maxHeartbeats 4000000 in
theorem wd_384 : Cond.sameMethod "EvenSteps$Row" "EvenSteps$Row" "stepAt" "(I)I" ∈ en_tb := en_tbi (List.mem_of_getElem? (i := 384) (by decide +kernel)) (by decide +kernel)
set_option maxRecDepth 100000 in
set_option maxHeartbeats 4000000 in
theorem wd_387 : Cond.code ⟨"EvenSteps$Cut", "stepAt", "(I)I"⟩ prog_3_method_3_code 2 (some .int) ∈ en_tb := en_tbi (List.mem_of_getElem? (i := 387) (by decide +kernel)) (by decide +kernel)
set_option maxRecDepth 100000 in
set_option maxHeartbeats 4000000 in
theorem wd_393 : Cond.methodLink "EvenSteps$Cut" 51 ⟨"EvenSteps$Row", "stepAt", "(I)I"⟩ ∈ en_tb := en_tbi (List.mem_of_getElem? (i := 393) (by decide +kernel)) (by decide +kernel)
set_option maxRecDepth 100000 in
set_option maxHeartbeats 4000000 in
theorem wd_385 : Cond.selects "EvenSteps$Cut" ⟨"EvenSteps$Row", "stepAt", "(I)I"⟩ ⟨"EvenSteps$Cut", "stepAt", "(I)I"⟩ ∈ en_tb := en_tbi (List.mem_of_getElem? (i := 385) (by decide +kernel)) (by decide +kernel)
set_option maxRecDepth 100000 in
set_option maxHeartbeats 4000000 in
theorem wd_386 : Cond.instanceMethod ⟨"EvenSteps$Cut", "stepAt", "(I)I"⟩ ∈ en_tb := en_tbi (List.mem_of_getElem? (i := 386) (by decide +kernel)) (by decide +kernel)
set_option maxRecDepth 100000 in
set_option maxHeartbeats 4000000 in
theorem wd_395 : Cond.code ⟨"EvenSteps$Even", "stepAt", "(I)I"⟩ prog_4_method_3_code 2 (some .int) ∈ en_tb := en_tbi (List.mem_of_getElem? (i := 395) (by decide +kernel)) (by decide +kernel)
set_option maxRecDepth 100000 in
set_option maxHeartbeats 4000000 in
theorem wd_75 : Cond.initialized "EvenSteps$Even" ∈ en_tb := en_tbi (List.mem_of_getElem? (i := 75) (by decide +kernel)) (by decide +kernel)
set_option maxRecDepth 100000 in
set_option maxHeartbeats 4000000 in
theorem wd_406 : Cond.selects "EvenSteps$Even" ⟨"EvenSteps$Row", "stepAt", "(I)I"⟩ ⟨"EvenSteps$Even", "stepAt", "(I)I"⟩ ∈ en_tb := en_tbi (List.mem_of_getElem? (i := 406) (by decide +kernel)) (by decide +kernel)
set_option maxRecDepth 100000 in
set_option maxHeartbeats 4000000 in
theorem wd_394 : Cond.instanceMethod ⟨"EvenSteps$Even", "stepAt", "(I)I"⟩ ∈ en_tb := en_tbi (List.mem_of_getElem? (i := 394) (by decide +kernel)) (by decide +kernel)
set_option maxRecDepth 100000 in
set_option maxHeartbeats 4000000 in
theorem wd_407 : Cond.selects "EvenSteps$Points" ⟨"EvenSteps$Row", "stepAt", "(I)I"⟩ ⟨"EvenSteps$Even", "stepAt", "(I)I"⟩ ∈ en_tb := en_tbi (List.mem_of_getElem? (i := 407) (by decide +kernel)) (by decide +kernel)
set_option maxRecDepth 100000 in
set_option maxHeartbeats 4000000 in
theorem wd_408 : Cond.selects "EvenSteps$Ring" ⟨"EvenSteps$Row", "stepAt", "(I)I"⟩ ⟨"EvenSteps$Even", "stepAt", "(I)I"⟩ ∈ en_tb := en_tbi (List.mem_of_getElem? (i := 408) (by decide +kernel)) (by decide +kernel)
set_option maxRecDepth 100000 in
set_option maxHeartbeats 4000000 in
theorem wd_401 : Cond.code ⟨"EvenSteps$Told", "stepAt", "(I)I"⟩ prog_11_method_3_code 2 (some .int) ∈ en_tb := en_tbi (List.mem_of_getElem? (i := 401) (by decide +kernel)) (by decide +kernel)
set_option maxRecDepth 100000 in
set_option maxHeartbeats 4000000 in
theorem wd_74 : Cond.initialized "EvenSteps$Told" ∈ en_tb := en_tbi (List.mem_of_getElem? (i := 74) (by decide +kernel)) (by decide +kernel)
set_option maxRecDepth 100000 in
set_option maxHeartbeats 4000000 in
theorem wd_409 : Cond.selects "EvenSteps$Told" ⟨"EvenSteps$Row", "stepAt", "(I)I"⟩ ⟨"EvenSteps$Told", "stepAt", "(I)I"⟩ ∈ en_tb := en_tbi (List.mem_of_getElem? (i := 409) (by decide +kernel)) (by decide +kernel)
set_option maxRecDepth 100000 in
set_option maxHeartbeats 4000000 in
theorem wd_400 : Cond.instanceMethod ⟨"EvenSteps$Told", "stepAt", "(I)I"⟩ ∈ en_tb := en_tbi (List.mem_of_getElem? (i := 400) (by decide +kernel)) (by decide +kernel)
set_option maxRecDepth 100000 in
set_option maxHeartbeats 4000000 in
theorem wd_405 : Cond.code ⟨"EvenSteps$Cut", "put", "(II)V"⟩ prog_3_method_6_code 4 none ∈ en_tb := en_tbi (List.mem_of_getElem? (i := 405) (by decide +kernel)) (by decide +kernel)
set_option maxRecDepth 100000 in
set_option maxHeartbeats 4000000 in
theorem wd_402 : Cond.methodLink "EvenSteps$Cut" 55 ⟨"EvenSteps$Cut", "put", "(II)V"⟩ ∈ en_tb := en_tbi (List.mem_of_getElem? (i := 402) (by decide +kernel)) (by decide +kernel)
set_option maxRecDepth 100000 in
set_option maxHeartbeats 4000000 in
theorem wd_4 : Cond.selects "EvenSteps$Cut" ⟨"EvenSteps$Cut", "put", "(II)V"⟩ ⟨"EvenSteps$Cut", "put", "(II)V"⟩ ∈ en_tb := en_tbi (List.mem_of_getElem? (i := 4) (by decide +kernel)) (by decide +kernel)
set_option maxRecDepth 100000 in
set_option maxHeartbeats 4000000 in
theorem wd_404 : Cond.instanceMethod ⟨"EvenSteps$Cut", "put", "(II)V"⟩ ∈ en_tb := en_tbi (List.mem_of_getElem? (i := 404) (by decide +kernel)) (by decide +kernel)
set_option maxRecDepth 100000 in
set_option maxHeartbeats 4000000 in
theorem wd_826 : Cond.code ⟨"EvenSteps$Trace", "add", "(I)V"⟩ prog_12_method_2_code 2 none ∈ en_tb := en_tbi (List.mem_of_getElem? (i := 826) (by decide +kernel)) (by decide +kernel)
set_option maxRecDepth 100000 in
set_option maxHeartbeats 4000000 in
theorem wd_64 : Cond.initialized "EvenSteps$Trace" ∈ en_tb := en_tbi (List.mem_of_getElem? (i := 64) (by decide +kernel)) (by decide +kernel)
set_option maxRecDepth 100000 in
set_option maxHeartbeats 4000000 in
theorem wd_823 : Cond.methodLink "EvenSteps$Cut" 59 ⟨"EvenSteps$Trace", "add", "(I)V"⟩ ∈ en_tb := en_tbi (List.mem_of_getElem? (i := 823) (by decide +kernel)) (by decide +kernel)
set_option maxRecDepth 100000 in
set_option maxHeartbeats 4000000 in
theorem wd_825 : Cond.selects "EvenSteps$Trace" ⟨"EvenSteps$Trace", "add", "(I)V"⟩ ⟨"EvenSteps$Trace", "add", "(I)V"⟩ ∈ en_tb := en_tbi (List.mem_of_getElem? (i := 825) (by decide +kernel)) (by decide +kernel)
set_option maxRecDepth 100000 in
set_option maxHeartbeats 4000000 in
theorem wd_824 : Cond.instanceMethod ⟨"EvenSteps$Trace", "add", "(I)V"⟩ ∈ en_tb := en_tbi (List.mem_of_getElem? (i := 824) (by decide +kernel)) (by decide +kernel)
set_option maxRecDepth 100000 in
set_option maxHeartbeats 4000000 in
theorem wd_369 : Cond.sameField "EvenSteps$Cut" "EvenSteps$Row" "second" "I" ∈ en_tb := en_tbi (List.mem_of_getElem? (i := 369) (by decide +kernel)) (by decide +kernel)
set_option maxRecDepth 100000 in
set_option maxHeartbeats 4000000 in
theorem wd_368 : Cond.fieldLink "EvenSteps$Cut" 64 "EvenSteps$Cut" "second" "I" ∈ en_tb := en_tbi (List.mem_of_getElem? (i := 368) (by decide +kernel)) (by decide +kernel)
set_option maxRecDepth 100000 in
set_option maxHeartbeats 4000000 in
theorem wd_836 : Cond.code ⟨"EvenSteps$Row", "doGo", "(ILEvenSteps$Trace;)I"⟩ prog_7_method_5_code 3 (some .int) ∈ en_tb := en_tbi (List.mem_of_getElem? (i := 836) (by decide +kernel)) (by decide +kernel)
set_option maxRecDepth 100000 in
set_option maxHeartbeats 4000000 in
theorem wd_818 : Cond.instanceMethod ⟨"EvenSteps$Row", "doGo", "(ILEvenSteps$Trace;)I"⟩ ∈ en_tb := en_tbi (List.mem_of_getElem? (i := 818) (by decide +kernel)) (by decide +kernel)
set_option maxRecDepth 100000 in
set_option maxHeartbeats 4000000 in
theorem wd_827 : Cond.methodLink "EvenSteps$Cut" 67 ⟨"EvenSteps$Row", "doGo", "(ILEvenSteps$Trace;)I"⟩ ∈ en_tb := en_tbi (List.mem_of_getElem? (i := 827) (by decide +kernel)) (by decide +kernel)
set_option maxRecDepth 100000 in
set_option maxHeartbeats 4000000 in
theorem wd_819 : Cond.sameMethod "EvenSteps$Row" "EvenSteps$Row" "doGo" "(ILEvenSteps$Trace;)I" ∈ en_tb := en_tbi (List.mem_of_getElem? (i := 819) (by decide +kernel)) (by decide +kernel)
set_option maxRecDepth 100000 in
set_option maxHeartbeats 4000000 in
theorem wd_508 : Cond.superclass "EvenSteps$Cut" "EvenSteps$Row" ∈ en_tb := en_tbi (List.mem_of_getElem? (i := 508) (by decide +kernel)) (by decide +kernel)
set_option maxRecDepth 100000 in
set_option maxHeartbeats 4000000 in
theorem wd_876 : Cond.code ⟨"EvenSteps$Row", "doGrow", "(ILEvenSteps$Trace;)I"⟩ prog_7_method_7_code 3 (some .int) ∈ en_tb := en_tbi (List.mem_of_getElem? (i := 876) (by decide +kernel)) (by decide +kernel)
set_option maxRecDepth 100000 in
set_option maxHeartbeats 4000000 in
theorem wd_860 : Cond.instanceMethod ⟨"EvenSteps$Row", "doGrow", "(ILEvenSteps$Trace;)I"⟩ ∈ en_tb := en_tbi (List.mem_of_getElem? (i := 860) (by decide +kernel)) (by decide +kernel)
set_option maxRecDepth 100000 in
set_option maxHeartbeats 4000000 in
theorem wd_865 : Cond.methodLink "EvenSteps$Cut" 71 ⟨"EvenSteps$Row", "doGrow", "(ILEvenSteps$Trace;)I"⟩ ∈ en_tb := en_tbi (List.mem_of_getElem? (i := 865) (by decide +kernel)) (by decide +kernel)
set_option maxRecDepth 100000 in
set_option maxHeartbeats 4000000 in
theorem wd_861 : Cond.sameMethod "EvenSteps$Row" "EvenSteps$Row" "doGrow" "(ILEvenSteps$Trace;)I" ∈ en_tb := en_tbi (List.mem_of_getElem? (i := 861) (by decide +kernel)) (by decide +kernel)
set_option maxRecDepth 100000 in
set_option maxHeartbeats 4000000 in
theorem wd_424 : Cond.methodLink "EvenSteps$Even" 3 ⟨"EvenSteps$Row", "<init>", "(I)V"⟩ ∈ en_tb := en_tbi (List.mem_of_getElem? (i := 424) (by decide +kernel)) (by decide +kernel)
set_option maxRecDepth 100000 in
set_option maxHeartbeats 4000000 in
theorem wd_425 : Cond.fieldLink "EvenSteps$Even" 9 "EvenSteps$Even" "slope" "LEvenSteps$Slope;" ∈ en_tb := en_tbi (List.mem_of_getElem? (i := 425) (by decide +kernel)) (by decide +kernel)
set_option maxRecDepth 100000 in
set_option maxHeartbeats 4000000 in
theorem wd_428 : Cond.fieldLink "EvenSteps$Even" 15 "EvenSteps$Even" "slopeNumber" "I" ∈ en_tb := en_tbi (List.mem_of_getElem? (i := 428) (by decide +kernel)) (by decide +kernel)
set_option maxRecDepth 100000 in
set_option maxHeartbeats 4000000 in
theorem wd_430 : Cond.fieldLink "EvenSteps$Even" 19 "EvenSteps$Even" "u" "I" ∈ en_tb := en_tbi (List.mem_of_getElem? (i := 430) (by decide +kernel)) (by decide +kernel)
set_option maxRecDepth 100000 in
set_option maxHeartbeats 4000000 in
theorem wd_431 : Cond.fieldLink "EvenSteps$Even" 22 "EvenSteps$Even" "v" "I" ∈ en_tb := en_tbi (List.mem_of_getElem? (i := 431) (by decide +kernel)) (by decide +kernel)
set_option maxRecDepth 100000 in
set_option maxHeartbeats 4000000 in
theorem wd_396 : Cond.methodLink "EvenSteps$Even" 25 ⟨"EvenSteps$Slope", "wholeOf", "(JJJ)J"⟩ ∈ en_tb := en_tbi (List.mem_of_getElem? (i := 396) (by decide +kernel)) (by decide +kernel)
set_option maxRecDepth 100000 in
set_option maxHeartbeats 4000000 in
theorem wd_831 : Cond.methodLink "EvenSteps$Even" 31 ⟨"EvenSteps$Trace", "add", "(I)V"⟩ ∈ en_tb := en_tbi (List.mem_of_getElem? (i := 831) (by decide +kernel)) (by decide +kernel)
set_option maxRecDepth 100000 in
set_option maxHeartbeats 4000000 in
theorem wd_832 : Cond.methodLink "EvenSteps$Even" 36 ⟨"EvenSteps$Row", "doGo", "(ILEvenSteps$Trace;)I"⟩ ∈ en_tb := en_tbi (List.mem_of_getElem? (i := 832) (by decide +kernel)) (by decide +kernel)
set_option maxRecDepth 100000 in
set_option maxHeartbeats 4000000 in
theorem wd_442 : Cond.superclass "EvenSteps$Even" "EvenSteps$Row" ∈ en_tb := en_tbi (List.mem_of_getElem? (i := 442) (by decide +kernel)) (by decide +kernel)
set_option maxRecDepth 100000 in
set_option maxHeartbeats 4000000 in
theorem wd_869 : Cond.methodLink "EvenSteps$Even" 40 ⟨"EvenSteps$Row", "doGrow", "(ILEvenSteps$Trace;)I"⟩ ∈ en_tb := en_tbi (List.mem_of_getElem? (i := 869) (by decide +kernel)) (by decide +kernel)
set_option maxRecDepth 100000 in
set_option maxHeartbeats 4000000 in
theorem wd_423 : Cond.code ⟨"EvenSteps$Even", "<init>", "(ILEvenSteps$Slope;III)V"⟩ prog_4_method_1_code 6 none ∈ en_tb := en_tbi (List.mem_of_getElem? (i := 423) (by decide +kernel)) (by decide +kernel)
set_option maxRecDepth 100000 in
set_option maxHeartbeats 4000000 in
theorem wd_422 : Cond.instanceMethod ⟨"EvenSteps$Even", "<init>", "(ILEvenSteps$Slope;III)V"⟩ ∈ en_tb := en_tbi (List.mem_of_getElem? (i := 422) (by decide +kernel)) (by decide +kernel)
set_option maxRecDepth 100000 in
set_option maxHeartbeats 4000000 in
theorem wd_519 : Cond.methodLink "EvenSteps$Points" 1 ⟨"EvenSteps$Even", "<init>", "(ILEvenSteps$Slope;III)V"⟩ ∈ en_tb := en_tbi (List.mem_of_getElem? (i := 519) (by decide +kernel)) (by decide +kernel)
set_option maxRecDepth 100000 in
set_option maxHeartbeats 4000000 in
theorem wd_846 : Cond.methodLink "EvenSteps$Points" 7 ⟨"EvenSteps$Trace", "add", "(I)V"⟩ ∈ en_tb := en_tbi (List.mem_of_getElem? (i := 846) (by decide +kernel)) (by decide +kernel)
set_option maxRecDepth 100000 in
set_option maxHeartbeats 4000000 in
theorem wd_868 : Cond.code ⟨"EvenSteps$Even", "doGrow", "(ILEvenSteps$Trace;)I"⟩ prog_4_method_6_code 3 (some .int) ∈ en_tb := en_tbi (List.mem_of_getElem? (i := 868) (by decide +kernel)) (by decide +kernel)
set_option maxRecDepth 100000 in
set_option maxHeartbeats 4000000 in
theorem wd_867 : Cond.instanceMethod ⟨"EvenSteps$Even", "doGrow", "(ILEvenSteps$Trace;)I"⟩ ∈ en_tb := en_tbi (List.mem_of_getElem? (i := 867) (by decide +kernel)) (by decide +kernel)
set_option maxRecDepth 100000 in
set_option maxHeartbeats 4000000 in
theorem wd_873 : Cond.methodLink "EvenSteps$Points" 13 ⟨"EvenSteps$Even", "doGrow", "(ILEvenSteps$Trace;)I"⟩ ∈ en_tb := en_tbi (List.mem_of_getElem? (i := 873) (by decide +kernel)) (by decide +kernel)
set_option maxRecDepth 100000 in
set_option maxHeartbeats 4000000 in
theorem wd_1360 : Cond.sameMethod "EvenSteps$Even" "EvenSteps$Even" "doGrow" "(ILEvenSteps$Trace;)I" ∈ en_tb := en_tbi (List.mem_of_getElem? (i := 1360) (by decide +kernel)) (by decide +kernel)
set_option maxRecDepth 100000 in
set_option maxHeartbeats 4000000 in
theorem wd_526 : Cond.superclass "EvenSteps$Points" "EvenSteps$Even" ∈ en_tb := en_tbi (List.mem_of_getElem? (i := 526) (by decide +kernel)) (by decide +kernel)
set_option maxRecDepth 100000 in
set_option maxHeartbeats 4000000 in
theorem wd_857 : Cond.code ⟨"EvenSteps$Row", "doGap", "(ILEvenSteps$Trace;)I"⟩ prog_7_method_6_code 3 (some .int) ∈ en_tb := en_tbi (List.mem_of_getElem? (i := 857) (by decide +kernel)) (by decide +kernel)
set_option maxRecDepth 100000 in
set_option maxHeartbeats 4000000 in
theorem wd_839 : Cond.instanceMethod ⟨"EvenSteps$Row", "doGap", "(ILEvenSteps$Trace;)I"⟩ ∈ en_tb := en_tbi (List.mem_of_getElem? (i := 839) (by decide +kernel)) (by decide +kernel)
set_option maxRecDepth 100000 in
set_option maxHeartbeats 4000000 in
theorem wd_847 : Cond.methodLink "EvenSteps$Points" 17 ⟨"EvenSteps$Even", "doGap", "(ILEvenSteps$Trace;)I"⟩ ∈ en_tb := en_tbi (List.mem_of_getElem? (i := 847) (by decide +kernel)) (by decide +kernel)
set_option maxRecDepth 100000 in
set_option maxHeartbeats 4000000 in
theorem wd_848 : Cond.sameMethod "EvenSteps$Even" "EvenSteps$Row" "doGap" "(ILEvenSteps$Trace;)I" ∈ en_tb := en_tbi (List.mem_of_getElem? (i := 848) (by decide +kernel)) (by decide +kernel)
set_option maxRecDepth 100000 in
set_option maxHeartbeats 4000000 in
theorem wd_830 : Cond.code ⟨"EvenSteps$Even", "doGo", "(ILEvenSteps$Trace;)I"⟩ prog_4_method_5_code 3 (some .int) ∈ en_tb := en_tbi (List.mem_of_getElem? (i := 830) (by decide +kernel)) (by decide +kernel)
set_option maxRecDepth 100000 in
set_option maxHeartbeats 4000000 in
theorem wd_829 : Cond.instanceMethod ⟨"EvenSteps$Even", "doGo", "(ILEvenSteps$Trace;)I"⟩ ∈ en_tb := en_tbi (List.mem_of_getElem? (i := 829) (by decide +kernel)) (by decide +kernel)
set_option maxRecDepth 100000 in
set_option maxHeartbeats 4000000 in
theorem wd_850 : Cond.methodLink "EvenSteps$Points" 20 ⟨"EvenSteps$Even", "doGo", "(ILEvenSteps$Trace;)I"⟩ ∈ en_tb := en_tbi (List.mem_of_getElem? (i := 850) (by decide +kernel)) (by decide +kernel)
set_option maxRecDepth 100000 in
set_option maxHeartbeats 4000000 in
theorem wd_1359 : Cond.sameMethod "EvenSteps$Even" "EvenSteps$Even" "doGo" "(ILEvenSteps$Trace;)I" ∈ en_tb := en_tbi (List.mem_of_getElem? (i := 1359) (by decide +kernel)) (by decide +kernel)
set_option maxRecDepth 100000 in
set_option maxHeartbeats 4000000 in
theorem wd_452 : Cond.classLink "EvenSteps$Ring" 3 "EvenSteps$Slope" ∈ en_tb := en_tbi (List.mem_of_getElem? (i := 452) (by decide +kernel)) (by decide +kernel)
set_option maxRecDepth 100000 in
set_option maxHeartbeats 4000000 in
theorem wd_453 : Cond.constantLong "EvenSteps$Ring" 5 2 ∈ en_tb := en_tbi (List.mem_of_getElem? (i := 453) (by decide +kernel)) (by decide +kernel)
set_option maxRecDepth 100000 in
set_option maxHeartbeats 4000000 in
theorem wd_273 : Cond.code ⟨"EvenSteps$Slope", "<init>", "(JJJJ)V"⟩ prog_9_method_1_code 13 none ∈ en_tb := en_tbi (List.mem_of_getElem? (i := 273) (by decide +kernel)) (by decide +kernel)
set_option maxRecDepth 100000 in
set_option maxHeartbeats 4000000 in
theorem wd_272 : Cond.instanceMethod ⟨"EvenSteps$Slope", "<init>", "(JJJJ)V"⟩ ∈ en_tb := en_tbi (List.mem_of_getElem? (i := 272) (by decide +kernel)) (by decide +kernel)
set_option maxRecDepth 100000 in
set_option maxHeartbeats 4000000 in
theorem wd_454 : Cond.methodLink "EvenSteps$Ring" 7 ⟨"EvenSteps$Slope", "<init>", "(JJJJ)V"⟩ ∈ en_tb := en_tbi (List.mem_of_getElem? (i := 454) (by decide +kernel)) (by decide +kernel)
set_option maxRecDepth 100000 in
set_option maxHeartbeats 4000000 in
theorem wd_455 : Cond.methodLink "EvenSteps$Ring" 11 ⟨"EvenSteps$Even", "<init>", "(ILEvenSteps$Slope;III)V"⟩ ∈ en_tb := en_tbi (List.mem_of_getElem? (i := 455) (by decide +kernel)) (by decide +kernel)
set_option maxRecDepth 100000 in
set_option maxHeartbeats 4000000 in
theorem wd_854 : Cond.methodLink "EvenSteps$Ring" 16 ⟨"EvenSteps$Trace", "add", "(I)V"⟩ ∈ en_tb := en_tbi (List.mem_of_getElem? (i := 854) (by decide +kernel)) (by decide +kernel)
set_option maxRecDepth 100000 in
set_option maxHeartbeats 4000000 in
theorem wd_855 : Cond.methodLink "EvenSteps$Ring" 22 ⟨"EvenSteps$Even", "doGap", "(ILEvenSteps$Trace;)I"⟩ ∈ en_tb := en_tbi (List.mem_of_getElem? (i := 855) (by decide +kernel)) (by decide +kernel)
set_option maxRecDepth 100000 in
set_option maxHeartbeats 4000000 in
theorem wd_462 : Cond.superclass "EvenSteps$Ring" "EvenSteps$Even" ∈ en_tb := en_tbi (List.mem_of_getElem? (i := 462) (by decide +kernel)) (by decide +kernel)
set_option maxRecDepth 100000 in
set_option maxHeartbeats 4000000 in
theorem wd_894 : Cond.code ⟨"EvenSteps$Row", "doTell", "(ILEvenSteps$Trace;)I"⟩ prog_7_method_8_code 3 (some .int) ∈ en_tb := en_tbi (List.mem_of_getElem? (i := 894) (by decide +kernel)) (by decide +kernel)
set_option maxRecDepth 100000 in
set_option maxHeartbeats 4000000 in
theorem wd_878 : Cond.instanceMethod ⟨"EvenSteps$Row", "doTell", "(ILEvenSteps$Trace;)I"⟩ ∈ en_tb := en_tbi (List.mem_of_getElem? (i := 878) (by decide +kernel)) (by decide +kernel)
set_option maxRecDepth 100000 in
set_option maxHeartbeats 4000000 in
theorem wd_886 : Cond.methodLink "EvenSteps$Ring" 26 ⟨"EvenSteps$Even", "doTell", "(ILEvenSteps$Trace;)I"⟩ ∈ en_tb := en_tbi (List.mem_of_getElem? (i := 886) (by decide +kernel)) (by decide +kernel)
set_option maxRecDepth 100000 in
set_option maxHeartbeats 4000000 in
theorem wd_887 : Cond.sameMethod "EvenSteps$Even" "EvenSteps$Row" "doTell" "(ILEvenSteps$Trace;)I" ∈ en_tb := en_tbi (List.mem_of_getElem? (i := 887) (by decide +kernel)) (by decide +kernel)
set_option maxRecDepth 100000 in
set_option maxHeartbeats 4000000 in
theorem wd_890 : Cond.sameMethod "EvenSteps$Ring" "EvenSteps$Even" "doGrow" "(ILEvenSteps$Trace;)I" ∈ en_tb := en_tbi (List.mem_of_getElem? (i := 890) (by decide +kernel)) (by decide +kernel)
set_option maxRecDepth 100000 in
set_option maxHeartbeats 4000000 in
theorem wd_889 : Cond.methodLink "EvenSteps$Ring" 29 ⟨"EvenSteps$Ring", "doGrow", "(ILEvenSteps$Trace;)I"⟩ ∈ en_tb := en_tbi (List.mem_of_getElem? (i := 889) (by decide +kernel)) (by decide +kernel)
set_option maxRecDepth 100000 in
set_option maxHeartbeats 4000000 in
theorem wd_892 : Cond.selects "EvenSteps$Ring" ⟨"EvenSteps$Ring", "doGrow", "(ILEvenSteps$Trace;)I"⟩ ⟨"EvenSteps$Even", "doGrow", "(ILEvenSteps$Trace;)I"⟩ ∈ en_tb := en_tbi (List.mem_of_getElem? (i := 892) (by decide +kernel)) (by decide +kernel)
set_option maxRecDepth 100000 in
set_option maxHeartbeats 4000000 in
theorem wd_363 : Cond.methodLink "EvenSteps$Row" 1 ⟨"java/lang/Object", "<init>", "()V"⟩ ∈ en_tb := en_tbi (List.mem_of_getElem? (i := 363) (by decide +kernel)) (by decide +kernel)
set_option maxRecDepth 100000 in
set_option maxHeartbeats 4000000 in
theorem wd_365 : Cond.fieldLink "EvenSteps$Row" 7 "EvenSteps$Row" "number" "I" ∈ en_tb := en_tbi (List.mem_of_getElem? (i := 365) (by decide +kernel)) (by decide +kernel)
set_option maxRecDepth 100000 in
set_option maxHeartbeats 4000000 in
theorem wd_837 : Cond.methodLink "EvenSteps$Row" 13 ⟨"EvenSteps$Trace", "add", "(I)V"⟩ ∈ en_tb := en_tbi (List.mem_of_getElem? (i := 837) (by decide +kernel)) (by decide +kernel)
set_option maxRecDepth 100000 in
set_option maxHeartbeats 4000000 in
theorem wd_367 : Cond.fieldLink "EvenSteps$Row" 19 "EvenSteps$Row" "second" "I" ∈ en_tb := en_tbi (List.mem_of_getElem? (i := 367) (by decide +kernel)) (by decide +kernel)
set_option maxRecDepth 100000 in
set_option maxHeartbeats 4000000 in
theorem wd_822 : Cond.code ⟨"EvenSteps$Cut", "doGo", "(ILEvenSteps$Trace;)I"⟩ prog_3_method_7_code 3 (some .int) ∈ en_tb := en_tbi (List.mem_of_getElem? (i := 822) (by decide +kernel)) (by decide +kernel)
set_option maxRecDepth 100000 in
set_option maxHeartbeats 4000000 in
theorem wd_858 : Cond.methodLink "EvenSteps$Row" 22 ⟨"EvenSteps$Row", "doGo", "(ILEvenSteps$Trace;)I"⟩ ∈ en_tb := en_tbi (List.mem_of_getElem? (i := 858) (by decide +kernel)) (by decide +kernel)
set_option maxRecDepth 100000 in
set_option maxHeartbeats 4000000 in
theorem wd_820 : Cond.selects "EvenSteps$Cut" ⟨"EvenSteps$Row", "doGo", "(ILEvenSteps$Trace;)I"⟩ ⟨"EvenSteps$Cut", "doGo", "(ILEvenSteps$Trace;)I"⟩ ∈ en_tb := en_tbi (List.mem_of_getElem? (i := 820) (by decide +kernel)) (by decide +kernel)
set_option maxRecDepth 100000 in
set_option maxHeartbeats 4000000 in
theorem wd_821 : Cond.instanceMethod ⟨"EvenSteps$Cut", "doGo", "(ILEvenSteps$Trace;)I"⟩ ∈ en_tb := en_tbi (List.mem_of_getElem? (i := 821) (by decide +kernel)) (by decide +kernel)
set_option maxRecDepth 100000 in
set_option maxHeartbeats 4000000 in
theorem wd_828 : Cond.selects "EvenSteps$Even" ⟨"EvenSteps$Row", "doGo", "(ILEvenSteps$Trace;)I"⟩ ⟨"EvenSteps$Even", "doGo", "(ILEvenSteps$Trace;)I"⟩ ∈ en_tb := en_tbi (List.mem_of_getElem? (i := 828) (by decide +kernel)) (by decide +kernel)
set_option maxRecDepth 100000 in
set_option maxHeartbeats 4000000 in
theorem wd_833 : Cond.selects "EvenSteps$Points" ⟨"EvenSteps$Row", "doGo", "(ILEvenSteps$Trace;)I"⟩ ⟨"EvenSteps$Even", "doGo", "(ILEvenSteps$Trace;)I"⟩ ∈ en_tb := en_tbi (List.mem_of_getElem? (i := 833) (by decide +kernel)) (by decide +kernel)
set_option maxRecDepth 100000 in
set_option maxHeartbeats 4000000 in
theorem wd_834 : Cond.selects "EvenSteps$Ring" ⟨"EvenSteps$Row", "doGo", "(ILEvenSteps$Trace;)I"⟩ ⟨"EvenSteps$Even", "doGo", "(ILEvenSteps$Trace;)I"⟩ ∈ en_tb := en_tbi (List.mem_of_getElem? (i := 834) (by decide +kernel)) (by decide +kernel)
set_option maxRecDepth 100000 in
set_option maxHeartbeats 4000000 in
theorem wd_835 : Cond.selects "EvenSteps$Told" ⟨"EvenSteps$Row", "doGo", "(ILEvenSteps$Trace;)I"⟩ ⟨"EvenSteps$Row", "doGo", "(ILEvenSteps$Trace;)I"⟩ ∈ en_tb := en_tbi (List.mem_of_getElem? (i := 835) (by decide +kernel)) (by decide +kernel)
set_option maxRecDepth 100000 in
set_option maxHeartbeats 4000000 in
theorem wd_840 : Cond.sameMethod "EvenSteps$Row" "EvenSteps$Row" "doGap" "(ILEvenSteps$Trace;)I" ∈ en_tb := en_tbi (List.mem_of_getElem? (i := 840) (by decide +kernel)) (by decide +kernel)
set_option maxRecDepth 100000 in
set_option maxHeartbeats 4000000 in
theorem wd_895 : Cond.methodLink "EvenSteps$Row" 26 ⟨"EvenSteps$Row", "doGap", "(ILEvenSteps$Trace;)I"⟩ ∈ en_tb := en_tbi (List.mem_of_getElem? (i := 895) (by decide +kernel)) (by decide +kernel)
set_option maxRecDepth 100000 in
set_option maxHeartbeats 4000000 in
theorem wd_841 : Cond.selects "EvenSteps$Cut" ⟨"EvenSteps$Row", "doGap", "(ILEvenSteps$Trace;)I"⟩ ⟨"EvenSteps$Row", "doGap", "(ILEvenSteps$Trace;)I"⟩ ∈ en_tb := en_tbi (List.mem_of_getElem? (i := 841) (by decide +kernel)) (by decide +kernel)
set_option maxRecDepth 100000 in
set_option maxHeartbeats 4000000 in
theorem wd_842 : Cond.selects "EvenSteps$Even" ⟨"EvenSteps$Row", "doGap", "(ILEvenSteps$Trace;)I"⟩ ⟨"EvenSteps$Row", "doGap", "(ILEvenSteps$Trace;)I"⟩ ∈ en_tb := en_tbi (List.mem_of_getElem? (i := 842) (by decide +kernel)) (by decide +kernel)
set_option maxRecDepth 100000 in
set_option maxHeartbeats 4000000 in
theorem wd_845 : Cond.code ⟨"EvenSteps$Points", "doGap", "(ILEvenSteps$Trace;)I"⟩ prog_5_method_4_code 3 (some .int) ∈ en_tb := en_tbi (List.mem_of_getElem? (i := 845) (by decide +kernel)) (by decide +kernel)
set_option maxRecDepth 100000 in
set_option maxHeartbeats 4000000 in
theorem wd_78 : Cond.initialized "EvenSteps$Points" ∈ en_tb := en_tbi (List.mem_of_getElem? (i := 78) (by decide +kernel)) (by decide +kernel)
set_option maxRecDepth 100000 in
set_option maxHeartbeats 4000000 in
theorem wd_843 : Cond.selects "EvenSteps$Points" ⟨"EvenSteps$Row", "doGap", "(ILEvenSteps$Trace;)I"⟩ ⟨"EvenSteps$Points", "doGap", "(ILEvenSteps$Trace;)I"⟩ ∈ en_tb := en_tbi (List.mem_of_getElem? (i := 843) (by decide +kernel)) (by decide +kernel)
set_option maxRecDepth 100000 in
set_option maxHeartbeats 4000000 in
theorem wd_844 : Cond.instanceMethod ⟨"EvenSteps$Points", "doGap", "(ILEvenSteps$Trace;)I"⟩ ∈ en_tb := en_tbi (List.mem_of_getElem? (i := 844) (by decide +kernel)) (by decide +kernel)
set_option maxRecDepth 100000 in
set_option maxHeartbeats 4000000 in
theorem wd_853 : Cond.code ⟨"EvenSteps$Ring", "doGap", "(ILEvenSteps$Trace;)I"⟩ prog_6_method_3_code 3 (some .int) ∈ en_tb := en_tbi (List.mem_of_getElem? (i := 853) (by decide +kernel)) (by decide +kernel)
set_option maxRecDepth 100000 in
set_option maxHeartbeats 4000000 in
theorem wd_76 : Cond.initialized "EvenSteps$Ring" ∈ en_tb := en_tbi (List.mem_of_getElem? (i := 76) (by decide +kernel)) (by decide +kernel)
set_option maxRecDepth 100000 in
set_option maxHeartbeats 4000000 in
theorem wd_851 : Cond.selects "EvenSteps$Ring" ⟨"EvenSteps$Row", "doGap", "(ILEvenSteps$Trace;)I"⟩ ⟨"EvenSteps$Ring", "doGap", "(ILEvenSteps$Trace;)I"⟩ ∈ en_tb := en_tbi (List.mem_of_getElem? (i := 851) (by decide +kernel)) (by decide +kernel)
set_option maxRecDepth 100000 in
set_option maxHeartbeats 4000000 in
theorem wd_852 : Cond.instanceMethod ⟨"EvenSteps$Ring", "doGap", "(ILEvenSteps$Trace;)I"⟩ ∈ en_tb := en_tbi (List.mem_of_getElem? (i := 852) (by decide +kernel)) (by decide +kernel)
set_option maxRecDepth 100000 in
set_option maxHeartbeats 4000000 in
theorem wd_856 : Cond.selects "EvenSteps$Told" ⟨"EvenSteps$Row", "doGap", "(ILEvenSteps$Trace;)I"⟩ ⟨"EvenSteps$Row", "doGap", "(ILEvenSteps$Trace;)I"⟩ ∈ en_tb := en_tbi (List.mem_of_getElem? (i := 856) (by decide +kernel)) (by decide +kernel)
set_option maxRecDepth 100000 in
set_option maxHeartbeats 4000000 in
theorem wd_864 : Cond.code ⟨"EvenSteps$Cut", "doGrow", "(ILEvenSteps$Trace;)I"⟩ prog_3_method_8_code 3 (some .int) ∈ en_tb := en_tbi (List.mem_of_getElem? (i := 864) (by decide +kernel)) (by decide +kernel)
set_option maxRecDepth 100000 in
set_option maxHeartbeats 4000000 in
theorem wd_896 : Cond.methodLink "EvenSteps$Row" 29 ⟨"EvenSteps$Row", "doGrow", "(ILEvenSteps$Trace;)I"⟩ ∈ en_tb := en_tbi (List.mem_of_getElem? (i := 896) (by decide +kernel)) (by decide +kernel)
set_option maxRecDepth 100000 in
set_option maxHeartbeats 4000000 in
theorem wd_862 : Cond.selects "EvenSteps$Cut" ⟨"EvenSteps$Row", "doGrow", "(ILEvenSteps$Trace;)I"⟩ ⟨"EvenSteps$Cut", "doGrow", "(ILEvenSteps$Trace;)I"⟩ ∈ en_tb := en_tbi (List.mem_of_getElem? (i := 862) (by decide +kernel)) (by decide +kernel)
set_option maxRecDepth 100000 in
set_option maxHeartbeats 4000000 in
theorem wd_863 : Cond.instanceMethod ⟨"EvenSteps$Cut", "doGrow", "(ILEvenSteps$Trace;)I"⟩ ∈ en_tb := en_tbi (List.mem_of_getElem? (i := 863) (by decide +kernel)) (by decide +kernel)
set_option maxRecDepth 100000 in
set_option maxHeartbeats 4000000 in
theorem wd_866 : Cond.selects "EvenSteps$Even" ⟨"EvenSteps$Row", "doGrow", "(ILEvenSteps$Trace;)I"⟩ ⟨"EvenSteps$Even", "doGrow", "(ILEvenSteps$Trace;)I"⟩ ∈ en_tb := en_tbi (List.mem_of_getElem? (i := 866) (by decide +kernel)) (by decide +kernel)
set_option maxRecDepth 100000 in
set_option maxHeartbeats 4000000 in
theorem wd_872 : Cond.code ⟨"EvenSteps$Points", "doGrow", "(ILEvenSteps$Trace;)I"⟩ prog_5_method_3_code 3 (some .int) ∈ en_tb := en_tbi (List.mem_of_getElem? (i := 872) (by decide +kernel)) (by decide +kernel)
set_option maxRecDepth 100000 in
set_option maxHeartbeats 4000000 in
theorem wd_870 : Cond.selects "EvenSteps$Points" ⟨"EvenSteps$Row", "doGrow", "(ILEvenSteps$Trace;)I"⟩ ⟨"EvenSteps$Points", "doGrow", "(ILEvenSteps$Trace;)I"⟩ ∈ en_tb := en_tbi (List.mem_of_getElem? (i := 870) (by decide +kernel)) (by decide +kernel)
set_option maxRecDepth 100000 in
set_option maxHeartbeats 4000000 in
theorem wd_871 : Cond.instanceMethod ⟨"EvenSteps$Points", "doGrow", "(ILEvenSteps$Trace;)I"⟩ ∈ en_tb := en_tbi (List.mem_of_getElem? (i := 871) (by decide +kernel)) (by decide +kernel)
set_option maxRecDepth 100000 in
set_option maxHeartbeats 4000000 in
theorem wd_874 : Cond.selects "EvenSteps$Ring" ⟨"EvenSteps$Row", "doGrow", "(ILEvenSteps$Trace;)I"⟩ ⟨"EvenSteps$Even", "doGrow", "(ILEvenSteps$Trace;)I"⟩ ∈ en_tb := en_tbi (List.mem_of_getElem? (i := 874) (by decide +kernel)) (by decide +kernel)
set_option maxRecDepth 100000 in
set_option maxHeartbeats 4000000 in
theorem wd_875 : Cond.selects "EvenSteps$Told" ⟨"EvenSteps$Row", "doGrow", "(ILEvenSteps$Trace;)I"⟩ ⟨"EvenSteps$Row", "doGrow", "(ILEvenSteps$Trace;)I"⟩ ∈ en_tb := en_tbi (List.mem_of_getElem? (i := 875) (by decide +kernel)) (by decide +kernel)
set_option maxRecDepth 100000 in
set_option maxHeartbeats 4000000 in
theorem wd_196 : Cond.methodLink "EvenSteps$Sheet" 3 ⟨"java/lang/Object", "<init>", "()V"⟩ ∈ en_tb := en_tbi (List.mem_of_getElem? (i := 196) (by decide +kernel)) (by decide +kernel)
set_option maxRecDepth 100000 in
set_option maxHeartbeats 4000000 in
theorem wd_197 : Cond.fieldLink "EvenSteps$Sheet" 9 "EvenSteps$Sheet" "numbers" "[I" ∈ en_tb := en_tbi (List.mem_of_getElem? (i := 197) (by decide +kernel)) (by decide +kernel)
set_option maxRecDepth 100000 in
set_option maxHeartbeats 4000000 in
theorem wd_199 : Cond.fieldLink "EvenSteps$Sheet" 15 "EvenSteps$Sheet" "sort" "I" ∈ en_tb := en_tbi (List.mem_of_getElem? (i := 199) (by decide +kernel)) (by decide +kernel)
set_option maxRecDepth 100000 in
set_option maxHeartbeats 4000000 in
theorem wd_201 : Cond.fieldLink "EvenSteps$Sheet" 19 "EvenSteps$Sheet" "size" "I" ∈ en_tb := en_tbi (List.mem_of_getElem? (i := 201) (by decide +kernel)) (by decide +kernel)
set_option maxRecDepth 100000 in
set_option maxHeartbeats 4000000 in
theorem wd_356 : Cond.code ⟨"java/lang/Math", "max", "(II)I"⟩ prog_17_method_65_code 2 (some .int) ∈ en_tb := en_tbi (List.mem_of_getElem? (i := 356) (by decide +kernel)) (by decide +kernel)
set_option maxRecDepth 100000 in
set_option maxHeartbeats 4000000 in
theorem wd_72 : Cond.initialized "java/lang/Math" ∈ en_tb := en_tbi (List.mem_of_getElem? (i := 72) (by decide +kernel)) (by decide +kernel)
set_option maxRecDepth 100000 in
set_option maxHeartbeats 4000000 in
theorem wd_355 : Cond.static ⟨"java/lang/Math", "max", "(II)I"⟩ ∈ en_tb := en_tbi (List.mem_of_getElem? (i := 355) (by decide +kernel)) (by decide +kernel)
set_option maxRecDepth 100000 in
set_option maxHeartbeats 4000000 in
theorem wd_354 : Cond.methodLink "EvenSteps$Sheet" 22 ⟨"java/lang/Math", "max", "(II)I"⟩ ∈ en_tb := en_tbi (List.mem_of_getElem? (i := 354) (by decide +kernel)) (by decide +kernel)
set_option maxRecDepth 100000 in
set_option maxHeartbeats 4000000 in
theorem wd_274 : Cond.methodLink "EvenSteps$Slope" 3 ⟨"java/lang/Object", "<init>", "()V"⟩ ∈ en_tb := en_tbi (List.mem_of_getElem? (i := 274) (by decide +kernel)) (by decide +kernel)
set_option maxRecDepth 100000 in
set_option maxHeartbeats 4000000 in
theorem wd_303 : Cond.fieldLink "EvenSteps$Slope" 9 "EvenSteps$Slope" "quotients" "[I" ∈ en_tb := en_tbi (List.mem_of_getElem? (i := 303) (by decide +kernel)) (by decide +kernel)
set_option maxRecDepth 100000 in
set_option maxHeartbeats 4000000 in
theorem wd_307 : Cond.fieldLink "EvenSteps$Slope" 15 "EvenSteps$Slope" "lines" "[I" ∈ en_tb := en_tbi (List.mem_of_getElem? (i := 307) (by decide +kernel)) (by decide +kernel)
set_option maxRecDepth 100000 in
set_option maxHeartbeats 4000000 in
theorem wd_277 : Cond.code ⟨"EvenSteps$Slope", "squareIn", "(J)J"⟩ prog_9_method_2_code 4 (some .long) ∈ en_tb := en_tbi (List.mem_of_getElem? (i := 277) (by decide +kernel)) (by decide +kernel)
set_option maxRecDepth 100000 in
set_option maxHeartbeats 4000000 in
theorem wd_276 : Cond.static ⟨"EvenSteps$Slope", "squareIn", "(J)J"⟩ ∈ en_tb := en_tbi (List.mem_of_getElem? (i := 276) (by decide +kernel)) (by decide +kernel)
set_option maxRecDepth 100000 in
set_option maxHeartbeats 4000000 in
theorem wd_275 : Cond.methodLink "EvenSteps$Slope" 18 ⟨"EvenSteps$Slope", "squareIn", "(J)J"⟩ ∈ en_tb := en_tbi (List.mem_of_getElem? (i := 275) (by decide +kernel)) (by decide +kernel)
set_option maxRecDepth 100000 in
set_option maxHeartbeats 4000000 in
theorem wd_281 : Cond.code ⟨"EvenSteps", "commonOf", "(JJ)J"⟩ prog_1_method_69_code 11 (some .long) ∈ en_tb := en_tbi (List.mem_of_getElem? (i := 281) (by decide +kernel)) (by decide +kernel)
set_option maxRecDepth 100000 in
set_option maxHeartbeats 4000000 in
theorem wd_63 : Cond.initialized "EvenSteps" ∈ en_tb := en_tbi (List.mem_of_getElem? (i := 63) (by decide +kernel)) (by decide +kernel)
set_option maxRecDepth 100000 in
set_option maxHeartbeats 4000000 in
theorem wd_280 : Cond.static ⟨"EvenSteps", "commonOf", "(JJ)J"⟩ ∈ en_tb := en_tbi (List.mem_of_getElem? (i := 280) (by decide +kernel)) (by decide +kernel)
set_option maxRecDepth 100000 in
set_option maxHeartbeats 4000000 in
theorem wd_287 : Cond.code ⟨"java/lang/Math", "max", "(JJ)J"⟩ prog_17_method_66_code 4 (some .long) ∈ en_tb := en_tbi (List.mem_of_getElem? (i := 287) (by decide +kernel)) (by decide +kernel)
set_option maxRecDepth 100000 in
set_option maxHeartbeats 4000000 in
theorem wd_286 : Cond.static ⟨"java/lang/Math", "max", "(JJ)J"⟩ ∈ en_tb := en_tbi (List.mem_of_getElem? (i := 286) (by decide +kernel)) (by decide +kernel)
set_option maxRecDepth 100000 in
set_option maxHeartbeats 4000000 in
theorem wd_285 : Cond.methodLink "EvenSteps$Slope" 26 ⟨"java/lang/Math", "max", "(JJ)J"⟩ ∈ en_tb := en_tbi (List.mem_of_getElem? (i := 285) (by decide +kernel)) (by decide +kernel)
set_option maxRecDepth 100000 in
set_option maxHeartbeats 4000000 in
theorem wd_311 : Cond.fieldLink "EvenSteps$Slope" 31 "EvenSteps$Slope" "a" "J" ∈ en_tb := en_tbi (List.mem_of_getElem? (i := 311) (by decide +kernel)) (by decide +kernel)
set_option maxRecDepth 100000 in
set_option maxHeartbeats 4000000 in
theorem wd_312 : Cond.fieldLink "EvenSteps$Slope" 35 "EvenSteps$Slope" "b" "J" ∈ en_tb := en_tbi (List.mem_of_getElem? (i := 312) (by decide +kernel)) (by decide +kernel)
set_option maxRecDepth 100000 in
set_option maxHeartbeats 4000000 in
theorem wd_313 : Cond.fieldLink "EvenSteps$Slope" 38 "EvenSteps$Slope" "c" "J" ∈ en_tb := en_tbi (List.mem_of_getElem? (i := 313) (by decide +kernel)) (by decide +kernel)
set_option maxRecDepth 100000 in
set_option maxHeartbeats 4000000 in
theorem wd_288 : Cond.constantLong "EvenSteps$Slope" 41 2 ∈ en_tb := en_tbi (List.mem_of_getElem? (i := 288) (by decide +kernel)) (by decide +kernel)
set_option maxRecDepth 100000 in
set_option maxHeartbeats 4000000 in
theorem wd_314 : Cond.fieldLink "EvenSteps$Slope" 43 "EvenSteps$Slope" "d" "J" ∈ en_tb := en_tbi (List.mem_of_getElem? (i := 314) (by decide +kernel)) (by decide +kernel)
set_option maxRecDepth 100000 in
set_option maxHeartbeats 4000000 in
theorem wd_291 : Cond.code ⟨"EvenSteps$Slope", "findQuotients", "(JJ[I)I"⟩ prog_9_method_3_code 14 (some .int) ∈ en_tb := en_tbi (List.mem_of_getElem? (i := 291) (by decide +kernel)) (by decide +kernel)
set_option maxRecDepth 100000 in
set_option maxHeartbeats 4000000 in
theorem wd_290 : Cond.static ⟨"EvenSteps$Slope", "findQuotients", "(JJ[I)I"⟩ ∈ en_tb := en_tbi (List.mem_of_getElem? (i := 290) (by decide +kernel)) (by decide +kernel)
set_option maxRecDepth 100000 in
set_option maxHeartbeats 4000000 in
theorem wd_289 : Cond.methodLink "EvenSteps$Slope" 46 ⟨"EvenSteps$Slope", "findQuotients", "(JJ[I)I"⟩ ∈ en_tb := en_tbi (List.mem_of_getElem? (i := 289) (by decide +kernel)) (by decide +kernel)
set_option maxRecDepth 100000 in
set_option maxHeartbeats 4000000 in
theorem wd_297 : Cond.code ⟨"EvenSteps$Slope", "findRootQuotients", "(JJJJ[I)I"⟩ prog_9_method_4_code 20 (some .int) ∈ en_tb := en_tbi (List.mem_of_getElem? (i := 297) (by decide +kernel)) (by decide +kernel)
set_option maxRecDepth 100000 in
set_option maxHeartbeats 4000000 in
theorem wd_296 : Cond.static ⟨"EvenSteps$Slope", "findRootQuotients", "(JJJJ[I)I"⟩ ∈ en_tb := en_tbi (List.mem_of_getElem? (i := 296) (by decide +kernel)) (by decide +kernel)
set_option maxRecDepth 100000 in
set_option maxHeartbeats 4000000 in
theorem wd_295 : Cond.methodLink "EvenSteps$Slope" 50 ⟨"EvenSteps$Slope", "findRootQuotients", "(JJJJ[I)I"⟩ ∈ en_tb := en_tbi (List.mem_of_getElem? (i := 295) (by decide +kernel)) (by decide +kernel)
set_option maxRecDepth 100000 in
set_option maxHeartbeats 4000000 in
theorem wd_305 : Cond.fieldLink "EvenSteps$Slope" 54 "EvenSteps$Slope" "quotientCount" "I" ∈ en_tb := en_tbi (List.mem_of_getElem? (i := 305) (by decide +kernel)) (by decide +kernel)
set_option maxRecDepth 100000 in
set_option maxHeartbeats 4000000 in
theorem wd_301 : Cond.code ⟨"EvenSteps$Slope", "findLines", "([II[I)I"⟩ prog_9_method_5_code 11 (some .int) ∈ en_tb := en_tbi (List.mem_of_getElem? (i := 301) (by decide +kernel)) (by decide +kernel)
set_option maxRecDepth 100000 in
set_option maxHeartbeats 4000000 in
theorem wd_300 : Cond.static ⟨"EvenSteps$Slope", "findLines", "([II[I)I"⟩ ∈ en_tb := en_tbi (List.mem_of_getElem? (i := 300) (by decide +kernel)) (by decide +kernel)
set_option maxRecDepth 100000 in
set_option maxHeartbeats 4000000 in
theorem wd_299 : Cond.methodLink "EvenSteps$Slope" 58 ⟨"EvenSteps$Slope", "findLines", "([II[I)I"⟩ ∈ en_tb := en_tbi (List.mem_of_getElem? (i := 299) (by decide +kernel)) (by decide +kernel)
set_option maxRecDepth 100000 in
set_option maxHeartbeats 4000000 in
theorem wd_309 : Cond.fieldLink "EvenSteps$Slope" 62 "EvenSteps$Slope" "lineCount" "I" ∈ en_tb := en_tbi (List.mem_of_getElem? (i := 309) (by decide +kernel)) (by decide +kernel)
set_option maxRecDepth 100000 in
set_option maxHeartbeats 4000000 in
theorem wd_278 : Cond.constantLong "EvenSteps$Slope" 65 7 ∈ en_tb := en_tbi (List.mem_of_getElem? (i := 278) (by decide +kernel)) (by decide +kernel)
set_option maxRecDepth 100000 in
set_option maxHeartbeats 4000000 in
theorem wd_294 : Cond.code ⟨"java/lang/Math", "floorDiv", "(JJ)J"⟩ prog_17_method_49_code 6 (some .long) ∈ en_tb := en_tbi (List.mem_of_getElem? (i := 294) (by decide +kernel)) (by decide +kernel)
set_option maxRecDepth 100000 in
set_option maxHeartbeats 4000000 in
theorem wd_293 : Cond.static ⟨"java/lang/Math", "floorDiv", "(JJ)J"⟩ ∈ en_tb := en_tbi (List.mem_of_getElem? (i := 293) (by decide +kernel)) (by decide +kernel)
set_option maxRecDepth 100000 in
set_option maxHeartbeats 4000000 in
theorem wd_292 : Cond.methodLink "EvenSteps$Slope" 67 ⟨"java/lang/Math", "floorDiv", "(JJ)J"⟩ ∈ en_tb := en_tbi (List.mem_of_getElem? (i := 292) (by decide +kernel)) (by decide +kernel)
set_option maxRecDepth 100000 in
set_option maxHeartbeats 4000000 in
theorem wd_257 : Cond.code ⟨"EvenSteps", "rootOf", "(J)J"⟩ prog_1_method_67_code 7 (some .long) ∈ en_tb := en_tbi (List.mem_of_getElem? (i := 257) (by decide +kernel)) (by decide +kernel)
set_option maxRecDepth 100000 in
set_option maxHeartbeats 4000000 in
theorem wd_256 : Cond.static ⟨"EvenSteps", "rootOf", "(J)J"⟩ ∈ en_tb := en_tbi (List.mem_of_getElem? (i := 256) (by decide +kernel)) (by decide +kernel)
set_option maxRecDepth 100000 in
set_option maxHeartbeats 4000000 in
theorem wd_302 : Cond.constantLong "EvenSteps$Slope" 73 10000 ∈ en_tb := en_tbi (List.mem_of_getElem? (i := 302) (by decide +kernel)) (by decide +kernel)
set_option maxRecDepth 100000 in
set_option maxHeartbeats 4000000 in
theorem wd_268 : Cond.code ⟨"EvenSteps", "signOf", "(JJJ)I"⟩ prog_1_method_68_code 10 (some .int) ∈ en_tb := en_tbi (List.mem_of_getElem? (i := 268) (by decide +kernel)) (by decide +kernel)
set_option maxRecDepth 100000 in
set_option maxHeartbeats 4000000 in
theorem wd_267 : Cond.static ⟨"EvenSteps", "signOf", "(JJJ)I"⟩ ∈ en_tb := en_tbi (List.mem_of_getElem? (i := 267) (by decide +kernel)) (by decide +kernel)
set_option maxRecDepth 100000 in
set_option maxHeartbeats 4000000 in
theorem wd_114 : Cond.methodLink "EvenSteps$Stretch" 3 ⟨"java/lang/Object", "<init>", "()V"⟩ ∈ en_tb := en_tbi (List.mem_of_getElem? (i := 114) (by decide +kernel)) (by decide +kernel)
set_option maxRecDepth 100000 in
set_option maxHeartbeats 4000000 in
theorem wd_129 : Cond.fieldLink "EvenSteps$Stretch" 9 "EvenSteps$Stretch" "sums" "[I" ∈ en_tb := en_tbi (List.mem_of_getElem? (i := 129) (by decide +kernel)) (by decide +kernel)
set_option maxRecDepth 100000 in
set_option maxHeartbeats 4000000 in
theorem wd_130 : Cond.fieldLink "EvenSteps$Stretch" 15 "EvenSteps$Stretch" "size" "I" ∈ en_tb := en_tbi (List.mem_of_getElem? (i := 130) (by decide +kernel)) (by decide +kernel)
set_option maxRecDepth 100000 in
set_option maxHeartbeats 4000000 in
theorem wd_669 : Cond.methodLink "EvenSteps$Stretch" 19 ⟨"EvenSteps$Row", "stepAt", "(I)I"⟩ ∈ en_tb := en_tbi (List.mem_of_getElem? (i := 669) (by decide +kernel)) (by decide +kernel)
set_option maxRecDepth 100000 in
set_option maxHeartbeats 4000000 in
theorem wd_681 : Cond.code ⟨"EvenSteps$Stretch", "sumFrom", "(II)I"⟩ prog_10_method_3_code 3 (some .int) ∈ en_tb := en_tbi (List.mem_of_getElem? (i := 681) (by decide +kernel)) (by decide +kernel)
set_option maxRecDepth 100000 in
set_option maxHeartbeats 4000000 in
theorem wd_65 : Cond.initialized "EvenSteps$Stretch" ∈ en_tb := en_tbi (List.mem_of_getElem? (i := 65) (by decide +kernel)) (by decide +kernel)
set_option maxRecDepth 100000 in
set_option maxHeartbeats 4000000 in
theorem wd_678 : Cond.methodLink "EvenSteps$Stretch" 25 ⟨"EvenSteps$Stretch", "sumFrom", "(II)I"⟩ ∈ en_tb := en_tbi (List.mem_of_getElem? (i := 678) (by decide +kernel)) (by decide +kernel)
set_option maxRecDepth 100000 in
set_option maxHeartbeats 4000000 in
theorem wd_11 : Cond.selects "EvenSteps$Stretch" ⟨"EvenSteps$Stretch", "sumFrom", "(II)I"⟩ ⟨"EvenSteps$Stretch", "sumFrom", "(II)I"⟩ ∈ en_tb := en_tbi (List.mem_of_getElem? (i := 11) (by decide +kernel)) (by decide +kernel)
set_option maxRecDepth 100000 in
set_option maxHeartbeats 4000000 in
theorem wd_680 : Cond.instanceMethod ⟨"EvenSteps$Stretch", "sumFrom", "(II)I"⟩ ∈ en_tb := en_tbi (List.mem_of_getElem? (i := 680) (by decide +kernel)) (by decide +kernel)
set_option maxRecDepth 100000 in
set_option maxHeartbeats 4000000 in
theorem wd_131 : Cond.fieldLink "EvenSteps$Stretch" 29 "EvenSteps$Stretch" "least" "I" ∈ en_tb := en_tbi (List.mem_of_getElem? (i := 131) (by decide +kernel)) (by decide +kernel)
set_option maxRecDepth 100000 in
set_option maxHeartbeats 4000000 in
theorem wd_132 : Cond.fieldLink "EvenSteps$Stretch" 32 "EvenSteps$Stretch" "most" "I" ∈ en_tb := en_tbi (List.mem_of_getElem? (i := 132) (by decide +kernel)) (by decide +kernel)
set_option maxRecDepth 100000 in
set_option maxHeartbeats 4000000 in
theorem wd_684 : Cond.code ⟨"java/lang/Math", "min", "(II)I"⟩ prog_17_method_69_code 2 (some .int) ∈ en_tb := en_tbi (List.mem_of_getElem? (i := 684) (by decide +kernel)) (by decide +kernel)
set_option maxRecDepth 100000 in
set_option maxHeartbeats 4000000 in
theorem wd_683 : Cond.static ⟨"java/lang/Math", "min", "(II)I"⟩ ∈ en_tb := en_tbi (List.mem_of_getElem? (i := 683) (by decide +kernel)) (by decide +kernel)
set_option maxRecDepth 100000 in
set_option maxHeartbeats 4000000 in
theorem wd_682 : Cond.methodLink "EvenSteps$Stretch" 35 ⟨"java/lang/Math", "min", "(II)I"⟩ ∈ en_tb := en_tbi (List.mem_of_getElem? (i := 682) (by decide +kernel)) (by decide +kernel)
set_option maxRecDepth 100000 in
set_option maxHeartbeats 4000000 in
theorem wd_685 : Cond.methodLink "EvenSteps$Stretch" 40 ⟨"java/lang/Math", "max", "(II)I"⟩ ∈ en_tb := en_tbi (List.mem_of_getElem? (i := 685) (by decide +kernel)) (by decide +kernel)
set_option maxRecDepth 100000 in
set_option maxHeartbeats 4000000 in
theorem wd_677 : Cond.code ⟨"EvenSteps$Stretch", "compareSums", "(I)V"⟩ prog_10_method_4_code 4 none ∈ en_tb := en_tbi (List.mem_of_getElem? (i := 677) (by decide +kernel)) (by decide +kernel)
set_option maxRecDepth 100000 in
set_option maxHeartbeats 4000000 in
theorem wd_674 : Cond.methodLink "EvenSteps$Stretch" 43 ⟨"EvenSteps$Stretch", "compareSums", "(I)V"⟩ ∈ en_tb := en_tbi (List.mem_of_getElem? (i := 674) (by decide +kernel)) (by decide +kernel)
set_option maxRecDepth 100000 in
set_option maxHeartbeats 4000000 in
theorem wd_10 : Cond.selects "EvenSteps$Stretch" ⟨"EvenSteps$Stretch", "compareSums", "(I)V"⟩ ⟨"EvenSteps$Stretch", "compareSums", "(I)V"⟩ ∈ en_tb := en_tbi (List.mem_of_getElem? (i := 10) (by decide +kernel)) (by decide +kernel)
set_option maxRecDepth 100000 in
set_option maxHeartbeats 4000000 in
theorem wd_676 : Cond.instanceMethod ⟨"EvenSteps$Stretch", "compareSums", "(I)V"⟩ ∈ en_tb := en_tbi (List.mem_of_getElem? (i := 676) (by decide +kernel)) (by decide +kernel)
set_option maxRecDepth 100000 in
set_option maxHeartbeats 4000000 in
theorem wd_115 : Cond.fieldLink "EvenSteps$Stretch" 47 "EvenSteps$Stretch" "clashLength" "I" ∈ en_tb := en_tbi (List.mem_of_getElem? (i := 115) (by decide +kernel)) (by decide +kernel)
set_option maxRecDepth 100000 in
set_option maxHeartbeats 4000000 in
theorem wd_689 : Cond.code ⟨"EvenSteps$Stretch", "findClashPlaces", "(I)Z"⟩ prog_10_method_6_code 4 (some .boolean) ∈ en_tb := en_tbi (List.mem_of_getElem? (i := 689) (by decide +kernel)) (by decide +kernel)
set_option maxRecDepth 100000 in
set_option maxHeartbeats 4000000 in
theorem wd_686 : Cond.methodLink "EvenSteps$Stretch" 50 ⟨"EvenSteps$Stretch", "findClashPlaces", "(I)Z"⟩ ∈ en_tb := en_tbi (List.mem_of_getElem? (i := 686) (by decide +kernel)) (by decide +kernel)
set_option maxRecDepth 100000 in
set_option maxHeartbeats 4000000 in
theorem wd_12 : Cond.selects "EvenSteps$Stretch" ⟨"EvenSteps$Stretch", "findClashPlaces", "(I)Z"⟩ ⟨"EvenSteps$Stretch", "findClashPlaces", "(I)Z"⟩ ∈ en_tb := en_tbi (List.mem_of_getElem? (i := 12) (by decide +kernel)) (by decide +kernel)
set_option maxRecDepth 100000 in
set_option maxHeartbeats 4000000 in
theorem wd_688 : Cond.instanceMethod ⟨"EvenSteps$Stretch", "findClashPlaces", "(I)Z"⟩ ∈ en_tb := en_tbi (List.mem_of_getElem? (i := 688) (by decide +kernel)) (by decide +kernel)
set_option maxRecDepth 100000 in
set_option maxHeartbeats 4000000 in
theorem wd_692 : Cond.code ⟨"java/lang/Math", "abs", "(I)I"⟩ prog_17_method_59_code 1 (some .int) ∈ en_tb := en_tbi (List.mem_of_getElem? (i := 692) (by decide +kernel)) (by decide +kernel)
set_option maxRecDepth 100000 in
set_option maxHeartbeats 4000000 in
theorem wd_691 : Cond.static ⟨"java/lang/Math", "abs", "(I)I"⟩ ∈ en_tb := en_tbi (List.mem_of_getElem? (i := 691) (by decide +kernel)) (by decide +kernel)
set_option maxRecDepth 100000 in
set_option maxHeartbeats 4000000 in
theorem wd_690 : Cond.methodLink "EvenSteps$Stretch" 54 ⟨"java/lang/Math", "abs", "(I)I"⟩ ∈ en_tb := en_tbi (List.mem_of_getElem? (i := 690) (by decide +kernel)) (by decide +kernel)
set_option maxRecDepth 100000 in
set_option maxHeartbeats 4000000 in
theorem wd_117 : Cond.fieldLink "EvenSteps$Stretch" 57 "EvenSteps$Stretch" "clashFirst" "I" ∈ en_tb := en_tbi (List.mem_of_getElem? (i := 117) (by decide +kernel)) (by decide +kernel)
set_option maxRecDepth 100000 in
set_option maxHeartbeats 4000000 in
theorem wd_119 : Cond.fieldLink "EvenSteps$Stretch" 60 "EvenSteps$Stretch" "clashOther" "I" ∈ en_tb := en_tbi (List.mem_of_getElem? (i := 119) (by decide +kernel)) (by decide +kernel)
set_option maxRecDepth 100000 in
set_option maxHeartbeats 4000000 in
theorem wd_123 : Cond.fieldLink "EvenSteps$Stretch" 63 "EvenSteps$Stretch" "lowBelow" "I" ∈ en_tb := en_tbi (List.mem_of_getElem? (i := 123) (by decide +kernel)) (by decide +kernel)
set_option maxRecDepth 100000 in
set_option maxHeartbeats 4000000 in
theorem wd_121 : Cond.fieldLink "EvenSteps$Stretch" 66 "EvenSteps$Stretch" "lowAbove" "I" ∈ en_tb := en_tbi (List.mem_of_getElem? (i := 121) (by decide +kernel)) (by decide +kernel)
set_option maxRecDepth 100000 in
set_option maxHeartbeats 4000000 in
theorem wd_127 : Cond.fieldLink "EvenSteps$Stretch" 69 "EvenSteps$Stretch" "highBelow" "I" ∈ en_tb := en_tbi (List.mem_of_getElem? (i := 127) (by decide +kernel)) (by decide +kernel)
set_option maxRecDepth 100000 in
set_option maxHeartbeats 4000000 in
theorem wd_125 : Cond.fieldLink "EvenSteps$Stretch" 72 "EvenSteps$Stretch" "highAbove" "I" ∈ en_tb := en_tbi (List.mem_of_getElem? (i := 125) (by decide +kernel)) (by decide +kernel)
set_option maxRecDepth 100000 in
set_option maxHeartbeats 4000000 in
theorem wd_360 : Cond.methodLink "EvenSteps$Told" 3 ⟨"EvenSteps$Row", "<init>", "(I)V"⟩ ∈ en_tb := en_tbi (List.mem_of_getElem? (i := 360) (by decide +kernel)) (by decide +kernel)
set_option maxRecDepth 100000 in
set_option maxHeartbeats 4000000 in
theorem wd_364 : Cond.fieldLink "EvenSteps$Told" 9 "EvenSteps$Told" "steps" "[I" ∈ en_tb := en_tbi (List.mem_of_getElem? (i := 364) (by decide +kernel)) (by decide +kernel)
set_option maxRecDepth 100000 in
set_option maxHeartbeats 4000000 in
theorem wd_98 : Cond.methodLink "EvenSteps$Trace" 1 ⟨"java/lang/Object", "<init>", "()V"⟩ ∈ en_tb := en_tbi (List.mem_of_getElem? (i := 98) (by decide +kernel)) (by decide +kernel)
set_option maxRecDepth 100000 in
set_option maxHeartbeats 4000000 in
theorem wd_99 : Cond.fieldLink "EvenSteps$Trace" 7 "EvenSteps$Trace" "numbers" "[I" ∈ en_tb := en_tbi (List.mem_of_getElem? (i := 99) (by decide +kernel)) (by decide +kernel)
set_option maxRecDepth 100000 in
set_option maxHeartbeats 4000000 in
theorem wd_101 : Cond.fieldLink "EvenSteps$Trace" 13 "EvenSteps$Trace" "size" "I" ∈ en_tb := en_tbi (List.mem_of_getElem? (i := 101) (by decide +kernel)) (by decide +kernel)
set_option maxRecDepth 100000 in
set_option maxHeartbeats 4000000 in
theorem wd_84 : Cond.methodLink "EvenSteps" 1 ⟨"java/lang/Object", "<init>", "()V"⟩ ∈ en_tb := en_tbi (List.mem_of_getElem? (i := 84) (by decide +kernel)) (by decide +kernel)
set_option maxRecDepth 100000 in
set_option maxHeartbeats 4000000 in
theorem wd_87 : Cond.classLink "EvenSteps" 9 "EvenSteps$Slope" ∈ en_tb := en_tbi (List.mem_of_getElem? (i := 87) (by decide +kernel)) (by decide +kernel)
set_option maxRecDepth 100000 in
set_option maxHeartbeats 4000000 in
theorem wd_210 : Cond.fieldLink "EvenSteps" 11 "EvenSteps" "slopes" "[LEvenSteps$Slope;" ∈ en_tb := en_tbi (List.mem_of_getElem? (i := 210) (by decide +kernel)) (by decide +kernel)
set_option maxRecDepth 100000 in
set_option maxHeartbeats 4000000 in
theorem wd_89 : Cond.classLink "EvenSteps" 15 "EvenSteps$Row" ∈ en_tb := en_tbi (List.mem_of_getElem? (i := 89) (by decide +kernel)) (by decide +kernel)
set_option maxRecDepth 100000 in
set_option maxHeartbeats 4000000 in
theorem wd_211 : Cond.fieldLink "EvenSteps" 17 "EvenSteps" "rows" "[LEvenSteps$Row;" ∈ en_tb := en_tbi (List.mem_of_getElem? (i := 211) (by decide +kernel)) (by decide +kernel)
set_option maxRecDepth 100000 in
set_option maxHeartbeats 4000000 in
theorem wd_91 : Cond.classLink "EvenSteps" 21 "EvenSteps$Sheet" ∈ en_tb := en_tbi (List.mem_of_getElem? (i := 91) (by decide +kernel)) (by decide +kernel)
set_option maxRecDepth 100000 in
set_option maxHeartbeats 4000000 in
theorem wd_212 : Cond.fieldLink "EvenSteps" 23 "EvenSteps" "sheets" "[LEvenSteps$Sheet;" ∈ en_tb := en_tbi (List.mem_of_getElem? (i := 212) (by decide +kernel)) (by decide +kernel)
set_option maxRecDepth 100000 in
set_option maxHeartbeats 4000000 in
theorem wd_93 : Cond.classLink "EvenSteps" 27 "EvenSteps$Trace" ∈ en_tb := en_tbi (List.mem_of_getElem? (i := 93) (by decide +kernel)) (by decide +kernel)
set_option maxRecDepth 100000 in
set_option maxHeartbeats 4000000 in
theorem wd_97 : Cond.code ⟨"EvenSteps$Trace", "<init>", "()V"⟩ prog_12_method_1_code 1 none ∈ en_tb := en_tbi (List.mem_of_getElem? (i := 97) (by decide +kernel)) (by decide +kernel)
set_option maxRecDepth 100000 in
set_option maxHeartbeats 4000000 in
theorem wd_96 : Cond.instanceMethod ⟨"EvenSteps$Trace", "<init>", "()V"⟩ ∈ en_tb := en_tbi (List.mem_of_getElem? (i := 96) (by decide +kernel)) (by decide +kernel)
set_option maxRecDepth 100000 in
set_option maxHeartbeats 4000000 in
theorem wd_95 : Cond.methodLink "EvenSteps" 29 ⟨"EvenSteps$Trace", "<init>", "()V"⟩ ∈ en_tb := en_tbi (List.mem_of_getElem? (i := 95) (by decide +kernel)) (by decide +kernel)
set_option maxRecDepth 100000 in
set_option maxHeartbeats 4000000 in
theorem wd_213 : Cond.fieldLink "EvenSteps" 30 "EvenSteps" "bodies" "LEvenSteps$Trace;" ∈ en_tb := en_tbi (List.mem_of_getElem? (i := 213) (by decide +kernel)) (by decide +kernel)
set_option maxRecDepth 100000 in
set_option maxHeartbeats 4000000 in
theorem wd_109 : Cond.classLink "EvenSteps" 34 "EvenSteps$Stretch" ∈ en_tb := en_tbi (List.mem_of_getElem? (i := 109) (by decide +kernel)) (by decide +kernel)
set_option maxRecDepth 100000 in
set_option maxHeartbeats 4000000 in
theorem wd_113 : Cond.code ⟨"EvenSteps$Stretch", "<init>", "()V"⟩ prog_10_method_1_code 1 none ∈ en_tb := en_tbi (List.mem_of_getElem? (i := 113) (by decide +kernel)) (by decide +kernel)
set_option maxRecDepth 100000 in
set_option maxHeartbeats 4000000 in
theorem wd_112 : Cond.instanceMethod ⟨"EvenSteps$Stretch", "<init>", "()V"⟩ ∈ en_tb := en_tbi (List.mem_of_getElem? (i := 112) (by decide +kernel)) (by decide +kernel)
set_option maxRecDepth 100000 in
set_option maxHeartbeats 4000000 in
theorem wd_111 : Cond.methodLink "EvenSteps" 36 ⟨"EvenSteps$Stretch", "<init>", "()V"⟩ ∈ en_tb := en_tbi (List.mem_of_getElem? (i := 111) (by decide +kernel)) (by decide +kernel)
set_option maxRecDepth 100000 in
set_option maxHeartbeats 4000000 in
theorem wd_214 : Cond.fieldLink "EvenSteps" 37 "EvenSteps" "stretch" "LEvenSteps$Stretch;" ∈ en_tb := en_tbi (List.mem_of_getElem? (i := 214) (by decide +kernel)) (by decide +kernel)
set_option maxRecDepth 100000 in
set_option maxHeartbeats 4000000 in
theorem wd_156 : Cond.classLink "EvenSteps" 41 "EvenSteps$Circle" ∈ en_tb := en_tbi (List.mem_of_getElem? (i := 156) (by decide +kernel)) (by decide +kernel)
set_option maxRecDepth 100000 in
set_option maxHeartbeats 4000000 in
theorem wd_160 : Cond.code ⟨"EvenSteps$Circle", "<init>", "()V"⟩ prog_2_method_1_code 1 none ∈ en_tb := en_tbi (List.mem_of_getElem? (i := 160) (by decide +kernel)) (by decide +kernel)
set_option maxRecDepth 100000 in
set_option maxHeartbeats 4000000 in
theorem wd_159 : Cond.instanceMethod ⟨"EvenSteps$Circle", "<init>", "()V"⟩ ∈ en_tb := en_tbi (List.mem_of_getElem? (i := 159) (by decide +kernel)) (by decide +kernel)
set_option maxRecDepth 100000 in
set_option maxHeartbeats 4000000 in
theorem wd_158 : Cond.methodLink "EvenSteps" 43 ⟨"EvenSteps$Circle", "<init>", "()V"⟩ ∈ en_tb := en_tbi (List.mem_of_getElem? (i := 158) (by decide +kernel)) (by decide +kernel)
set_option maxRecDepth 100000 in
set_option maxHeartbeats 4000000 in
theorem wd_215 : Cond.fieldLink "EvenSteps" 44 "EvenSteps" "circle" "LEvenSteps$Circle;" ∈ en_tb := en_tbi (List.mem_of_getElem? (i := 215) (by decide +kernel)) (by decide +kernel)
set_option maxRecDepth 100000 in
set_option maxHeartbeats 4000000 in
theorem wd_216 : Cond.fieldLink "EvenSteps" 48 "EvenSteps" "partSteps" "[I" ∈ en_tb := en_tbi (List.mem_of_getElem? (i := 216) (by decide +kernel)) (by decide +kernel)
set_option maxRecDepth 100000 in
set_option maxHeartbeats 4000000 in
theorem wd_217 : Cond.fieldLink "EvenSteps" 52 "EvenSteps" "partStarts" "[I" ∈ en_tb := en_tbi (List.mem_of_getElem? (i := 217) (by decide +kernel)) (by decide +kernel)
set_option maxRecDepth 100000 in
set_option maxHeartbeats 4000000 in
theorem wd_195 : Cond.code ⟨"EvenSteps$Sheet", "<init>", "()V"⟩ prog_8_method_1_code 1 none ∈ en_tb := en_tbi (List.mem_of_getElem? (i := 195) (by decide +kernel)) (by decide +kernel)
set_option maxRecDepth 100000 in
set_option maxHeartbeats 4000000 in
theorem wd_67 : Cond.initialized "EvenSteps$Sheet" ∈ en_tb := en_tbi (List.mem_of_getElem? (i := 67) (by decide +kernel)) (by decide +kernel)
set_option maxRecDepth 100000 in
set_option maxHeartbeats 4000000 in
theorem wd_194 : Cond.instanceMethod ⟨"EvenSteps$Sheet", "<init>", "()V"⟩ ∈ en_tb := en_tbi (List.mem_of_getElem? (i := 194) (by decide +kernel)) (by decide +kernel)
set_option maxRecDepth 100000 in
set_option maxHeartbeats 4000000 in
theorem wd_193 : Cond.methodLink "EvenSteps" 55 ⟨"EvenSteps$Sheet", "<init>", "()V"⟩ ∈ en_tb := en_tbi (List.mem_of_getElem? (i := 193) (by decide +kernel)) (by decide +kernel)
set_option maxRecDepth 100000 in
set_option maxHeartbeats 4000000 in
theorem wd_251 : Cond.code ⟨"EvenSteps", "refuse", "(I)I"⟩ prog_1_method_60_code 2 (some .int) ∈ en_tb := en_tbi (List.mem_of_getElem? (i := 251) (by decide +kernel)) (by decide +kernel)
set_option maxRecDepth 100000 in
set_option maxHeartbeats 4000000 in
theorem wd_248 : Cond.methodLink "EvenSteps" 56 ⟨"EvenSteps", "refuse", "(I)I"⟩ ∈ en_tb := en_tbi (List.mem_of_getElem? (i := 248) (by decide +kernel)) (by decide +kernel)
set_option maxRecDepth 100000 in
set_option maxHeartbeats 4000000 in
theorem wd_0 : Cond.selects "EvenSteps" ⟨"EvenSteps", "refuse", "(I)I"⟩ ⟨"EvenSteps", "refuse", "(I)I"⟩ ∈ en_tb := en_tbi (List.mem_of_getElem? (i := 0) (by decide +kernel)) (by decide +kernel)
set_option maxRecDepth 100000 in
set_option maxHeartbeats 4000000 in
theorem wd_250 : Cond.instanceMethod ⟨"EvenSteps", "refuse", "(I)I"⟩ ∈ en_tb := en_tbi (List.mem_of_getElem? (i := 250) (by decide +kernel)) (by decide +kernel)
set_option maxRecDepth 100000 in
set_option maxHeartbeats 4000000 in
theorem wd_254 : Cond.code ⟨"EvenSteps", "isSquare", "(I)Z"⟩ prog_1_method_66_code 3 (some .boolean) ∈ en_tb := en_tbi (List.mem_of_getElem? (i := 254) (by decide +kernel)) (by decide +kernel)
set_option maxRecDepth 100000 in
set_option maxHeartbeats 4000000 in
theorem wd_253 : Cond.static ⟨"EvenSteps", "isSquare", "(I)Z"⟩ ∈ en_tb := en_tbi (List.mem_of_getElem? (i := 253) (by decide +kernel)) (by decide +kernel)
set_option maxRecDepth 100000 in
set_option maxHeartbeats 4000000 in
theorem wd_252 : Cond.methodLink "EvenSteps" 60 ⟨"EvenSteps", "isSquare", "(I)Z"⟩ ∈ en_tb := en_tbi (List.mem_of_getElem? (i := 252) (by decide +kernel)) (by decide +kernel)
set_option maxRecDepth 100000 in
set_option maxHeartbeats 4000000 in
theorem wd_218 : Cond.fieldLink "EvenSteps" 64 "EvenSteps" "slopeCount" "I" ∈ en_tb := en_tbi (List.mem_of_getElem? (i := 218) (by decide +kernel)) (by decide +kernel)
set_option maxRecDepth 100000 in
set_option maxHeartbeats 4000000 in
theorem wd_266 : Cond.methodLink "EvenSteps" 68 ⟨"EvenSteps", "signOf", "(JJJ)I"⟩ ∈ en_tb := en_tbi (List.mem_of_getElem? (i := 266) (by decide +kernel)) (by decide +kernel)
set_option maxRecDepth 100000 in
set_option maxHeartbeats 4000000 in
theorem wd_269 : Cond.constantLong "EvenSteps" 72 20 ∈ en_tb := en_tbi (List.mem_of_getElem? (i := 269) (by decide +kernel)) (by decide +kernel)
set_option maxRecDepth 100000 in
set_option maxHeartbeats 4000000 in
theorem wd_271 : Cond.methodLink "EvenSteps" 74 ⟨"EvenSteps$Slope", "<init>", "(JJJJ)V"⟩ ∈ en_tb := en_tbi (List.mem_of_getElem? (i := 271) (by decide +kernel)) (by decide +kernel)
set_option maxRecDepth 100000 in
set_option maxHeartbeats 4000000 in
theorem wd_335 : Cond.code ⟨"EvenSteps", "done", "(I)I"⟩ prog_1_method_61_code 2 (some .int) ∈ en_tb := en_tbi (List.mem_of_getElem? (i := 335) (by decide +kernel)) (by decide +kernel)
set_option maxRecDepth 100000 in
set_option maxHeartbeats 4000000 in
theorem wd_332 : Cond.methodLink "EvenSteps" 77 ⟨"EvenSteps", "done", "(I)I"⟩ ∈ en_tb := en_tbi (List.mem_of_getElem? (i := 332) (by decide +kernel)) (by decide +kernel)
set_option maxRecDepth 100000 in
set_option maxHeartbeats 4000000 in
theorem wd_1 : Cond.selects "EvenSteps" ⟨"EvenSteps", "done", "(I)I"⟩ ⟨"EvenSteps", "done", "(I)I"⟩ ∈ en_tb := en_tbi (List.mem_of_getElem? (i := 1) (by decide +kernel)) (by decide +kernel)
set_option maxRecDepth 100000 in
set_option maxHeartbeats 4000000 in
theorem wd_334 : Cond.instanceMethod ⟨"EvenSteps", "done", "(I)I"⟩ ∈ en_tb := en_tbi (List.mem_of_getElem? (i := 334) (by decide +kernel)) (by decide +kernel)
set_option maxRecDepth 100000 in
set_option maxHeartbeats 4000000 in
theorem wd_219 : Cond.fieldLink "EvenSteps" 80 "EvenSteps" "rowCount" "I" ∈ en_tb := en_tbi (List.mem_of_getElem? (i := 219) (by decide +kernel)) (by decide +kernel)
set_option maxRecDepth 100000 in
set_option maxHeartbeats 4000000 in
theorem wd_343 : Cond.code ⟨"EvenSteps$Sheet", "isMissing", "()Z"⟩ prog_8_method_2_code 1 (some .boolean) ∈ en_tb := en_tbi (List.mem_of_getElem? (i := 343) (by decide +kernel)) (by decide +kernel)
set_option maxRecDepth 100000 in
set_option maxHeartbeats 4000000 in
theorem wd_340 : Cond.methodLink "EvenSteps" 83 ⟨"EvenSteps$Sheet", "isMissing", "()Z"⟩ ∈ en_tb := en_tbi (List.mem_of_getElem? (i := 340) (by decide +kernel)) (by decide +kernel)
set_option maxRecDepth 100000 in
set_option maxHeartbeats 4000000 in
theorem wd_342 : Cond.selects "EvenSteps$Sheet" ⟨"EvenSteps$Sheet", "isMissing", "()Z"⟩ ⟨"EvenSteps$Sheet", "isMissing", "()Z"⟩ ∈ en_tb := en_tbi (List.mem_of_getElem? (i := 342) (by decide +kernel)) (by decide +kernel)
set_option maxRecDepth 100000 in
set_option maxHeartbeats 4000000 in
theorem wd_341 : Cond.instanceMethod ⟨"EvenSteps$Sheet", "isMissing", "()Z"⟩ ∈ en_tb := en_tbi (List.mem_of_getElem? (i := 341) (by decide +kernel)) (by decide +kernel)
set_option maxRecDepth 100000 in
set_option maxHeartbeats 4000000 in
theorem wd_200 : Cond.fieldLink "EvenSteps" 87 "EvenSteps$Sheet" "sort" "I" ∈ en_tb := en_tbi (List.mem_of_getElem? (i := 200) (by decide +kernel)) (by decide +kernel)
set_option maxRecDepth 100000 in
set_option maxHeartbeats 4000000 in
theorem wd_202 : Cond.fieldLink "EvenSteps" 90 "EvenSteps$Sheet" "size" "I" ∈ en_tb := en_tbi (List.mem_of_getElem? (i := 202) (by decide +kernel)) (by decide +kernel)
set_option maxRecDepth 100000 in
set_option maxHeartbeats 4000000 in
theorem wd_347 : Cond.code ⟨"EvenSteps$Sheet", "tellsSteps", "(I)Z"⟩ prog_8_method_4_code 3 (some .boolean) ∈ en_tb := en_tbi (List.mem_of_getElem? (i := 347) (by decide +kernel)) (by decide +kernel)
set_option maxRecDepth 100000 in
set_option maxHeartbeats 4000000 in
theorem wd_344 : Cond.methodLink "EvenSteps" 93 ⟨"EvenSteps$Sheet", "tellsSteps", "(I)Z"⟩ ∈ en_tb := en_tbi (List.mem_of_getElem? (i := 344) (by decide +kernel)) (by decide +kernel)
set_option maxRecDepth 100000 in
set_option maxHeartbeats 4000000 in
theorem wd_346 : Cond.selects "EvenSteps$Sheet" ⟨"EvenSteps$Sheet", "tellsSteps", "(I)Z"⟩ ⟨"EvenSteps$Sheet", "tellsSteps", "(I)Z"⟩ ∈ en_tb := en_tbi (List.mem_of_getElem? (i := 346) (by decide +kernel)) (by decide +kernel)
set_option maxRecDepth 100000 in
set_option maxHeartbeats 4000000 in
theorem wd_345 : Cond.instanceMethod ⟨"EvenSteps$Sheet", "tellsSteps", "(I)Z"⟩ ∈ en_tb := en_tbi (List.mem_of_getElem? (i := 345) (by decide +kernel)) (by decide +kernel)
set_option maxRecDepth 100000 in
set_option maxHeartbeats 4000000 in
theorem wd_348 : Cond.classLink "EvenSteps" 96 "EvenSteps$Told" ∈ en_tb := en_tbi (List.mem_of_getElem? (i := 348) (by decide +kernel)) (by decide +kernel)
set_option maxRecDepth 100000 in
set_option maxHeartbeats 4000000 in
theorem wd_353 : Cond.code ⟨"EvenSteps$Sheet", "copyOf", "(I)[I"⟩ prog_8_method_5_code 4 (some (.array .int)) ∈ en_tb := en_tbi (List.mem_of_getElem? (i := 353) (by decide +kernel)) (by decide +kernel)
set_option maxRecDepth 100000 in
set_option maxHeartbeats 4000000 in
theorem wd_350 : Cond.methodLink "EvenSteps" 98 ⟨"EvenSteps$Sheet", "copyOf", "(I)[I"⟩ ∈ en_tb := en_tbi (List.mem_of_getElem? (i := 350) (by decide +kernel)) (by decide +kernel)
set_option maxRecDepth 100000 in
set_option maxHeartbeats 4000000 in
theorem wd_352 : Cond.selects "EvenSteps$Sheet" ⟨"EvenSteps$Sheet", "copyOf", "(I)[I"⟩ ⟨"EvenSteps$Sheet", "copyOf", "(I)[I"⟩ ∈ en_tb := en_tbi (List.mem_of_getElem? (i := 352) (by decide +kernel)) (by decide +kernel)
set_option maxRecDepth 100000 in
set_option maxHeartbeats 4000000 in
theorem wd_351 : Cond.instanceMethod ⟨"EvenSteps$Sheet", "copyOf", "(I)[I"⟩ ∈ en_tb := en_tbi (List.mem_of_getElem? (i := 351) (by decide +kernel)) (by decide +kernel)
set_option maxRecDepth 100000 in
set_option maxHeartbeats 4000000 in
theorem wd_359 : Cond.code ⟨"EvenSteps$Told", "<init>", "(I[I)V"⟩ prog_11_method_1_code 3 none ∈ en_tb := en_tbi (List.mem_of_getElem? (i := 359) (by decide +kernel)) (by decide +kernel)
set_option maxRecDepth 100000 in
set_option maxHeartbeats 4000000 in
theorem wd_358 : Cond.instanceMethod ⟨"EvenSteps$Told", "<init>", "(I[I)V"⟩ ∈ en_tb := en_tbi (List.mem_of_getElem? (i := 358) (by decide +kernel)) (by decide +kernel)
set_option maxRecDepth 100000 in
set_option maxHeartbeats 4000000 in
theorem wd_357 : Cond.methodLink "EvenSteps" 102 ⟨"EvenSteps$Told", "<init>", "(I[I)V"⟩ ∈ en_tb := en_tbi (List.mem_of_getElem? (i := 357) (by decide +kernel)) (by decide +kernel)
set_option maxRecDepth 100000 in
set_option maxHeartbeats 4000000 in
theorem wd_381 : Cond.code ⟨"EvenSteps", "keep", "(LEvenSteps$Row;)I"⟩ prog_1_method_62_code 2 (some .int) ∈ en_tb := en_tbi (List.mem_of_getElem? (i := 381) (by decide +kernel)) (by decide +kernel)
set_option maxRecDepth 100000 in
set_option maxHeartbeats 4000000 in
theorem wd_378 : Cond.methodLink "EvenSteps" 105 ⟨"EvenSteps", "keep", "(LEvenSteps$Row;)I"⟩ ∈ en_tb := en_tbi (List.mem_of_getElem? (i := 378) (by decide +kernel)) (by decide +kernel)
set_option maxRecDepth 100000 in
set_option maxHeartbeats 4000000 in
theorem wd_2 : Cond.selects "EvenSteps" ⟨"EvenSteps", "keep", "(LEvenSteps$Row;)I"⟩ ⟨"EvenSteps", "keep", "(LEvenSteps$Row;)I"⟩ ∈ en_tb := en_tbi (List.mem_of_getElem? (i := 2) (by decide +kernel)) (by decide +kernel)
set_option maxRecDepth 100000 in
set_option maxHeartbeats 4000000 in
theorem wd_380 : Cond.instanceMethod ⟨"EvenSteps", "keep", "(LEvenSteps$Row;)I"⟩ ∈ en_tb := en_tbi (List.mem_of_getElem? (i := 380) (by decide +kernel)) (by decide +kernel)
set_option maxRecDepth 100000 in
set_option maxHeartbeats 4000000 in
theorem wd_418 : Cond.code ⟨"EvenSteps", "slopeAt", "(I)LEvenSteps$Slope;"⟩ prog_1_method_63_code 2 (some (.object "EvenSteps$Slope")) ∈ en_tb := en_tbi (List.mem_of_getElem? (i := 418) (by decide +kernel)) (by decide +kernel)
set_option maxRecDepth 100000 in
set_option maxHeartbeats 4000000 in
theorem wd_415 : Cond.methodLink "EvenSteps" 109 ⟨"EvenSteps", "slopeAt", "(I)LEvenSteps$Slope;"⟩ ∈ en_tb := en_tbi (List.mem_of_getElem? (i := 415) (by decide +kernel)) (by decide +kernel)
set_option maxRecDepth 100000 in
set_option maxHeartbeats 4000000 in
theorem wd_5 : Cond.selects "EvenSteps" ⟨"EvenSteps", "slopeAt", "(I)LEvenSteps$Slope;"⟩ ⟨"EvenSteps", "slopeAt", "(I)LEvenSteps$Slope;"⟩ ∈ en_tb := en_tbi (List.mem_of_getElem? (i := 5) (by decide +kernel)) (by decide +kernel)
set_option maxRecDepth 100000 in
set_option maxHeartbeats 4000000 in
theorem wd_417 : Cond.instanceMethod ⟨"EvenSteps", "slopeAt", "(I)LEvenSteps$Slope;"⟩ ∈ en_tb := en_tbi (List.mem_of_getElem? (i := 417) (by decide +kernel)) (by decide +kernel)
set_option maxRecDepth 100000 in
set_option maxHeartbeats 4000000 in
theorem wd_419 : Cond.classLink "EvenSteps" 113 "EvenSteps$Even" ∈ en_tb := en_tbi (List.mem_of_getElem? (i := 419) (by decide +kernel)) (by decide +kernel)
set_option maxRecDepth 100000 in
set_option maxHeartbeats 4000000 in
theorem wd_421 : Cond.methodLink "EvenSteps" 115 ⟨"EvenSteps$Even", "<init>", "(ILEvenSteps$Slope;III)V"⟩ ∈ en_tb := en_tbi (List.mem_of_getElem? (i := 421) (by decide +kernel)) (by decide +kernel)
set_option maxRecDepth 100000 in
set_option maxHeartbeats 4000000 in
theorem wd_447 : Cond.classLink "EvenSteps" 118 "EvenSteps$Ring" ∈ en_tb := en_tbi (List.mem_of_getElem? (i := 447) (by decide +kernel)) (by decide +kernel)
set_option maxRecDepth 100000 in
set_option maxHeartbeats 4000000 in
theorem wd_451 : Cond.code ⟨"EvenSteps$Ring", "<init>", "(III)V"⟩ prog_6_method_1_code 4 none ∈ en_tb := en_tbi (List.mem_of_getElem? (i := 451) (by decide +kernel)) (by decide +kernel)
set_option maxRecDepth 100000 in
set_option maxHeartbeats 4000000 in
theorem wd_450 : Cond.instanceMethod ⟨"EvenSteps$Ring", "<init>", "(III)V"⟩ ∈ en_tb := en_tbi (List.mem_of_getElem? (i := 450) (by decide +kernel)) (by decide +kernel)
set_option maxRecDepth 100000 in
set_option maxHeartbeats 4000000 in
theorem wd_449 : Cond.methodLink "EvenSteps" 120 ⟨"EvenSteps$Ring", "<init>", "(III)V"⟩ ∈ en_tb := en_tbi (List.mem_of_getElem? (i := 449) (by decide +kernel)) (by decide +kernel)
set_option maxRecDepth 100000 in
set_option maxHeartbeats 4000000 in
theorem wd_470 : Cond.code ⟨"EvenSteps", "rowAt", "(I)LEvenSteps$Row;"⟩ prog_1_method_64_code 2 (some (.object "EvenSteps$Row")) ∈ en_tb := en_tbi (List.mem_of_getElem? (i := 470) (by decide +kernel)) (by decide +kernel)
set_option maxRecDepth 100000 in
set_option maxHeartbeats 4000000 in
theorem wd_467 : Cond.methodLink "EvenSteps" 123 ⟨"EvenSteps", "rowAt", "(I)LEvenSteps$Row;"⟩ ∈ en_tb := en_tbi (List.mem_of_getElem? (i := 467) (by decide +kernel)) (by decide +kernel)
set_option maxRecDepth 100000 in
set_option maxHeartbeats 4000000 in
theorem wd_6 : Cond.selects "EvenSteps" ⟨"EvenSteps", "rowAt", "(I)LEvenSteps$Row;"⟩ ⟨"EvenSteps", "rowAt", "(I)LEvenSteps$Row;"⟩ ∈ en_tb := en_tbi (List.mem_of_getElem? (i := 6) (by decide +kernel)) (by decide +kernel)
set_option maxRecDepth 100000 in
set_option maxHeartbeats 4000000 in
theorem wd_469 : Cond.instanceMethod ⟨"EvenSteps", "rowAt", "(I)LEvenSteps$Row;"⟩ ∈ en_tb := en_tbi (List.mem_of_getElem? (i := 469) (by decide +kernel)) (by decide +kernel)
set_option maxRecDepth 100000 in
set_option maxHeartbeats 4000000 in
theorem wd_473 : Cond.code ⟨"EvenSteps", "isBits", "(II)Z"⟩ prog_1_method_65_code 2 (some .boolean) ∈ en_tb := en_tbi (List.mem_of_getElem? (i := 473) (by decide +kernel)) (by decide +kernel)
set_option maxRecDepth 100000 in
set_option maxHeartbeats 4000000 in
theorem wd_472 : Cond.static ⟨"EvenSteps", "isBits", "(II)Z"⟩ ∈ en_tb := en_tbi (List.mem_of_getElem? (i := 472) (by decide +kernel)) (by decide +kernel)
set_option maxRecDepth 100000 in
set_option maxHeartbeats 4000000 in
theorem wd_471 : Cond.methodLink "EvenSteps" 127 ⟨"EvenSteps", "isBits", "(II)Z"⟩ ∈ en_tb := en_tbi (List.mem_of_getElem? (i := 471) (by decide +kernel)) (by decide +kernel)
set_option maxRecDepth 100000 in
set_option maxHeartbeats 4000000 in
theorem wd_474 : Cond.classLink "EvenSteps" 131 "EvenSteps$Cut" ∈ en_tb := en_tbi (List.mem_of_getElem? (i := 474) (by decide +kernel)) (by decide +kernel)
set_option maxRecDepth 100000 in
set_option maxHeartbeats 4000000 in
theorem wd_477 : Cond.code ⟨"EvenSteps$Cut", "<init>", "(ILEvenSteps$Row;IIII)V"⟩ prog_3_method_1_code 7 none ∈ en_tb := en_tbi (List.mem_of_getElem? (i := 477) (by decide +kernel)) (by decide +kernel)
set_option maxRecDepth 100000 in
set_option maxHeartbeats 4000000 in
theorem wd_476 : Cond.instanceMethod ⟨"EvenSteps$Cut", "<init>", "(ILEvenSteps$Row;IIII)V"⟩ ∈ en_tb := en_tbi (List.mem_of_getElem? (i := 476) (by decide +kernel)) (by decide +kernel)
set_option maxRecDepth 100000 in
set_option maxHeartbeats 4000000 in
theorem wd_475 : Cond.methodLink "EvenSteps" 133 ⟨"EvenSteps$Cut", "<init>", "(ILEvenSteps$Row;IIII)V"⟩ ∈ en_tb := en_tbi (List.mem_of_getElem? (i := 475) (by decide +kernel)) (by decide +kernel)
set_option maxRecDepth 100000 in
set_option maxHeartbeats 4000000 in
theorem wd_514 : Cond.classLink "EvenSteps" 136 "EvenSteps$Points" ∈ en_tb := en_tbi (List.mem_of_getElem? (i := 514) (by decide +kernel)) (by decide +kernel)
set_option maxRecDepth 100000 in
set_option maxHeartbeats 4000000 in
theorem wd_518 : Cond.code ⟨"EvenSteps$Points", "<init>", "(ILEvenSteps$Slope;I)V"⟩ prog_5_method_1_code 4 none ∈ en_tb := en_tbi (List.mem_of_getElem? (i := 518) (by decide +kernel)) (by decide +kernel)
set_option maxRecDepth 100000 in
set_option maxHeartbeats 4000000 in
theorem wd_517 : Cond.instanceMethod ⟨"EvenSteps$Points", "<init>", "(ILEvenSteps$Slope;I)V"⟩ ∈ en_tb := en_tbi (List.mem_of_getElem? (i := 517) (by decide +kernel)) (by decide +kernel)
set_option maxRecDepth 100000 in
set_option maxHeartbeats 4000000 in
theorem wd_516 : Cond.methodLink "EvenSteps" 138 ⟨"EvenSteps$Points", "<init>", "(ILEvenSteps$Slope;I)V"⟩ ∈ en_tb := en_tbi (List.mem_of_getElem? (i := 516) (by decide +kernel)) (by decide +kernel)
set_option maxRecDepth 100000 in
set_option maxHeartbeats 4000000 in
theorem wd_534 : Cond.code ⟨"EvenSteps", "dropRow", "()I"⟩ prog_1_method_9_code 1 (some .int) ∈ en_tb := en_tbi (List.mem_of_getElem? (i := 534) (by decide +kernel)) (by decide +kernel)
set_option maxRecDepth 100000 in
set_option maxHeartbeats 4000000 in
theorem wd_531 : Cond.methodLink "EvenSteps" 141 ⟨"EvenSteps", "dropRow", "()I"⟩ ∈ en_tb := en_tbi (List.mem_of_getElem? (i := 531) (by decide +kernel)) (by decide +kernel)
set_option maxRecDepth 100000 in
set_option maxHeartbeats 4000000 in
theorem wd_7 : Cond.selects "EvenSteps" ⟨"EvenSteps", "dropRow", "()I"⟩ ⟨"EvenSteps", "dropRow", "()I"⟩ ∈ en_tb := en_tbi (List.mem_of_getElem? (i := 7) (by decide +kernel)) (by decide +kernel)
set_option maxRecDepth 100000 in
set_option maxHeartbeats 4000000 in
theorem wd_533 : Cond.instanceMethod ⟨"EvenSteps", "dropRow", "()I"⟩ ∈ en_tb := en_tbi (List.mem_of_getElem? (i := 533) (by decide +kernel)) (by decide +kernel)
set_option maxRecDepth 100000 in
set_option maxHeartbeats 4000000 in
theorem wd_538 : Cond.code ⟨"EvenSteps", "dropSlope", "()I"⟩ prog_1_method_10_code 1 (some .int) ∈ en_tb := en_tbi (List.mem_of_getElem? (i := 538) (by decide +kernel)) (by decide +kernel)
set_option maxRecDepth 100000 in
set_option maxHeartbeats 4000000 in
theorem wd_535 : Cond.methodLink "EvenSteps" 145 ⟨"EvenSteps", "dropSlope", "()I"⟩ ∈ en_tb := en_tbi (List.mem_of_getElem? (i := 535) (by decide +kernel)) (by decide +kernel)
set_option maxRecDepth 100000 in
set_option maxHeartbeats 4000000 in
theorem wd_8 : Cond.selects "EvenSteps" ⟨"EvenSteps", "dropSlope", "()I"⟩ ⟨"EvenSteps", "dropSlope", "()I"⟩ ∈ en_tb := en_tbi (List.mem_of_getElem? (i := 8) (by decide +kernel)) (by decide +kernel)
set_option maxRecDepth 100000 in
set_option maxHeartbeats 4000000 in
theorem wd_537 : Cond.instanceMethod ⟨"EvenSteps", "dropSlope", "()I"⟩ ∈ en_tb := en_tbi (List.mem_of_getElem? (i := 537) (by decide +kernel)) (by decide +kernel)
set_option maxRecDepth 100000 in
set_option maxHeartbeats 4000000 in
theorem wd_542 : Cond.code ⟨"EvenSteps", "isInUse", "(I)Z"⟩ prog_1_method_11_code 5 (some .boolean) ∈ en_tb := en_tbi (List.mem_of_getElem? (i := 542) (by decide +kernel)) (by decide +kernel)
set_option maxRecDepth 100000 in
set_option maxHeartbeats 4000000 in
theorem wd_539 : Cond.methodLink "EvenSteps" 148 ⟨"EvenSteps", "isInUse", "(I)Z"⟩ ∈ en_tb := en_tbi (List.mem_of_getElem? (i := 539) (by decide +kernel)) (by decide +kernel)
set_option maxRecDepth 100000 in
set_option maxHeartbeats 4000000 in
theorem wd_9 : Cond.selects "EvenSteps" ⟨"EvenSteps", "isInUse", "(I)Z"⟩ ⟨"EvenSteps", "isInUse", "(I)Z"⟩ ∈ en_tb := en_tbi (List.mem_of_getElem? (i := 9) (by decide +kernel)) (by decide +kernel)
set_option maxRecDepth 100000 in
set_option maxHeartbeats 4000000 in
theorem wd_541 : Cond.instanceMethod ⟨"EvenSteps", "isInUse", "(I)Z"⟩ ∈ en_tb := en_tbi (List.mem_of_getElem? (i := 541) (by decide +kernel)) (by decide +kernel)
set_option maxRecDepth 100000 in
set_option maxHeartbeats 4000000 in
theorem wd_429 : Cond.fieldLink "EvenSteps" 151 "EvenSteps$Even" "slopeNumber" "I" ∈ en_tb := en_tbi (List.mem_of_getElem? (i := 429) (by decide +kernel)) (by decide +kernel)
set_option maxRecDepth 100000 in
set_option maxHeartbeats 4000000 in
theorem wd_102 : Cond.fieldLink "EvenSteps" 154 "EvenSteps$Trace" "size" "I" ∈ en_tb := en_tbi (List.mem_of_getElem? (i := 102) (by decide +kernel)) (by decide +kernel)
set_option maxRecDepth 100000 in
set_option maxHeartbeats 4000000 in
theorem wd_551 : Cond.constant "EvenSteps" 155 100000 ∈ en_tb := en_tbi (List.mem_of_getElem? (i := 551) (by decide +kernel)) (by decide +kernel)
set_option maxRecDepth 100000 in
set_option maxHeartbeats 4000000 in
theorem wd_552 : Cond.methodLink "EvenSteps" 156 ⟨"EvenSteps$Slope", "wholeOf", "(JJJ)J"⟩ ∈ en_tb := en_tbi (List.mem_of_getElem? (i := 552) (by decide +kernel)) (by decide +kernel)
set_option maxRecDepth 100000 in
set_option maxHeartbeats 4000000 in
theorem wd_557 : Cond.constant "EvenSteps" 160 200000 ∈ en_tb := en_tbi (List.mem_of_getElem? (i := 557) (by decide +kernel)) (by decide +kernel)
set_option maxRecDepth 100000 in
set_option maxHeartbeats 4000000 in
theorem wd_558 : Cond.constant "EvenSteps" 161 (-1000000) ∈ en_tb := en_tbi (List.mem_of_getElem? (i := 558) (by decide +kernel)) (by decide +kernel)
set_option maxRecDepth 100000 in
set_option maxHeartbeats 4000000 in
theorem wd_559 : Cond.methodLink "EvenSteps" 162 ⟨"EvenSteps$Slope", "signOfSum", "(JJ)I"⟩ ∈ en_tb := en_tbi (List.mem_of_getElem? (i := 559) (by decide +kernel)) (by decide +kernel)
set_option maxRecDepth 100000 in
set_option maxHeartbeats 4000000 in
theorem wd_306 : Cond.fieldLink "EvenSteps" 166 "EvenSteps$Slope" "quotientCount" "I" ∈ en_tb := en_tbi (List.mem_of_getElem? (i := 306) (by decide +kernel)) (by decide +kernel)
set_option maxRecDepth 100000 in
set_option maxHeartbeats 4000000 in
theorem wd_304 : Cond.fieldLink "EvenSteps" 169 "EvenSteps$Slope" "quotients" "[I" ∈ en_tb := en_tbi (List.mem_of_getElem? (i := 304) (by decide +kernel)) (by decide +kernel)
set_option maxRecDepth 100000 in
set_option maxHeartbeats 4000000 in
theorem wd_574 : Cond.code ⟨"EvenSteps", "lineAt", "(LEvenSteps$Slope;I)I"⟩ prog_1_method_20_code 2 (some .int) ∈ en_tb := en_tbi (List.mem_of_getElem? (i := 574) (by decide +kernel)) (by decide +kernel)
set_option maxRecDepth 100000 in
set_option maxHeartbeats 4000000 in
theorem wd_573 : Cond.static ⟨"EvenSteps", "lineAt", "(LEvenSteps$Slope;I)I"⟩ ∈ en_tb := en_tbi (List.mem_of_getElem? (i := 573) (by decide +kernel)) (by decide +kernel)
set_option maxRecDepth 100000 in
set_option maxHeartbeats 4000000 in
theorem wd_572 : Cond.methodLink "EvenSteps" 172 ⟨"EvenSteps", "lineAt", "(LEvenSteps$Slope;I)I"⟩ ∈ en_tb := en_tbi (List.mem_of_getElem? (i := 572) (by decide +kernel)) (by decide +kernel)
set_option maxRecDepth 100000 in
set_option maxHeartbeats 4000000 in
theorem wd_581 : Cond.code ⟨"java/lang/Math", "floorMod", "(JJ)J"⟩ prog_17_method_52_code 6 (some .long) ∈ en_tb := en_tbi (List.mem_of_getElem? (i := 581) (by decide +kernel)) (by decide +kernel)
set_option maxRecDepth 100000 in
set_option maxHeartbeats 4000000 in
theorem wd_580 : Cond.static ⟨"java/lang/Math", "floorMod", "(JJ)J"⟩ ∈ en_tb := en_tbi (List.mem_of_getElem? (i := 580) (by decide +kernel)) (by decide +kernel)
set_option maxRecDepth 100000 in
set_option maxHeartbeats 4000000 in
theorem wd_579 : Cond.methodLink "EvenSteps" 176 ⟨"java/lang/Math", "floorMod", "(JJ)J"⟩ ∈ en_tb := en_tbi (List.mem_of_getElem? (i := 579) (by decide +kernel)) (by decide +kernel)
set_option maxRecDepth 100000 in
set_option maxHeartbeats 4000000 in
theorem wd_310 : Cond.fieldLink "EvenSteps" 182 "EvenSteps$Slope" "lineCount" "I" ∈ en_tb := en_tbi (List.mem_of_getElem? (i := 310) (by decide +kernel)) (by decide +kernel)
set_option maxRecDepth 100000 in
set_option maxHeartbeats 4000000 in
theorem wd_308 : Cond.fieldLink "EvenSteps" 185 "EvenSteps$Slope" "lines" "[I" ∈ en_tb := en_tbi (List.mem_of_getElem? (i := 308) (by decide +kernel)) (by decide +kernel)
set_option maxRecDepth 100000 in
set_option maxHeartbeats 4000000 in
theorem wd_410 : Cond.methodLink "EvenSteps" 188 ⟨"java/lang/Math", "max", "(II)I"⟩ ∈ en_tb := en_tbi (List.mem_of_getElem? (i := 410) (by decide +kernel)) (by decide +kernel)
set_option maxRecDepth 100000 in
set_option maxHeartbeats 4000000 in
theorem wd_588 : Cond.code ⟨"java/lang/Math", "floorMod", "(II)I"⟩ prog_17_method_50_code 3 (some .int) ∈ en_tb := en_tbi (List.mem_of_getElem? (i := 588) (by decide +kernel)) (by decide +kernel)
set_option maxRecDepth 100000 in
set_option maxHeartbeats 4000000 in
theorem wd_587 : Cond.static ⟨"java/lang/Math", "floorMod", "(II)I"⟩ ∈ en_tb := en_tbi (List.mem_of_getElem? (i := 587) (by decide +kernel)) (by decide +kernel)
set_option maxRecDepth 100000 in
set_option maxHeartbeats 4000000 in
theorem wd_586 : Cond.methodLink "EvenSteps" 192 ⟨"java/lang/Math", "floorMod", "(II)I"⟩ ∈ en_tb := en_tbi (List.mem_of_getElem? (i := 586) (by decide +kernel)) (by decide +kernel)
set_option maxRecDepth 100000 in
set_option maxHeartbeats 4000000 in
theorem wd_591 : Cond.code ⟨"java/lang/Math", "floorDiv", "(II)I"⟩ prog_17_method_47_code 3 (some .int) ∈ en_tb := en_tbi (List.mem_of_getElem? (i := 591) (by decide +kernel)) (by decide +kernel)
set_option maxRecDepth 100000 in
set_option maxHeartbeats 4000000 in
theorem wd_590 : Cond.static ⟨"java/lang/Math", "floorDiv", "(II)I"⟩ ∈ en_tb := en_tbi (List.mem_of_getElem? (i := 590) (by decide +kernel)) (by decide +kernel)
set_option maxRecDepth 100000 in
set_option maxHeartbeats 4000000 in
theorem wd_589 : Cond.methodLink "EvenSteps" 194 ⟨"java/lang/Math", "floorDiv", "(II)I"⟩ ∈ en_tb := en_tbi (List.mem_of_getElem? (i := 589) (by decide +kernel)) (by decide +kernel)
set_option maxRecDepth 100000 in
set_option maxHeartbeats 4000000 in
theorem wd_603 : Cond.code ⟨"EvenSteps$Slope", "sharesWith", "(LEvenSteps$Slope;)Z"⟩ prog_9_method_8_code 6 (some .boolean) ∈ en_tb := en_tbi (List.mem_of_getElem? (i := 603) (by decide +kernel)) (by decide +kernel)
set_option maxRecDepth 100000 in
set_option maxHeartbeats 4000000 in
theorem wd_600 : Cond.methodLink "EvenSteps" 197 ⟨"EvenSteps$Slope", "sharesWith", "(LEvenSteps$Slope;)Z"⟩ ∈ en_tb := en_tbi (List.mem_of_getElem? (i := 600) (by decide +kernel)) (by decide +kernel)
set_option maxRecDepth 100000 in
set_option maxHeartbeats 4000000 in
theorem wd_602 : Cond.selects "EvenSteps$Slope" ⟨"EvenSteps$Slope", "sharesWith", "(LEvenSteps$Slope;)Z"⟩ ⟨"EvenSteps$Slope", "sharesWith", "(LEvenSteps$Slope;)Z"⟩ ∈ en_tb := en_tbi (List.mem_of_getElem? (i := 602) (by decide +kernel)) (by decide +kernel)
set_option maxRecDepth 100000 in
set_option maxHeartbeats 4000000 in
theorem wd_601 : Cond.instanceMethod ⟨"EvenSteps$Slope", "sharesWith", "(LEvenSteps$Slope;)Z"⟩ ∈ en_tb := en_tbi (List.mem_of_getElem? (i := 601) (by decide +kernel)) (by decide +kernel)
set_option maxRecDepth 100000 in
set_option maxHeartbeats 4000000 in
theorem wd_606 : Cond.code ⟨"EvenSteps", "unshared", "(LEvenSteps$Slope;LEvenSteps$Slope;)I"⟩ prog_1_method_22_code 7 (some .int) ∈ en_tb := en_tbi (List.mem_of_getElem? (i := 606) (by decide +kernel)) (by decide +kernel)
set_option maxRecDepth 100000 in
set_option maxHeartbeats 4000000 in
theorem wd_605 : Cond.static ⟨"EvenSteps", "unshared", "(LEvenSteps$Slope;LEvenSteps$Slope;)I"⟩ ∈ en_tb := en_tbi (List.mem_of_getElem? (i := 605) (by decide +kernel)) (by decide +kernel)
set_option maxRecDepth 100000 in
set_option maxHeartbeats 4000000 in
theorem wd_604 : Cond.methodLink "EvenSteps" 201 ⟨"EvenSteps", "unshared", "(LEvenSteps$Slope;LEvenSteps$Slope;)I"⟩ ∈ en_tb := en_tbi (List.mem_of_getElem? (i := 604) (by decide +kernel)) (by decide +kernel)
set_option maxRecDepth 100000 in
set_option maxHeartbeats 4000000 in
theorem wd_607 : Cond.constantLong "EvenSteps" 205 (-1) ∈ en_tb := en_tbi (List.mem_of_getElem? (i := 607) (by decide +kernel)) (by decide +kernel)
set_option maxRecDepth 100000 in
set_option maxHeartbeats 4000000 in
theorem wd_265 : Cond.constantLong "EvenSteps" 207 2 ∈ en_tb := en_tbi (List.mem_of_getElem? (i := 265) (by decide +kernel)) (by decide +kernel)
set_option maxRecDepth 100000 in
set_option maxHeartbeats 4000000 in
theorem wd_610 : Cond.code ⟨"EvenSteps", "tellings", "(LEvenSteps$Slope;II)I"⟩ prog_1_method_23_code 4 (some .int) ∈ en_tb := en_tbi (List.mem_of_getElem? (i := 610) (by decide +kernel)) (by decide +kernel)
set_option maxRecDepth 100000 in
set_option maxHeartbeats 4000000 in
theorem wd_609 : Cond.static ⟨"EvenSteps", "tellings", "(LEvenSteps$Slope;II)I"⟩ ∈ en_tb := en_tbi (List.mem_of_getElem? (i := 609) (by decide +kernel)) (by decide +kernel)
set_option maxRecDepth 100000 in
set_option maxHeartbeats 4000000 in
theorem wd_608 : Cond.methodLink "EvenSteps" 209 ⟨"EvenSteps", "tellings", "(LEvenSteps$Slope;II)I"⟩ ∈ en_tb := en_tbi (List.mem_of_getElem? (i := 608) (by decide +kernel)) (by decide +kernel)
set_option maxRecDepth 100000 in
set_option maxHeartbeats 4000000 in
theorem wd_617 : Cond.sameMethod "EvenSteps$Row" "EvenSteps$Row" "kindNumber" "()I" ∈ en_tb := en_tbi (List.mem_of_getElem? (i := 617) (by decide +kernel)) (by decide +kernel)
set_option maxRecDepth 100000 in
set_option maxHeartbeats 4000000 in
theorem wd_620 : Cond.code ⟨"EvenSteps$Cut", "kindNumber", "()I"⟩ prog_3_method_2_code 1 (some .int) ∈ en_tb := en_tbi (List.mem_of_getElem? (i := 620) (by decide +kernel)) (by decide +kernel)
set_option maxRecDepth 100000 in
set_option maxHeartbeats 4000000 in
theorem wd_615 : Cond.methodLink "EvenSteps" 213 ⟨"EvenSteps$Row", "kindNumber", "()I"⟩ ∈ en_tb := en_tbi (List.mem_of_getElem? (i := 615) (by decide +kernel)) (by decide +kernel)
set_option maxRecDepth 100000 in
set_option maxHeartbeats 4000000 in
theorem wd_618 : Cond.selects "EvenSteps$Cut" ⟨"EvenSteps$Row", "kindNumber", "()I"⟩ ⟨"EvenSteps$Cut", "kindNumber", "()I"⟩ ∈ en_tb := en_tbi (List.mem_of_getElem? (i := 618) (by decide +kernel)) (by decide +kernel)
set_option maxRecDepth 100000 in
set_option maxHeartbeats 4000000 in
theorem wd_619 : Cond.instanceMethod ⟨"EvenSteps$Cut", "kindNumber", "()I"⟩ ∈ en_tb := en_tbi (List.mem_of_getElem? (i := 619) (by decide +kernel)) (by decide +kernel)
set_option maxRecDepth 100000 in
set_option maxHeartbeats 4000000 in
theorem wd_623 : Cond.code ⟨"EvenSteps$Even", "kindNumber", "()I"⟩ prog_4_method_2_code 1 (some .int) ∈ en_tb := en_tbi (List.mem_of_getElem? (i := 623) (by decide +kernel)) (by decide +kernel)
set_option maxRecDepth 100000 in
set_option maxHeartbeats 4000000 in
theorem wd_621 : Cond.selects "EvenSteps$Even" ⟨"EvenSteps$Row", "kindNumber", "()I"⟩ ⟨"EvenSteps$Even", "kindNumber", "()I"⟩ ∈ en_tb := en_tbi (List.mem_of_getElem? (i := 621) (by decide +kernel)) (by decide +kernel)
set_option maxRecDepth 100000 in
set_option maxHeartbeats 4000000 in
theorem wd_622 : Cond.instanceMethod ⟨"EvenSteps$Even", "kindNumber", "()I"⟩ ∈ en_tb := en_tbi (List.mem_of_getElem? (i := 622) (by decide +kernel)) (by decide +kernel)
set_option maxRecDepth 100000 in
set_option maxHeartbeats 4000000 in
theorem wd_626 : Cond.code ⟨"EvenSteps$Points", "kindNumber", "()I"⟩ prog_5_method_2_code 1 (some .int) ∈ en_tb := en_tbi (List.mem_of_getElem? (i := 626) (by decide +kernel)) (by decide +kernel)
set_option maxRecDepth 100000 in
set_option maxHeartbeats 4000000 in
theorem wd_624 : Cond.selects "EvenSteps$Points" ⟨"EvenSteps$Row", "kindNumber", "()I"⟩ ⟨"EvenSteps$Points", "kindNumber", "()I"⟩ ∈ en_tb := en_tbi (List.mem_of_getElem? (i := 624) (by decide +kernel)) (by decide +kernel)
set_option maxRecDepth 100000 in
set_option maxHeartbeats 4000000 in
theorem wd_625 : Cond.instanceMethod ⟨"EvenSteps$Points", "kindNumber", "()I"⟩ ∈ en_tb := en_tbi (List.mem_of_getElem? (i := 625) (by decide +kernel)) (by decide +kernel)
set_option maxRecDepth 100000 in
set_option maxHeartbeats 4000000 in
theorem wd_629 : Cond.code ⟨"EvenSteps$Ring", "kindNumber", "()I"⟩ prog_6_method_2_code 1 (some .int) ∈ en_tb := en_tbi (List.mem_of_getElem? (i := 629) (by decide +kernel)) (by decide +kernel)
set_option maxRecDepth 100000 in
set_option maxHeartbeats 4000000 in
theorem wd_627 : Cond.selects "EvenSteps$Ring" ⟨"EvenSteps$Row", "kindNumber", "()I"⟩ ⟨"EvenSteps$Ring", "kindNumber", "()I"⟩ ∈ en_tb := en_tbi (List.mem_of_getElem? (i := 627) (by decide +kernel)) (by decide +kernel)
set_option maxRecDepth 100000 in
set_option maxHeartbeats 4000000 in
theorem wd_628 : Cond.instanceMethod ⟨"EvenSteps$Ring", "kindNumber", "()I"⟩ ∈ en_tb := en_tbi (List.mem_of_getElem? (i := 628) (by decide +kernel)) (by decide +kernel)
set_option maxRecDepth 100000 in
set_option maxHeartbeats 4000000 in
theorem wd_632 : Cond.code ⟨"EvenSteps$Told", "kindNumber", "()I"⟩ prog_11_method_2_code 1 (some .int) ∈ en_tb := en_tbi (List.mem_of_getElem? (i := 632) (by decide +kernel)) (by decide +kernel)
set_option maxRecDepth 100000 in
set_option maxHeartbeats 4000000 in
theorem wd_630 : Cond.selects "EvenSteps$Told" ⟨"EvenSteps$Row", "kindNumber", "()I"⟩ ⟨"EvenSteps$Told", "kindNumber", "()I"⟩ ∈ en_tb := en_tbi (List.mem_of_getElem? (i := 630) (by decide +kernel)) (by decide +kernel)
set_option maxRecDepth 100000 in
set_option maxHeartbeats 4000000 in
theorem wd_631 : Cond.instanceMethod ⟨"EvenSteps$Told", "kindNumber", "()I"⟩ ∈ en_tb := en_tbi (List.mem_of_getElem? (i := 631) (by decide +kernel)) (by decide +kernel)
set_option maxRecDepth 100000 in
set_option maxHeartbeats 4000000 in
theorem wd_382 : Cond.methodLink "EvenSteps" 216 ⟨"EvenSteps$Row", "stepAt", "(I)I"⟩ ∈ en_tb := en_tbi (List.mem_of_getElem? (i := 382) (by decide +kernel)) (by decide +kernel)
set_option maxRecDepth 100000 in
set_option maxHeartbeats 4000000 in
theorem wd_643 : Cond.sameMethod "EvenSteps$Row" "EvenSteps$Row" "sumOf" "(I)I" ∈ en_tb := en_tbi (List.mem_of_getElem? (i := 643) (by decide +kernel)) (by decide +kernel)
set_option maxRecDepth 100000 in
set_option maxHeartbeats 4000000 in
theorem wd_646 : Cond.code ⟨"EvenSteps$Cut", "sumOf", "(I)I"⟩ prog_3_method_4_code 4 (some .int) ∈ en_tb := en_tbi (List.mem_of_getElem? (i := 646) (by decide +kernel)) (by decide +kernel)
set_option maxRecDepth 100000 in
set_option maxHeartbeats 4000000 in
theorem wd_641 : Cond.methodLink "EvenSteps" 219 ⟨"EvenSteps$Row", "sumOf", "(I)I"⟩ ∈ en_tb := en_tbi (List.mem_of_getElem? (i := 641) (by decide +kernel)) (by decide +kernel)
set_option maxRecDepth 100000 in
set_option maxHeartbeats 4000000 in
theorem wd_644 : Cond.selects "EvenSteps$Cut" ⟨"EvenSteps$Row", "sumOf", "(I)I"⟩ ⟨"EvenSteps$Cut", "sumOf", "(I)I"⟩ ∈ en_tb := en_tbi (List.mem_of_getElem? (i := 644) (by decide +kernel)) (by decide +kernel)
set_option maxRecDepth 100000 in
set_option maxHeartbeats 4000000 in
theorem wd_645 : Cond.instanceMethod ⟨"EvenSteps$Cut", "sumOf", "(I)I"⟩ ∈ en_tb := en_tbi (List.mem_of_getElem? (i := 645) (by decide +kernel)) (by decide +kernel)
set_option maxRecDepth 100000 in
set_option maxHeartbeats 4000000 in
theorem wd_655 : Cond.code ⟨"EvenSteps$Even", "sumOf", "(I)I"⟩ prog_4_method_4_code 2 (some .int) ∈ en_tb := en_tbi (List.mem_of_getElem? (i := 655) (by decide +kernel)) (by decide +kernel)
set_option maxRecDepth 100000 in
set_option maxHeartbeats 4000000 in
theorem wd_653 : Cond.selects "EvenSteps$Even" ⟨"EvenSteps$Row", "sumOf", "(I)I"⟩ ⟨"EvenSteps$Even", "sumOf", "(I)I"⟩ ∈ en_tb := en_tbi (List.mem_of_getElem? (i := 653) (by decide +kernel)) (by decide +kernel)
set_option maxRecDepth 100000 in
set_option maxHeartbeats 4000000 in
theorem wd_654 : Cond.instanceMethod ⟨"EvenSteps$Even", "sumOf", "(I)I"⟩ ∈ en_tb := en_tbi (List.mem_of_getElem? (i := 654) (by decide +kernel)) (by decide +kernel)
set_option maxRecDepth 100000 in
set_option maxHeartbeats 4000000 in
theorem wd_656 : Cond.selects "EvenSteps$Points" ⟨"EvenSteps$Row", "sumOf", "(I)I"⟩ ⟨"EvenSteps$Even", "sumOf", "(I)I"⟩ ∈ en_tb := en_tbi (List.mem_of_getElem? (i := 656) (by decide +kernel)) (by decide +kernel)
set_option maxRecDepth 100000 in
set_option maxHeartbeats 4000000 in
theorem wd_657 : Cond.selects "EvenSteps$Ring" ⟨"EvenSteps$Row", "sumOf", "(I)I"⟩ ⟨"EvenSteps$Even", "sumOf", "(I)I"⟩ ∈ en_tb := en_tbi (List.mem_of_getElem? (i := 657) (by decide +kernel)) (by decide +kernel)
set_option maxRecDepth 100000 in
set_option maxHeartbeats 4000000 in
theorem wd_660 : Cond.code ⟨"EvenSteps$Told", "sumOf", "(I)I"⟩ prog_11_method_4_code 4 (some .int) ∈ en_tb := en_tbi (List.mem_of_getElem? (i := 660) (by decide +kernel)) (by decide +kernel)
set_option maxRecDepth 100000 in
set_option maxHeartbeats 4000000 in
theorem wd_658 : Cond.selects "EvenSteps$Told" ⟨"EvenSteps$Row", "sumOf", "(I)I"⟩ ⟨"EvenSteps$Told", "sumOf", "(I)I"⟩ ∈ en_tb := en_tbi (List.mem_of_getElem? (i := 658) (by decide +kernel)) (by decide +kernel)
set_option maxRecDepth 100000 in
set_option maxHeartbeats 4000000 in
theorem wd_659 : Cond.instanceMethod ⟨"EvenSteps$Told", "sumOf", "(I)I"⟩ ∈ en_tb := en_tbi (List.mem_of_getElem? (i := 659) (by decide +kernel)) (by decide +kernel)
set_option maxRecDepth 100000 in
set_option maxHeartbeats 4000000 in
theorem wd_668 : Cond.code ⟨"EvenSteps$Stretch", "read", "(LEvenSteps$Row;II)Z"⟩ prog_10_method_2_code 6 (some .boolean) ∈ en_tb := en_tbi (List.mem_of_getElem? (i := 668) (by decide +kernel)) (by decide +kernel)
set_option maxRecDepth 100000 in
set_option maxHeartbeats 4000000 in
theorem wd_665 : Cond.methodLink "EvenSteps" 222 ⟨"EvenSteps$Stretch", "read", "(LEvenSteps$Row;II)Z"⟩ ∈ en_tb := en_tbi (List.mem_of_getElem? (i := 665) (by decide +kernel)) (by decide +kernel)
set_option maxRecDepth 100000 in
set_option maxHeartbeats 4000000 in
theorem wd_667 : Cond.selects "EvenSteps$Stretch" ⟨"EvenSteps$Stretch", "read", "(LEvenSteps$Row;II)Z"⟩ ⟨"EvenSteps$Stretch", "read", "(LEvenSteps$Row;II)Z"⟩ ∈ en_tb := en_tbi (List.mem_of_getElem? (i := 667) (by decide +kernel)) (by decide +kernel)
set_option maxRecDepth 100000 in
set_option maxHeartbeats 4000000 in
theorem wd_666 : Cond.instanceMethod ⟨"EvenSteps$Stretch", "read", "(LEvenSteps$Row;II)Z"⟩ ∈ en_tb := en_tbi (List.mem_of_getElem? (i := 666) (by decide +kernel)) (by decide +kernel)
set_option maxRecDepth 100000 in
set_option maxHeartbeats 4000000 in
theorem wd_673 : Cond.code ⟨"EvenSteps$Stretch", "findClash", "()Z"⟩ prog_10_method_5_code 2 (some .boolean) ∈ en_tb := en_tbi (List.mem_of_getElem? (i := 673) (by decide +kernel)) (by decide +kernel)
set_option maxRecDepth 100000 in
set_option maxHeartbeats 4000000 in
theorem wd_670 : Cond.methodLink "EvenSteps" 226 ⟨"EvenSteps$Stretch", "findClash", "()Z"⟩ ∈ en_tb := en_tbi (List.mem_of_getElem? (i := 670) (by decide +kernel)) (by decide +kernel)
set_option maxRecDepth 100000 in
set_option maxHeartbeats 4000000 in
theorem wd_672 : Cond.selects "EvenSteps$Stretch" ⟨"EvenSteps$Stretch", "findClash", "()Z"⟩ ⟨"EvenSteps$Stretch", "findClash", "()Z"⟩ ∈ en_tb := en_tbi (List.mem_of_getElem? (i := 672) (by decide +kernel)) (by decide +kernel)
set_option maxRecDepth 100000 in
set_option maxHeartbeats 4000000 in
theorem wd_671 : Cond.instanceMethod ⟨"EvenSteps$Stretch", "findClash", "()Z"⟩ ∈ en_tb := en_tbi (List.mem_of_getElem? (i := 671) (by decide +kernel)) (by decide +kernel)
set_option maxRecDepth 100000 in
set_option maxHeartbeats 4000000 in
theorem wd_116 : Cond.fieldLink "EvenSteps" 229 "EvenSteps$Stretch" "clashLength" "I" ∈ en_tb := en_tbi (List.mem_of_getElem? (i := 116) (by decide +kernel)) (by decide +kernel)
set_option maxRecDepth 100000 in
set_option maxHeartbeats 4000000 in
theorem wd_118 : Cond.fieldLink "EvenSteps" 232 "EvenSteps$Stretch" "clashFirst" "I" ∈ en_tb := en_tbi (List.mem_of_getElem? (i := 118) (by decide +kernel)) (by decide +kernel)
set_option maxRecDepth 100000 in
set_option maxHeartbeats 4000000 in
theorem wd_120 : Cond.fieldLink "EvenSteps" 235 "EvenSteps$Stretch" "clashOther" "I" ∈ en_tb := en_tbi (List.mem_of_getElem? (i := 120) (by decide +kernel)) (by decide +kernel)
set_option maxRecDepth 100000 in
set_option maxHeartbeats 4000000 in
theorem wd_704 : Cond.code ⟨"EvenSteps$Stretch", "findRange", "()Z"⟩ prog_10_method_7_code 2 (some .boolean) ∈ en_tb := en_tbi (List.mem_of_getElem? (i := 704) (by decide +kernel)) (by decide +kernel)
set_option maxRecDepth 100000 in
set_option maxHeartbeats 4000000 in
theorem wd_701 : Cond.methodLink "EvenSteps" 238 ⟨"EvenSteps$Stretch", "findRange", "()Z"⟩ ∈ en_tb := en_tbi (List.mem_of_getElem? (i := 701) (by decide +kernel)) (by decide +kernel)
set_option maxRecDepth 100000 in
set_option maxHeartbeats 4000000 in
theorem wd_703 : Cond.selects "EvenSteps$Stretch" ⟨"EvenSteps$Stretch", "findRange", "()Z"⟩ ⟨"EvenSteps$Stretch", "findRange", "()Z"⟩ ∈ en_tb := en_tbi (List.mem_of_getElem? (i := 703) (by decide +kernel)) (by decide +kernel)
set_option maxRecDepth 100000 in
set_option maxHeartbeats 4000000 in
theorem wd_702 : Cond.instanceMethod ⟨"EvenSteps$Stretch", "findRange", "()Z"⟩ ∈ en_tb := en_tbi (List.mem_of_getElem? (i := 702) (by decide +kernel)) (by decide +kernel)
set_option maxRecDepth 100000 in
set_option maxHeartbeats 4000000 in
theorem wd_122 : Cond.fieldLink "EvenSteps" 241 "EvenSteps$Stretch" "lowAbove" "I" ∈ en_tb := en_tbi (List.mem_of_getElem? (i := 122) (by decide +kernel)) (by decide +kernel)
set_option maxRecDepth 100000 in
set_option maxHeartbeats 4000000 in
theorem wd_126 : Cond.fieldLink "EvenSteps" 244 "EvenSteps$Stretch" "highAbove" "I" ∈ en_tb := en_tbi (List.mem_of_getElem? (i := 126) (by decide +kernel)) (by decide +kernel)
set_option maxRecDepth 100000 in
set_option maxHeartbeats 4000000 in
theorem wd_124 : Cond.fieldLink "EvenSteps" 247 "EvenSteps$Stretch" "lowBelow" "I" ∈ en_tb := en_tbi (List.mem_of_getElem? (i := 124) (by decide +kernel)) (by decide +kernel)
set_option maxRecDepth 100000 in
set_option maxHeartbeats 4000000 in
theorem wd_128 : Cond.fieldLink "EvenSteps" 250 "EvenSteps$Stretch" "highBelow" "I" ∈ en_tb := en_tbi (List.mem_of_getElem? (i := 128) (by decide +kernel)) (by decide +kernel)
set_option maxRecDepth 100000 in
set_option maxHeartbeats 4000000 in
theorem wd_705 : Cond.methodLink "EvenSteps" 253 ⟨"EvenSteps", "commonOf", "(JJ)J"⟩ ∈ en_tb := en_tbi (List.mem_of_getElem? (i := 705) (by decide +kernel)) (by decide +kernel)
set_option maxRecDepth 100000 in
set_option maxHeartbeats 4000000 in
theorem wd_713 : Cond.code ⟨"EvenSteps", "readPartSteps", "(LEvenSteps$Row;)I"⟩ prog_1_method_31_code 4 (some .int) ∈ en_tb := en_tbi (List.mem_of_getElem? (i := 713) (by decide +kernel)) (by decide +kernel)
set_option maxRecDepth 100000 in
set_option maxHeartbeats 4000000 in
theorem wd_710 : Cond.methodLink "EvenSteps" 256 ⟨"EvenSteps", "readPartSteps", "(LEvenSteps$Row;)I"⟩ ∈ en_tb := en_tbi (List.mem_of_getElem? (i := 710) (by decide +kernel)) (by decide +kernel)
set_option maxRecDepth 100000 in
set_option maxHeartbeats 4000000 in
theorem wd_13 : Cond.selects "EvenSteps" ⟨"EvenSteps", "readPartSteps", "(LEvenSteps$Row;)I"⟩ ⟨"EvenSteps", "readPartSteps", "(LEvenSteps$Row;)I"⟩ ∈ en_tb := en_tbi (List.mem_of_getElem? (i := 13) (by decide +kernel)) (by decide +kernel)
set_option maxRecDepth 100000 in
set_option maxHeartbeats 4000000 in
theorem wd_712 : Cond.instanceMethod ⟨"EvenSteps", "readPartSteps", "(LEvenSteps$Row;)I"⟩ ∈ en_tb := en_tbi (List.mem_of_getElem? (i := 712) (by decide +kernel)) (by decide +kernel)
set_option maxRecDepth 100000 in
set_option maxHeartbeats 4000000 in
theorem wd_717 : Cond.code ⟨"EvenSteps", "findUnlike", "(II)I"⟩ prog_1_method_32_code 5 (some .int) ∈ en_tb := en_tbi (List.mem_of_getElem? (i := 717) (by decide +kernel)) (by decide +kernel)
set_option maxRecDepth 100000 in
set_option maxHeartbeats 4000000 in
theorem wd_714 : Cond.methodLink "EvenSteps" 259 ⟨"EvenSteps", "findUnlike", "(II)I"⟩ ∈ en_tb := en_tbi (List.mem_of_getElem? (i := 714) (by decide +kernel)) (by decide +kernel)
set_option maxRecDepth 100000 in
set_option maxHeartbeats 4000000 in
theorem wd_14 : Cond.selects "EvenSteps" ⟨"EvenSteps", "findUnlike", "(II)I"⟩ ⟨"EvenSteps", "findUnlike", "(II)I"⟩ ∈ en_tb := en_tbi (List.mem_of_getElem? (i := 14) (by decide +kernel)) (by decide +kernel)
set_option maxRecDepth 100000 in
set_option maxHeartbeats 4000000 in
theorem wd_716 : Cond.instanceMethod ⟨"EvenSteps", "findUnlike", "(II)I"⟩ ∈ en_tb := en_tbi (List.mem_of_getElem? (i := 716) (by decide +kernel)) (by decide +kernel)
set_option maxRecDepth 100000 in
set_option maxHeartbeats 4000000 in
theorem wd_729 : Cond.code ⟨"EvenSteps", "readsAlikeBackward", "(II)Z"⟩ prog_1_method_35_code 4 (some .boolean) ∈ en_tb := en_tbi (List.mem_of_getElem? (i := 729) (by decide +kernel)) (by decide +kernel)
set_option maxRecDepth 100000 in
set_option maxHeartbeats 4000000 in
theorem wd_726 : Cond.methodLink "EvenSteps" 262 ⟨"EvenSteps", "readsAlikeBackward", "(II)Z"⟩ ∈ en_tb := en_tbi (List.mem_of_getElem? (i := 726) (by decide +kernel)) (by decide +kernel)
set_option maxRecDepth 100000 in
set_option maxHeartbeats 4000000 in
theorem wd_17 : Cond.selects "EvenSteps" ⟨"EvenSteps", "readsAlikeBackward", "(II)Z"⟩ ⟨"EvenSteps", "readsAlikeBackward", "(II)Z"⟩ ∈ en_tb := en_tbi (List.mem_of_getElem? (i := 17) (by decide +kernel)) (by decide +kernel)
set_option maxRecDepth 100000 in
set_option maxHeartbeats 4000000 in
theorem wd_728 : Cond.instanceMethod ⟨"EvenSteps", "readsAlikeBackward", "(II)Z"⟩ ∈ en_tb := en_tbi (List.mem_of_getElem? (i := 728) (by decide +kernel)) (by decide +kernel)
set_option maxRecDepth 100000 in
set_option maxHeartbeats 4000000 in
theorem wd_721 : Cond.code ⟨"EvenSteps", "isAmongParts", "(III)Z"⟩ prog_1_method_33_code 5 (some .boolean) ∈ en_tb := en_tbi (List.mem_of_getElem? (i := 721) (by decide +kernel)) (by decide +kernel)
set_option maxRecDepth 100000 in
set_option maxHeartbeats 4000000 in
theorem wd_718 : Cond.methodLink "EvenSteps" 265 ⟨"EvenSteps", "isAmongParts", "(III)Z"⟩ ∈ en_tb := en_tbi (List.mem_of_getElem? (i := 718) (by decide +kernel)) (by decide +kernel)
set_option maxRecDepth 100000 in
set_option maxHeartbeats 4000000 in
theorem wd_15 : Cond.selects "EvenSteps" ⟨"EvenSteps", "isAmongParts", "(III)Z"⟩ ⟨"EvenSteps", "isAmongParts", "(III)Z"⟩ ∈ en_tb := en_tbi (List.mem_of_getElem? (i := 15) (by decide +kernel)) (by decide +kernel)
set_option maxRecDepth 100000 in
set_option maxHeartbeats 4000000 in
theorem wd_720 : Cond.instanceMethod ⟨"EvenSteps", "isAmongParts", "(III)Z"⟩ ∈ en_tb := en_tbi (List.mem_of_getElem? (i := 720) (by decide +kernel)) (by decide +kernel)
set_option maxRecDepth 100000 in
set_option maxHeartbeats 4000000 in
theorem wd_725 : Cond.code ⟨"EvenSteps", "readsAlike", "(III)Z"⟩ prog_1_method_34_code 5 (some .boolean) ∈ en_tb := en_tbi (List.mem_of_getElem? (i := 725) (by decide +kernel)) (by decide +kernel)
set_option maxRecDepth 100000 in
set_option maxHeartbeats 4000000 in
theorem wd_722 : Cond.methodLink "EvenSteps" 269 ⟨"EvenSteps", "readsAlike", "(III)Z"⟩ ∈ en_tb := en_tbi (List.mem_of_getElem? (i := 722) (by decide +kernel)) (by decide +kernel)
set_option maxRecDepth 100000 in
set_option maxHeartbeats 4000000 in
theorem wd_16 : Cond.selects "EvenSteps" ⟨"EvenSteps", "readsAlike", "(III)Z"⟩ ⟨"EvenSteps", "readsAlike", "(III)Z"⟩ ∈ en_tb := en_tbi (List.mem_of_getElem? (i := 16) (by decide +kernel)) (by decide +kernel)
set_option maxRecDepth 100000 in
set_option maxHeartbeats 4000000 in
theorem wd_724 : Cond.instanceMethod ⟨"EvenSteps", "readsAlike", "(III)Z"⟩ ∈ en_tb := en_tbi (List.mem_of_getElem? (i := 724) (by decide +kernel)) (by decide +kernel)
set_option maxRecDepth 100000 in
set_option maxHeartbeats 4000000 in
theorem wd_737 : Cond.code ⟨"EvenSteps", "layPoints", "(II)Z"⟩ prog_1_method_39_code 5 (some .boolean) ∈ en_tb := en_tbi (List.mem_of_getElem? (i := 737) (by decide +kernel)) (by decide +kernel)
set_option maxRecDepth 100000 in
set_option maxHeartbeats 4000000 in
theorem wd_734 : Cond.methodLink "EvenSteps" 272 ⟨"EvenSteps", "layPoints", "(II)Z"⟩ ∈ en_tb := en_tbi (List.mem_of_getElem? (i := 734) (by decide +kernel)) (by decide +kernel)
set_option maxRecDepth 100000 in
set_option maxHeartbeats 4000000 in
theorem wd_18 : Cond.selects "EvenSteps" ⟨"EvenSteps", "layPoints", "(II)Z"⟩ ⟨"EvenSteps", "layPoints", "(II)Z"⟩ ∈ en_tb := en_tbi (List.mem_of_getElem? (i := 18) (by decide +kernel)) (by decide +kernel)
set_option maxRecDepth 100000 in
set_option maxHeartbeats 4000000 in
theorem wd_736 : Cond.instanceMethod ⟨"EvenSteps", "layPoints", "(II)Z"⟩ ∈ en_tb := en_tbi (List.mem_of_getElem? (i := 736) (by decide +kernel)) (by decide +kernel)
set_option maxRecDepth 100000 in
set_option maxHeartbeats 4000000 in
theorem wd_171 : Cond.fieldLink "EvenSteps" 275 "EvenSteps$Circle" "sorts" "I" ∈ en_tb := en_tbi (List.mem_of_getElem? (i := 171) (by decide +kernel)) (by decide +kernel)
set_option maxRecDepth 100000 in
set_option maxHeartbeats 4000000 in
theorem wd_165 : Cond.fieldLink "EvenSteps" 278 "EvenSteps$Circle" "counts" "[I" ∈ en_tb := en_tbi (List.mem_of_getElem? (i := 165) (by decide +kernel)) (by decide +kernel)
set_option maxRecDepth 100000 in
set_option maxHeartbeats 4000000 in
theorem wd_167 : Cond.fieldLink "EvenSteps" 281 "EvenSteps$Circle" "wholes" "[I" ∈ en_tb := en_tbi (List.mem_of_getElem? (i := 167) (by decide +kernel)) (by decide +kernel)
set_option maxRecDepth 100000 in
set_option maxHeartbeats 4000000 in
theorem wd_169 : Cond.fieldLink "EvenSteps" 284 "EvenSteps$Circle" "times" "[I" ∈ en_tb := en_tbi (List.mem_of_getElem? (i := 169) (by decide +kernel)) (by decide +kernel)
set_option maxRecDepth 100000 in
set_option maxHeartbeats 4000000 in
theorem wd_163 : Cond.fieldLink "EvenSteps" 287 "EvenSteps$Circle" "next" "[I" ∈ en_tb := en_tbi (List.mem_of_getElem? (i := 163) (by decide +kernel)) (by decide +kernel)
set_option maxRecDepth 100000 in
set_option maxHeartbeats 4000000 in
theorem wd_427 : Cond.sameField "EvenSteps$Points" "EvenSteps$Even" "slope" "LEvenSteps$Slope;" ∈ en_tb := en_tbi (List.mem_of_getElem? (i := 427) (by decide +kernel)) (by decide +kernel)
set_option maxRecDepth 100000 in
set_option maxHeartbeats 4000000 in
theorem wd_426 : Cond.fieldLink "EvenSteps" 290 "EvenSteps$Points" "slope" "LEvenSteps$Slope;" ∈ en_tb := en_tbi (List.mem_of_getElem? (i := 426) (by decide +kernel)) (by decide +kernel)
set_option maxRecDepth 100000 in
set_option maxHeartbeats 4000000 in
theorem wd_741 : Cond.code ⟨"EvenSteps$Slope", "hasUnlikePoints", "(I)Z"⟩ prog_9_method_9_code 2 (some .boolean) ∈ en_tb := en_tbi (List.mem_of_getElem? (i := 741) (by decide +kernel)) (by decide +kernel)
set_option maxRecDepth 100000 in
set_option maxHeartbeats 4000000 in
theorem wd_738 : Cond.methodLink "EvenSteps" 294 ⟨"EvenSteps$Slope", "hasUnlikePoints", "(I)Z"⟩ ∈ en_tb := en_tbi (List.mem_of_getElem? (i := 738) (by decide +kernel)) (by decide +kernel)
set_option maxRecDepth 100000 in
set_option maxHeartbeats 4000000 in
theorem wd_740 : Cond.selects "EvenSteps$Slope" ⟨"EvenSteps$Slope", "hasUnlikePoints", "(I)Z"⟩ ⟨"EvenSteps$Slope", "hasUnlikePoints", "(I)Z"⟩ ∈ en_tb := en_tbi (List.mem_of_getElem? (i := 740) (by decide +kernel)) (by decide +kernel)
set_option maxRecDepth 100000 in
set_option maxHeartbeats 4000000 in
theorem wd_739 : Cond.instanceMethod ⟨"EvenSteps$Slope", "hasUnlikePoints", "(I)Z"⟩ ∈ en_tb := en_tbi (List.mem_of_getElem? (i := 739) (by decide +kernel)) (by decide +kernel)
set_option maxRecDepth 100000 in
set_option maxHeartbeats 4000000 in
theorem wd_745 : Cond.code ⟨"EvenSteps$Circle", "lay", "(LEvenSteps$Slope;I)V"⟩ prog_2_method_2_code 5 none ∈ en_tb := en_tbi (List.mem_of_getElem? (i := 745) (by decide +kernel)) (by decide +kernel)
set_option maxRecDepth 100000 in
set_option maxHeartbeats 4000000 in
theorem wd_742 : Cond.methodLink "EvenSteps" 297 ⟨"EvenSteps$Circle", "lay", "(LEvenSteps$Slope;I)V"⟩ ∈ en_tb := en_tbi (List.mem_of_getElem? (i := 742) (by decide +kernel)) (by decide +kernel)
set_option maxRecDepth 100000 in
set_option maxHeartbeats 4000000 in
theorem wd_744 : Cond.selects "EvenSteps$Circle" ⟨"EvenSteps$Circle", "lay", "(LEvenSteps$Slope;I)V"⟩ ⟨"EvenSteps$Circle", "lay", "(LEvenSteps$Slope;I)V"⟩ ∈ en_tb := en_tbi (List.mem_of_getElem? (i := 744) (by decide +kernel)) (by decide +kernel)
set_option maxRecDepth 100000 in
set_option maxHeartbeats 4000000 in
theorem wd_743 : Cond.instanceMethod ⟨"EvenSteps$Circle", "lay", "(LEvenSteps$Slope;I)V"⟩ ∈ en_tb := en_tbi (List.mem_of_getElem? (i := 743) (by decide +kernel)) (by decide +kernel)
set_option maxRecDepth 100000 in
set_option maxHeartbeats 4000000 in
theorem wd_780 : Cond.methodLink "EvenSteps" 301 ⟨"java/lang/Math", "min", "(II)I"⟩ ∈ en_tb := en_tbi (List.mem_of_getElem? (i := 780) (by decide +kernel)) (by decide +kernel)
set_option maxRecDepth 100000 in
set_option maxHeartbeats 4000000 in
theorem wd_781 : Cond.methodLink "EvenSteps" 304 ⟨"java/lang/Math", "abs", "(I)I"⟩ ∈ en_tb := en_tbi (List.mem_of_getElem? (i := 781) (by decide +kernel)) (by decide +kernel)
set_option maxRecDepth 100000 in
set_option maxHeartbeats 4000000 in
theorem wd_784 : Cond.code ⟨"EvenSteps", "repeated", "(JII)J"⟩ prog_1_method_41_code 7 (some .long) ∈ en_tb := en_tbi (List.mem_of_getElem? (i := 784) (by decide +kernel)) (by decide +kernel)
set_option maxRecDepth 100000 in
set_option maxHeartbeats 4000000 in
theorem wd_783 : Cond.static ⟨"EvenSteps", "repeated", "(JII)J"⟩ ∈ en_tb := en_tbi (List.mem_of_getElem? (i := 783) (by decide +kernel)) (by decide +kernel)
set_option maxRecDepth 100000 in
set_option maxHeartbeats 4000000 in
theorem wd_782 : Cond.methodLink "EvenSteps" 307 ⟨"EvenSteps", "repeated", "(JII)J"⟩ ∈ en_tb := en_tbi (List.mem_of_getElem? (i := 782) (by decide +kernel)) (by decide +kernel)
set_option maxRecDepth 100000 in
set_option maxHeartbeats 4000000 in
theorem wd_791 : Cond.code ⟨"EvenSteps", "backward", "(JI)J"⟩ prog_1_method_43_code 6 (some .long) ∈ en_tb := en_tbi (List.mem_of_getElem? (i := 791) (by decide +kernel)) (by decide +kernel)
set_option maxRecDepth 100000 in
set_option maxHeartbeats 4000000 in
theorem wd_790 : Cond.static ⟨"EvenSteps", "backward", "(JI)J"⟩ ∈ en_tb := en_tbi (List.mem_of_getElem? (i := 790) (by decide +kernel)) (by decide +kernel)
set_option maxRecDepth 100000 in
set_option maxHeartbeats 4000000 in
theorem wd_789 : Cond.methodLink "EvenSteps" 311 ⟨"EvenSteps", "backward", "(JI)J"⟩ ∈ en_tb := en_tbi (List.mem_of_getElem? (i := 789) (by decide +kernel)) (by decide +kernel)
set_option maxRecDepth 100000 in
set_option maxHeartbeats 4000000 in
theorem wd_798 : Cond.code ⟨"EvenSteps", "isHeap", "(I)Z"⟩ prog_1_method_46_code 1 (some .boolean) ∈ en_tb := en_tbi (List.mem_of_getElem? (i := 798) (by decide +kernel)) (by decide +kernel)
set_option maxRecDepth 100000 in
set_option maxHeartbeats 4000000 in
theorem wd_797 : Cond.static ⟨"EvenSteps", "isHeap", "(I)Z"⟩ ∈ en_tb := en_tbi (List.mem_of_getElem? (i := 797) (by decide +kernel)) (by decide +kernel)
set_option maxRecDepth 100000 in
set_option maxHeartbeats 4000000 in
theorem wd_796 : Cond.methodLink "EvenSteps" 315 ⟨"EvenSteps", "isHeap", "(I)Z"⟩ ∈ en_tb := en_tbi (List.mem_of_getElem? (i := 796) (by decide +kernel)) (by decide +kernel)
set_option maxRecDepth 100000 in
set_option maxHeartbeats 4000000 in
theorem wd_801 : Cond.code ⟨"EvenSteps", "lostBeside", "(I)I"⟩ prog_1_method_48_code 2 (some .int) ∈ en_tb := en_tbi (List.mem_of_getElem? (i := 801) (by decide +kernel)) (by decide +kernel)
set_option maxRecDepth 100000 in
set_option maxHeartbeats 4000000 in
theorem wd_800 : Cond.static ⟨"EvenSteps", "lostBeside", "(I)I"⟩ ∈ en_tb := en_tbi (List.mem_of_getElem? (i := 800) (by decide +kernel)) (by decide +kernel)
set_option maxRecDepth 100000 in
set_option maxHeartbeats 4000000 in
theorem wd_799 : Cond.methodLink "EvenSteps" 318 ⟨"EvenSteps", "lostBeside", "(I)I"⟩ ∈ en_tb := en_tbi (List.mem_of_getElem? (i := 799) (by decide +kernel)) (by decide +kernel)
set_option maxRecDepth 100000 in
set_option maxHeartbeats 4000000 in
theorem wd_810 : Cond.constant "EvenSteps" 321 1000000 ∈ en_tb := en_tbi (List.mem_of_getElem? (i := 810) (by decide +kernel)) (by decide +kernel)
set_option maxRecDepth 100000 in
set_option maxHeartbeats 4000000 in
theorem wd_811 : Cond.constant "EvenSteps" 322 2000000 ∈ en_tb := en_tbi (List.mem_of_getElem? (i := 811) (by decide +kernel)) (by decide +kernel)
set_option maxRecDepth 100000 in
set_option maxHeartbeats 4000000 in
theorem wd_805 : Cond.code ⟨"EvenSteps", "goldenWhole", "(I)I"⟩ prog_1_method_47_code 1 (some .int) ∈ en_tb := en_tbi (List.mem_of_getElem? (i := 805) (by decide +kernel)) (by decide +kernel)
set_option maxRecDepth 100000 in
set_option maxHeartbeats 4000000 in
theorem wd_804 : Cond.static ⟨"EvenSteps", "goldenWhole", "(I)I"⟩ ∈ en_tb := en_tbi (List.mem_of_getElem? (i := 804) (by decide +kernel)) (by decide +kernel)
set_option maxRecDepth 100000 in
set_option maxHeartbeats 4000000 in
theorem wd_803 : Cond.methodLink "EvenSteps" 323 ⟨"EvenSteps", "goldenWhole", "(I)I"⟩ ∈ en_tb := en_tbi (List.mem_of_getElem? (i := 803) (by decide +kernel)) (by decide +kernel)
set_option maxRecDepth 100000 in
set_option maxHeartbeats 4000000 in
theorem wd_812 : Cond.constant "EvenSteps" 326 3000000 ∈ en_tb := en_tbi (List.mem_of_getElem? (i := 812) (by decide +kernel)) (by decide +kernel)
set_option maxRecDepth 100000 in
set_option maxHeartbeats 4000000 in
theorem wd_802 : Cond.constantLong "EvenSteps" 327 5 ∈ en_tb := en_tbi (List.mem_of_getElem? (i := 802) (by decide +kernel)) (by decide +kernel)
set_option maxRecDepth 100000 in
set_option maxHeartbeats 4000000 in
theorem wd_255 : Cond.methodLink "EvenSteps" 329 ⟨"EvenSteps", "rootOf", "(J)J"⟩ ∈ en_tb := en_tbi (List.mem_of_getElem? (i := 255) (by decide +kernel)) (by decide +kernel)
set_option maxRecDepth 100000 in
set_option maxHeartbeats 4000000 in
theorem wd_817 : Cond.methodLink "EvenSteps" 333 ⟨"EvenSteps$Row", "doGo", "(ILEvenSteps$Trace;)I"⟩ ∈ en_tb := en_tbi (List.mem_of_getElem? (i := 817) (by decide +kernel)) (by decide +kernel)
set_option maxRecDepth 100000 in
set_option maxHeartbeats 4000000 in
theorem wd_838 : Cond.methodLink "EvenSteps" 337 ⟨"EvenSteps$Row", "doGap", "(ILEvenSteps$Trace;)I"⟩ ∈ en_tb := en_tbi (List.mem_of_getElem? (i := 838) (by decide +kernel)) (by decide +kernel)
set_option maxRecDepth 100000 in
set_option maxHeartbeats 4000000 in
theorem wd_859 : Cond.methodLink "EvenSteps" 340 ⟨"EvenSteps$Row", "doGrow", "(ILEvenSteps$Trace;)I"⟩ ∈ en_tb := en_tbi (List.mem_of_getElem? (i := 859) (by decide +kernel)) (by decide +kernel)
set_option maxRecDepth 100000 in
set_option maxHeartbeats 4000000 in
theorem wd_879 : Cond.sameMethod "EvenSteps$Row" "EvenSteps$Row" "doTell" "(ILEvenSteps$Trace;)I" ∈ en_tb := en_tbi (List.mem_of_getElem? (i := 879) (by decide +kernel)) (by decide +kernel)
set_option maxRecDepth 100000 in
set_option maxHeartbeats 4000000 in
theorem wd_877 : Cond.methodLink "EvenSteps" 343 ⟨"EvenSteps$Row", "doTell", "(ILEvenSteps$Trace;)I"⟩ ∈ en_tb := en_tbi (List.mem_of_getElem? (i := 877) (by decide +kernel)) (by decide +kernel)
set_option maxRecDepth 100000 in
set_option maxHeartbeats 4000000 in
theorem wd_880 : Cond.selects "EvenSteps$Cut" ⟨"EvenSteps$Row", "doTell", "(ILEvenSteps$Trace;)I"⟩ ⟨"EvenSteps$Row", "doTell", "(ILEvenSteps$Trace;)I"⟩ ∈ en_tb := en_tbi (List.mem_of_getElem? (i := 880) (by decide +kernel)) (by decide +kernel)
set_option maxRecDepth 100000 in
set_option maxHeartbeats 4000000 in
theorem wd_881 : Cond.selects "EvenSteps$Even" ⟨"EvenSteps$Row", "doTell", "(ILEvenSteps$Trace;)I"⟩ ⟨"EvenSteps$Row", "doTell", "(ILEvenSteps$Trace;)I"⟩ ∈ en_tb := en_tbi (List.mem_of_getElem? (i := 881) (by decide +kernel)) (by decide +kernel)
set_option maxRecDepth 100000 in
set_option maxHeartbeats 4000000 in
theorem wd_882 : Cond.selects "EvenSteps$Points" ⟨"EvenSteps$Row", "doTell", "(ILEvenSteps$Trace;)I"⟩ ⟨"EvenSteps$Row", "doTell", "(ILEvenSteps$Trace;)I"⟩ ∈ en_tb := en_tbi (List.mem_of_getElem? (i := 882) (by decide +kernel)) (by decide +kernel)
set_option maxRecDepth 100000 in
set_option maxHeartbeats 4000000 in
theorem wd_885 : Cond.code ⟨"EvenSteps$Ring", "doTell", "(ILEvenSteps$Trace;)I"⟩ prog_6_method_4_code 3 (some .int) ∈ en_tb := en_tbi (List.mem_of_getElem? (i := 885) (by decide +kernel)) (by decide +kernel)
set_option maxRecDepth 100000 in
set_option maxHeartbeats 4000000 in
theorem wd_883 : Cond.selects "EvenSteps$Ring" ⟨"EvenSteps$Row", "doTell", "(ILEvenSteps$Trace;)I"⟩ ⟨"EvenSteps$Ring", "doTell", "(ILEvenSteps$Trace;)I"⟩ ∈ en_tb := en_tbi (List.mem_of_getElem? (i := 883) (by decide +kernel)) (by decide +kernel)
set_option maxRecDepth 100000 in
set_option maxHeartbeats 4000000 in
theorem wd_884 : Cond.instanceMethod ⟨"EvenSteps$Ring", "doTell", "(ILEvenSteps$Trace;)I"⟩ ∈ en_tb := en_tbi (List.mem_of_getElem? (i := 884) (by decide +kernel)) (by decide +kernel)
set_option maxRecDepth 100000 in
set_option maxHeartbeats 4000000 in
theorem wd_893 : Cond.selects "EvenSteps$Told" ⟨"EvenSteps$Row", "doTell", "(ILEvenSteps$Trace;)I"⟩ ⟨"EvenSteps$Row", "doTell", "(ILEvenSteps$Trace;)I"⟩ ∈ en_tb := en_tbi (List.mem_of_getElem? (i := 893) (by decide +kernel)) (by decide +kernel)
set_option maxRecDepth 100000 in
set_option maxHeartbeats 4000000 in
theorem wd_100 : Cond.fieldLink "EvenSteps" 346 "EvenSteps$Trace" "numbers" "[I" ∈ en_tb := en_tbi (List.mem_of_getElem? (i := 100) (by decide +kernel)) (by decide +kernel)
set_option maxRecDepth 100000 in
set_option maxHeartbeats 4000000 in
theorem wd_908 : Cond.code ⟨"EvenSteps$Sheet", "begin", "(II)V"⟩ prog_8_method_3_code 4 none ∈ en_tb := en_tbi (List.mem_of_getElem? (i := 908) (by decide +kernel)) (by decide +kernel)
set_option maxRecDepth 100000 in
set_option maxHeartbeats 4000000 in
theorem wd_905 : Cond.methodLink "EvenSteps" 349 ⟨"EvenSteps$Sheet", "begin", "(II)V"⟩ ∈ en_tb := en_tbi (List.mem_of_getElem? (i := 905) (by decide +kernel)) (by decide +kernel)
set_option maxRecDepth 100000 in
set_option maxHeartbeats 4000000 in
theorem wd_907 : Cond.selects "EvenSteps$Sheet" ⟨"EvenSteps$Sheet", "begin", "(II)V"⟩ ⟨"EvenSteps$Sheet", "begin", "(II)V"⟩ ∈ en_tb := en_tbi (List.mem_of_getElem? (i := 907) (by decide +kernel)) (by decide +kernel)
set_option maxRecDepth 100000 in
set_option maxHeartbeats 4000000 in
theorem wd_906 : Cond.instanceMethod ⟨"EvenSteps$Sheet", "begin", "(II)V"⟩ ∈ en_tb := en_tbi (List.mem_of_getElem? (i := 906) (by decide +kernel)) (by decide +kernel)
set_option maxRecDepth 100000 in
set_option maxHeartbeats 4000000 in
theorem wd_198 : Cond.fieldLink "EvenSteps" 353 "EvenSteps$Sheet" "numbers" "[I" ∈ en_tb := en_tbi (List.mem_of_getElem? (i := 198) (by decide +kernel)) (by decide +kernel)
set_option maxRecDepth 100000 in
set_option maxHeartbeats 4000000 in
theorem wd_920 : Cond.code ⟨"EvenSteps", "forgeKind", "(LEvenSteps$Row;I)I"⟩ prog_1_method_54_code 3 (some .int) ∈ en_tb := en_tbi (List.mem_of_getElem? (i := 920) (by decide +kernel)) (by decide +kernel)
set_option maxRecDepth 100000 in
set_option maxHeartbeats 4000000 in
theorem wd_917 : Cond.methodLink "EvenSteps" 354 ⟨"EvenSteps", "forgeKind", "(LEvenSteps$Row;I)I"⟩ ∈ en_tb := en_tbi (List.mem_of_getElem? (i := 917) (by decide +kernel)) (by decide +kernel)
set_option maxRecDepth 100000 in
set_option maxHeartbeats 4000000 in
theorem wd_24 : Cond.selects "EvenSteps" ⟨"EvenSteps", "forgeKind", "(LEvenSteps$Row;I)I"⟩ ⟨"EvenSteps", "forgeKind", "(LEvenSteps$Row;I)I"⟩ ∈ en_tb := en_tbi (List.mem_of_getElem? (i := 24) (by decide +kernel)) (by decide +kernel)
set_option maxRecDepth 100000 in
set_option maxHeartbeats 4000000 in
theorem wd_919 : Cond.instanceMethod ⟨"EvenSteps", "forgeKind", "(LEvenSteps$Row;I)I"⟩ ∈ en_tb := en_tbi (List.mem_of_getElem? (i := 919) (by decide +kernel)) (by decide +kernel)
set_option maxRecDepth 100000 in
set_option maxHeartbeats 4000000 in
theorem wd_927 : Cond.code ⟨"EvenSteps", "forgeNumber", "(LEvenSteps$Sheet;I)I"⟩ prog_1_method_56_code 3 (some .int) ∈ en_tb := en_tbi (List.mem_of_getElem? (i := 927) (by decide +kernel)) (by decide +kernel)
set_option maxRecDepth 100000 in
set_option maxHeartbeats 4000000 in
theorem wd_924 : Cond.methodLink "EvenSteps" 358 ⟨"EvenSteps", "forgeNumber", "(LEvenSteps$Sheet;I)I"⟩ ∈ en_tb := en_tbi (List.mem_of_getElem? (i := 924) (by decide +kernel)) (by decide +kernel)
set_option maxRecDepth 100000 in
set_option maxHeartbeats 4000000 in
theorem wd_25 : Cond.selects "EvenSteps" ⟨"EvenSteps", "forgeNumber", "(LEvenSteps$Sheet;I)I"⟩ ⟨"EvenSteps", "forgeNumber", "(LEvenSteps$Sheet;I)I"⟩ ∈ en_tb := en_tbi (List.mem_of_getElem? (i := 25) (by decide +kernel)) (by decide +kernel)
set_option maxRecDepth 100000 in
set_option maxHeartbeats 4000000 in
theorem wd_926 : Cond.instanceMethod ⟨"EvenSteps", "forgeNumber", "(LEvenSteps$Sheet;I)I"⟩ ∈ en_tb := en_tbi (List.mem_of_getElem? (i := 926) (by decide +kernel)) (by decide +kernel)
set_option maxRecDepth 100000 in
set_option maxHeartbeats 4000000 in
theorem wd_931 : Cond.code ⟨"EvenSteps", "forgeCopy", "(LEvenSteps$Sheet;I)I"⟩ prog_1_method_57_code 5 (some .int) ∈ en_tb := en_tbi (List.mem_of_getElem? (i := 931) (by decide +kernel)) (by decide +kernel)
set_option maxRecDepth 100000 in
set_option maxHeartbeats 4000000 in
theorem wd_928 : Cond.methodLink "EvenSteps" 362 ⟨"EvenSteps", "forgeCopy", "(LEvenSteps$Sheet;I)I"⟩ ∈ en_tb := en_tbi (List.mem_of_getElem? (i := 928) (by decide +kernel)) (by decide +kernel)
set_option maxRecDepth 100000 in
set_option maxHeartbeats 4000000 in
theorem wd_26 : Cond.selects "EvenSteps" ⟨"EvenSteps", "forgeCopy", "(LEvenSteps$Sheet;I)I"⟩ ⟨"EvenSteps", "forgeCopy", "(LEvenSteps$Sheet;I)I"⟩ ∈ en_tb := en_tbi (List.mem_of_getElem? (i := 26) (by decide +kernel)) (by decide +kernel)
set_option maxRecDepth 100000 in
set_option maxHeartbeats 4000000 in
theorem wd_930 : Cond.instanceMethod ⟨"EvenSteps", "forgeCopy", "(LEvenSteps$Sheet;I)I"⟩ ∈ en_tb := en_tbi (List.mem_of_getElem? (i := 930) (by decide +kernel)) (by decide +kernel)
set_option maxRecDepth 100000 in
set_option maxHeartbeats 4000000 in
theorem wd_935 : Cond.code ⟨"EvenSteps", "forgePut", "(LEvenSteps$Row;)I"⟩ prog_1_method_58_code 2 (some .int) ∈ en_tb := en_tbi (List.mem_of_getElem? (i := 935) (by decide +kernel)) (by decide +kernel)
set_option maxRecDepth 100000 in
set_option maxHeartbeats 4000000 in
theorem wd_932 : Cond.methodLink "EvenSteps" 365 ⟨"EvenSteps", "forgePut", "(LEvenSteps$Row;)I"⟩ ∈ en_tb := en_tbi (List.mem_of_getElem? (i := 932) (by decide +kernel)) (by decide +kernel)
set_option maxRecDepth 100000 in
set_option maxHeartbeats 4000000 in
theorem wd_27 : Cond.selects "EvenSteps" ⟨"EvenSteps", "forgePut", "(LEvenSteps$Row;)I"⟩ ⟨"EvenSteps", "forgePut", "(LEvenSteps$Row;)I"⟩ ∈ en_tb := en_tbi (List.mem_of_getElem? (i := 27) (by decide +kernel)) (by decide +kernel)
set_option maxRecDepth 100000 in
set_option maxHeartbeats 4000000 in
theorem wd_934 : Cond.instanceMethod ⟨"EvenSteps", "forgePut", "(LEvenSteps$Row;)I"⟩ ∈ en_tb := en_tbi (List.mem_of_getElem? (i := 934) (by decide +kernel)) (by decide +kernel)
set_option maxRecDepth 100000 in
set_option maxHeartbeats 4000000 in
theorem wd_923 : Cond.code ⟨"EvenSteps", "isOfKind", "(LEvenSteps$Row;I)Z"⟩ prog_1_method_55_code 2 (some .boolean) ∈ en_tb := en_tbi (List.mem_of_getElem? (i := 923) (by decide +kernel)) (by decide +kernel)
set_option maxRecDepth 100000 in
set_option maxHeartbeats 4000000 in
theorem wd_922 : Cond.static ⟨"EvenSteps", "isOfKind", "(LEvenSteps$Row;I)Z"⟩ ∈ en_tb := en_tbi (List.mem_of_getElem? (i := 922) (by decide +kernel)) (by decide +kernel)
set_option maxRecDepth 100000 in
set_option maxHeartbeats 4000000 in
theorem wd_921 : Cond.methodLink "EvenSteps" 368 ⟨"EvenSteps", "isOfKind", "(LEvenSteps$Row;I)Z"⟩ ∈ en_tb := en_tbi (List.mem_of_getElem? (i := 921) (by decide +kernel)) (by decide +kernel)
set_option maxRecDepth 100000 in
set_option maxHeartbeats 4000000 in
theorem wd_220 : Cond.fieldLink "EvenSteps" 372 "EvenSteps" "latestStatus" "I" ∈ en_tb := en_tbi (List.mem_of_getElem? (i := 220) (by decide +kernel)) (by decide +kernel)
set_option maxRecDepth 100000 in
set_option maxHeartbeats 4000000 in
theorem wd_370 : Cond.fieldLink "EvenSteps" 375 "EvenSteps$Row" "second" "I" ∈ en_tb := en_tbi (List.mem_of_getElem? (i := 370) (by decide +kernel)) (by decide +kernel)
set_option maxRecDepth 100000 in
set_option maxHeartbeats 4000000 in
theorem wd_366 : Cond.fieldLink "EvenSteps" 378 "EvenSteps$Row" "number" "I" ∈ en_tb := en_tbi (List.mem_of_getElem? (i := 366) (by decide +kernel)) (by decide +kernel)
set_option maxRecDepth 100000 in
set_option maxHeartbeats 4000000 in
theorem wd_260 : Cond.code ⟨"java/lang/Long", "numberOfLeadingZeros", "(J)I"⟩ prog_16_method_48_code 3 (some .int) ∈ en_tb := en_tbi (List.mem_of_getElem? (i := 260) (by decide +kernel)) (by decide +kernel)
set_option maxRecDepth 100000 in
set_option maxHeartbeats 4000000 in
theorem wd_259 : Cond.static ⟨"java/lang/Long", "numberOfLeadingZeros", "(J)I"⟩ ∈ en_tb := en_tbi (List.mem_of_getElem? (i := 259) (by decide +kernel)) (by decide +kernel)
set_option maxRecDepth 100000 in
set_option maxHeartbeats 4000000 in
theorem wd_258 : Cond.methodLink "EvenSteps" 381 ⟨"java/lang/Long", "numberOfLeadingZeros", "(J)I"⟩ ∈ en_tb := en_tbi (List.mem_of_getElem? (i := 258) (by decide +kernel)) (by decide +kernel)
set_option maxRecDepth 100000 in
set_option maxHeartbeats 4000000 in
theorem wd_284 : Cond.code ⟨"java/lang/Math", "abs", "(J)J"⟩ prog_17_method_61_code 2 (some .long) ∈ en_tb := en_tbi (List.mem_of_getElem? (i := 284) (by decide +kernel)) (by decide +kernel)
set_option maxRecDepth 100000 in
set_option maxHeartbeats 4000000 in
theorem wd_283 : Cond.static ⟨"java/lang/Math", "abs", "(J)J"⟩ ∈ en_tb := en_tbi (List.mem_of_getElem? (i := 283) (by decide +kernel)) (by decide +kernel)
set_option maxRecDepth 100000 in
set_option maxHeartbeats 4000000 in
theorem wd_282 : Cond.methodLink "EvenSteps" 387 ⟨"java/lang/Math", "abs", "(J)J"⟩ ∈ en_tb := en_tbi (List.mem_of_getElem? (i := 282) (by decide +kernel)) (by decide +kernel)
set_option maxRecDepth 100000 in
set_option maxHeartbeats 4000000 in
theorem wd_945 : Cond.methodLink "EvenStepsModel" 1 ⟨"java/lang/Object", "<init>", "()V"⟩ ∈ en_tb := en_tbi (List.mem_of_getElem? (i := 945) (by decide +kernel)) (by decide +kernel)
set_option maxRecDepth 100000 in
set_option maxHeartbeats 4000000 in
theorem wd_950 : Cond.fieldLink "EvenStepsModel" 7 "EvenStepsModel" "sA" "[I" ∈ en_tb := en_tbi (List.mem_of_getElem? (i := 950) (by decide +kernel)) (by decide +kernel)
set_option maxRecDepth 100000 in
set_option maxHeartbeats 4000000 in
theorem wd_951 : Cond.fieldLink "EvenStepsModel" 13 "EvenStepsModel" "sB" "[I" ∈ en_tb := en_tbi (List.mem_of_getElem? (i := 951) (by decide +kernel)) (by decide +kernel)
set_option maxRecDepth 100000 in
set_option maxHeartbeats 4000000 in
theorem wd_952 : Cond.fieldLink "EvenStepsModel" 16 "EvenStepsModel" "sC" "[I" ∈ en_tb := en_tbi (List.mem_of_getElem? (i := 952) (by decide +kernel)) (by decide +kernel)
set_option maxRecDepth 100000 in
set_option maxHeartbeats 4000000 in
theorem wd_953 : Cond.fieldLink "EvenStepsModel" 19 "EvenStepsModel" "sD" "[I" ∈ en_tb := en_tbi (List.mem_of_getElem? (i := 953) (by decide +kernel)) (by decide +kernel)
set_option maxRecDepth 100000 in
set_option maxHeartbeats 4000000 in
theorem wd_954 : Cond.fieldLink "EvenStepsModel" 22 "EvenStepsModel" "kind" "[I" ∈ en_tb := en_tbi (List.mem_of_getElem? (i := 954) (by decide +kernel)) (by decide +kernel)
set_option maxRecDepth 100000 in
set_option maxHeartbeats 4000000 in
theorem wd_955 : Cond.fieldLink "EvenStepsModel" 25 "EvenStepsModel" "size" "[I" ∈ en_tb := en_tbi (List.mem_of_getElem? (i := 955) (by decide +kernel)) (by decide +kernel)
set_option maxRecDepth 100000 in
set_option maxHeartbeats 4000000 in
theorem wd_956 : Cond.fieldLink "EvenStepsModel" 28 "EvenStepsModel" "slopeOf" "[I" ∈ en_tb := en_tbi (List.mem_of_getElem? (i := 956) (by decide +kernel)) (by decide +kernel)
set_option maxRecDepth 100000 in
set_option maxHeartbeats 4000000 in
theorem wd_946 : Cond.constant "EvenStepsModel" 31 100010 ∈ en_tb := en_tbi (List.mem_of_getElem? (i := 946) (by decide +kernel)) (by decide +kernel)
set_option maxRecDepth 100000 in
set_option maxHeartbeats 4000000 in
theorem wd_957 : Cond.fieldLink "EvenStepsModel" 32 "EvenStepsModel" "steps" "[I" ∈ en_tb := en_tbi (List.mem_of_getElem? (i := 957) (by decide +kernel)) (by decide +kernel)
set_option maxRecDepth 100000 in
set_option maxHeartbeats 4000000 in
theorem wd_958 : Cond.fieldLink "EvenStepsModel" 35 "EvenStepsModel" "sheetSort" "[I" ∈ en_tb := en_tbi (List.mem_of_getElem? (i := 958) (by decide +kernel)) (by decide +kernel)
set_option maxRecDepth 100000 in
set_option maxHeartbeats 4000000 in
theorem wd_959 : Cond.fieldLink "EvenStepsModel" 38 "EvenStepsModel" "sheetSize" "[I" ∈ en_tb := en_tbi (List.mem_of_getElem? (i := 959) (by decide +kernel)) (by decide +kernel)
set_option maxRecDepth 100000 in
set_option maxHeartbeats 4000000 in
theorem wd_960 : Cond.fieldLink "EvenStepsModel" 41 "EvenStepsModel" "sheetCell" "[I" ∈ en_tb := en_tbi (List.mem_of_getElem? (i := 960) (by decide +kernel)) (by decide +kernel)
set_option maxRecDepth 100000 in
set_option maxHeartbeats 4000000 in
theorem wd_961 : Cond.fieldLink "EvenStepsModel" 44 "EvenStepsModel" "traced" "[I" ∈ en_tb := en_tbi (List.mem_of_getElem? (i := 961) (by decide +kernel)) (by decide +kernel)
set_option maxRecDepth 100000 in
set_option maxHeartbeats 4000000 in
theorem wd_963 : Cond.fieldLink "EvenStepsModel" 47 "EvenStepsModel" "quotients" "[J" ∈ en_tb := en_tbi (List.mem_of_getElem? (i := 963) (by decide +kernel)) (by decide +kernel)
set_option maxRecDepth 100000 in
set_option maxHeartbeats 4000000 in
theorem wd_964 : Cond.fieldLink "EvenStepsModel" 51 "EvenStepsModel" "lines" "[J" ∈ en_tb := en_tbi (List.mem_of_getElem? (i := 964) (by decide +kernel)) (by decide +kernel)
set_option maxRecDepth 100000 in
set_option maxHeartbeats 4000000 in
theorem wd_967 : Cond.fieldLink "EvenStepsModel" 54 "EvenStepsModel" "nearers" "[I" ∈ en_tb := en_tbi (List.mem_of_getElem? (i := 967) (by decide +kernel)) (by decide +kernel)
set_option maxRecDepth 100000 in
set_option maxHeartbeats 4000000 in
theorem wd_969 : Cond.fieldLink "EvenStepsModel" 57 "EvenStepsModel" "ring" "[I" ∈ en_tb := en_tbi (List.mem_of_getElem? (i := 969) (by decide +kernel)) (by decide +kernel)
set_option maxRecDepth 100000 in
set_option maxHeartbeats 4000000 in
theorem wd_970 : Cond.fieldLink "EvenStepsModel" 60 "EvenStepsModel" "whole" "[I" ∈ en_tb := en_tbi (List.mem_of_getElem? (i := 970) (by decide +kernel)) (by decide +kernel)
set_option maxRecDepth 100000 in
set_option maxHeartbeats 4000000 in
theorem wd_971 : Cond.fieldLink "EvenStepsModel" 63 "EvenStepsModel" "gapX" "[I" ∈ en_tb := en_tbi (List.mem_of_getElem? (i := 971) (by decide +kernel)) (by decide +kernel)
set_option maxRecDepth 100000 in
set_option maxHeartbeats 4000000 in
theorem wd_972 : Cond.fieldLink "EvenStepsModel" 66 "EvenStepsModel" "gapY" "[I" ∈ en_tb := en_tbi (List.mem_of_getElem? (i := 972) (by decide +kernel)) (by decide +kernel)
set_option maxRecDepth 100000 in
set_option maxHeartbeats 4000000 in
theorem wd_973 : Cond.fieldLink "EvenStepsModel" 69 "EvenStepsModel" "sortX" "[I" ∈ en_tb := en_tbi (List.mem_of_getElem? (i := 973) (by decide +kernel)) (by decide +kernel)
set_option maxRecDepth 100000 in
set_option maxHeartbeats 4000000 in
theorem wd_974 : Cond.fieldLink "EvenStepsModel" 72 "EvenStepsModel" "sortY" "[I" ∈ en_tb := en_tbi (List.mem_of_getElem? (i := 974) (by decide +kernel)) (by decide +kernel)
set_option maxRecDepth 100000 in
set_option maxHeartbeats 4000000 in
theorem wd_975 : Cond.fieldLink "EvenStepsModel" 75 "EvenStepsModel" "sortN" "[I" ∈ en_tb := en_tbi (List.mem_of_getElem? (i := 975) (by decide +kernel)) (by decide +kernel)
set_option maxRecDepth 100000 in
set_option maxHeartbeats 4000000 in
theorem wd_976 : Cond.fieldLink "EvenStepsModel" 78 "EvenStepsModel" "sortLow" "[I" ∈ en_tb := en_tbi (List.mem_of_getElem? (i := 976) (by decide +kernel)) (by decide +kernel)
set_option maxRecDepth 100000 in
set_option maxHeartbeats 4000000 in
theorem wd_978 : Cond.fieldLink "EvenStepsModel" 81 "EvenStepsModel" "partner" "[I" ∈ en_tb := en_tbi (List.mem_of_getElem? (i := 978) (by decide +kernel)) (by decide +kernel)
set_option maxRecDepth 100000 in
set_option maxHeartbeats 4000000 in
theorem wd_949 : Cond.fieldLink "EvenStepsModel" 84 "EvenStepsModel" "status" "I" ∈ en_tb := en_tbi (List.mem_of_getElem? (i := 949) (by decide +kernel)) (by decide +kernel)
set_option maxRecDepth 100000 in
set_option maxHeartbeats 4000000 in
theorem wd_1063 : Cond.code ⟨"EvenStepsModel", "sign", "(JJJ)I"⟩ prog_14_method_5_code 10 (some .int) ∈ en_tb := en_tbi (List.mem_of_getElem? (i := 1063) (by decide +kernel)) (by decide +kernel)
set_option maxRecDepth 100000 in
set_option maxHeartbeats 4000000 in
theorem wd_68 : Cond.initialized "EvenStepsModel" ∈ en_tb := en_tbi (List.mem_of_getElem? (i := 68) (by decide +kernel)) (by decide +kernel)
set_option maxRecDepth 100000 in
set_option maxHeartbeats 4000000 in
theorem wd_1062 : Cond.static ⟨"EvenStepsModel", "sign", "(JJJ)I"⟩ ∈ en_tb := en_tbi (List.mem_of_getElem? (i := 1062) (by decide +kernel)) (by decide +kernel)
set_option maxRecDepth 100000 in
set_option maxHeartbeats 4000000 in
theorem wd_1061 : Cond.methodLink "EvenStepsModel" 88 ⟨"EvenStepsModel", "sign", "(JJJ)I"⟩ ∈ en_tb := en_tbi (List.mem_of_getElem? (i := 1061) (by decide +kernel)) (by decide +kernel)
set_option maxRecDepth 100000 in
set_option maxHeartbeats 4000000 in
theorem wd_1084 : Cond.code ⟨"EvenStepsModel", "side", "(IJJJ)I"⟩ prog_14_method_6_code 8 (some .int) ∈ en_tb := en_tbi (List.mem_of_getElem? (i := 1084) (by decide +kernel)) (by decide +kernel)
set_option maxRecDepth 100000 in
set_option maxHeartbeats 4000000 in
theorem wd_1081 : Cond.methodLink "EvenStepsModel" 92 ⟨"EvenStepsModel", "side", "(IJJJ)I"⟩ ∈ en_tb := en_tbi (List.mem_of_getElem? (i := 1081) (by decide +kernel)) (by decide +kernel)
set_option maxRecDepth 100000 in
set_option maxHeartbeats 4000000 in
theorem wd_32 : Cond.selects "EvenStepsModel" ⟨"EvenStepsModel", "side", "(IJJJ)I"⟩ ⟨"EvenStepsModel", "side", "(IJJJ)I"⟩ ∈ en_tb := en_tbi (List.mem_of_getElem? (i := 32) (by decide +kernel)) (by decide +kernel)
set_option maxRecDepth 100000 in
set_option maxHeartbeats 4000000 in
theorem wd_1083 : Cond.instanceMethod ⟨"EvenStepsModel", "side", "(IJJJ)I"⟩ ∈ en_tb := en_tbi (List.mem_of_getElem? (i := 1083) (by decide +kernel)) (by decide +kernel)
set_option maxRecDepth 100000 in
set_option maxHeartbeats 4000000 in
theorem wd_947 : Cond.fieldLink "EvenStepsModel" 96 "EvenStepsModel" "slopes" "I" ∈ en_tb := en_tbi (List.mem_of_getElem? (i := 947) (by decide +kernel)) (by decide +kernel)
set_option maxRecDepth 100000 in
set_option maxHeartbeats 4000000 in
theorem wd_1053 : Cond.code ⟨"EvenStepsModel", "in", "(III)Z"⟩ prog_14_method_4_code 3 (some .boolean) ∈ en_tb := en_tbi (List.mem_of_getElem? (i := 1053) (by decide +kernel)) (by decide +kernel)
set_option maxRecDepth 100000 in
set_option maxHeartbeats 4000000 in
theorem wd_1052 : Cond.static ⟨"EvenStepsModel", "in", "(III)Z"⟩ ∈ en_tb := en_tbi (List.mem_of_getElem? (i := 1052) (by decide +kernel)) (by decide +kernel)
set_option maxRecDepth 100000 in
set_option maxHeartbeats 4000000 in
theorem wd_1051 : Cond.methodLink "EvenStepsModel" 99 ⟨"EvenStepsModel", "in", "(III)Z"⟩ ∈ en_tb := en_tbi (List.mem_of_getElem? (i := 1051) (by decide +kernel)) (by decide +kernel)
set_option maxRecDepth 100000 in
set_option maxHeartbeats 4000000 in
theorem wd_1057 : Cond.code ⟨"EvenStepsModel", "refused", "(I)I"⟩ prog_14_method_2_code 2 (some .int) ∈ en_tb := en_tbi (List.mem_of_getElem? (i := 1057) (by decide +kernel)) (by decide +kernel)
set_option maxRecDepth 100000 in
set_option maxHeartbeats 4000000 in
theorem wd_1054 : Cond.methodLink "EvenStepsModel" 103 ⟨"EvenStepsModel", "refused", "(I)I"⟩ ∈ en_tb := en_tbi (List.mem_of_getElem? (i := 1054) (by decide +kernel)) (by decide +kernel)
set_option maxRecDepth 100000 in
set_option maxHeartbeats 4000000 in
theorem wd_28 : Cond.selects "EvenStepsModel" ⟨"EvenStepsModel", "refused", "(I)I"⟩ ⟨"EvenStepsModel", "refused", "(I)I"⟩ ∈ en_tb := en_tbi (List.mem_of_getElem? (i := 28) (by decide +kernel)) (by decide +kernel)
set_option maxRecDepth 100000 in
set_option maxHeartbeats 4000000 in
theorem wd_1056 : Cond.instanceMethod ⟨"EvenStepsModel", "refused", "(I)I"⟩ ∈ en_tb := en_tbi (List.mem_of_getElem? (i := 1056) (by decide +kernel)) (by decide +kernel)
set_option maxRecDepth 100000 in
set_option maxHeartbeats 4000000 in
theorem wd_1060 : Cond.code ⟨"EvenStepsModel", "isSquare", "(I)Z"⟩ prog_14_method_9_code 2 (some .boolean) ∈ en_tb := en_tbi (List.mem_of_getElem? (i := 1060) (by decide +kernel)) (by decide +kernel)
set_option maxRecDepth 100000 in
set_option maxHeartbeats 4000000 in
theorem wd_1059 : Cond.static ⟨"EvenStepsModel", "isSquare", "(I)Z"⟩ ∈ en_tb := en_tbi (List.mem_of_getElem? (i := 1059) (by decide +kernel)) (by decide +kernel)
set_option maxRecDepth 100000 in
set_option maxHeartbeats 4000000 in
theorem wd_1058 : Cond.methodLink "EvenStepsModel" 107 ⟨"EvenStepsModel", "isSquare", "(I)Z"⟩ ∈ en_tb := en_tbi (List.mem_of_getElem? (i := 1058) (by decide +kernel)) (by decide +kernel)
set_option maxRecDepth 100000 in
set_option maxHeartbeats 4000000 in
theorem wd_1067 : Cond.code ⟨"EvenStepsModel", "fine", "(I)I"⟩ prog_14_method_3_code 2 (some .int) ∈ en_tb := en_tbi (List.mem_of_getElem? (i := 1067) (by decide +kernel)) (by decide +kernel)
set_option maxRecDepth 100000 in
set_option maxHeartbeats 4000000 in
theorem wd_1064 : Cond.methodLink "EvenStepsModel" 111 ⟨"EvenStepsModel", "fine", "(I)I"⟩ ∈ en_tb := en_tbi (List.mem_of_getElem? (i := 1064) (by decide +kernel)) (by decide +kernel)
set_option maxRecDepth 100000 in
set_option maxHeartbeats 4000000 in
theorem wd_29 : Cond.selects "EvenStepsModel" ⟨"EvenStepsModel", "fine", "(I)I"⟩ ⟨"EvenStepsModel", "fine", "(I)I"⟩ ∈ en_tb := en_tbi (List.mem_of_getElem? (i := 29) (by decide +kernel)) (by decide +kernel)
set_option maxRecDepth 100000 in
set_option maxHeartbeats 4000000 in
theorem wd_1066 : Cond.instanceMethod ⟨"EvenStepsModel", "fine", "(I)I"⟩ ∈ en_tb := en_tbi (List.mem_of_getElem? (i := 1066) (by decide +kernel)) (by decide +kernel)
set_option maxRecDepth 100000 in
set_option maxHeartbeats 4000000 in
theorem wd_1075 : Cond.code ⟨"EvenStepsModel", "isSlope", "(I)Z"⟩ prog_14_method_8_code 2 (some .boolean) ∈ en_tb := en_tbi (List.mem_of_getElem? (i := 1075) (by decide +kernel)) (by decide +kernel)
set_option maxRecDepth 100000 in
set_option maxHeartbeats 4000000 in
theorem wd_1072 : Cond.methodLink "EvenStepsModel" 114 ⟨"EvenStepsModel", "isSlope", "(I)Z"⟩ ∈ en_tb := en_tbi (List.mem_of_getElem? (i := 1072) (by decide +kernel)) (by decide +kernel)
set_option maxRecDepth 100000 in
set_option maxHeartbeats 4000000 in
theorem wd_30 : Cond.selects "EvenStepsModel" ⟨"EvenStepsModel", "isSlope", "(I)Z"⟩ ⟨"EvenStepsModel", "isSlope", "(I)Z"⟩ ∈ en_tb := en_tbi (List.mem_of_getElem? (i := 30) (by decide +kernel)) (by decide +kernel)
set_option maxRecDepth 100000 in
set_option maxHeartbeats 4000000 in
theorem wd_1074 : Cond.instanceMethod ⟨"EvenStepsModel", "isSlope", "(I)Z"⟩ ∈ en_tb := en_tbi (List.mem_of_getElem? (i := 1074) (by decide +kernel)) (by decide +kernel)
set_option maxRecDepth 100000 in
set_option maxHeartbeats 4000000 in
theorem wd_1076 : Cond.constant "EvenStepsModel" 117 100000 ∈ en_tb := en_tbi (List.mem_of_getElem? (i := 1076) (by decide +kernel)) (by decide +kernel)
set_option maxRecDepth 100000 in
set_option maxHeartbeats 4000000 in
theorem wd_1080 : Cond.code ⟨"EvenStepsModel", "wholeOf", "(II)I"⟩ prog_14_method_7_code 6 (some .int) ∈ en_tb := en_tbi (List.mem_of_getElem? (i := 1080) (by decide +kernel)) (by decide +kernel)
set_option maxRecDepth 100000 in
set_option maxHeartbeats 4000000 in
theorem wd_1077 : Cond.methodLink "EvenStepsModel" 118 ⟨"EvenStepsModel", "wholeOf", "(II)I"⟩ ∈ en_tb := en_tbi (List.mem_of_getElem? (i := 1077) (by decide +kernel)) (by decide +kernel)
set_option maxRecDepth 100000 in
set_option maxHeartbeats 4000000 in
theorem wd_31 : Cond.selects "EvenStepsModel" ⟨"EvenStepsModel", "wholeOf", "(II)I"⟩ ⟨"EvenStepsModel", "wholeOf", "(II)I"⟩ ∈ en_tb := en_tbi (List.mem_of_getElem? (i := 31) (by decide +kernel)) (by decide +kernel)
set_option maxRecDepth 100000 in
set_option maxHeartbeats 4000000 in
theorem wd_1079 : Cond.instanceMethod ⟨"EvenStepsModel", "wholeOf", "(II)I"⟩ ∈ en_tb := en_tbi (List.mem_of_getElem? (i := 1079) (by decide +kernel)) (by decide +kernel)
set_option maxRecDepth 100000 in
set_option maxHeartbeats 4000000 in
theorem wd_1089 : Cond.constant "EvenStepsModel" 122 200000 ∈ en_tb := en_tbi (List.mem_of_getElem? (i := 1089) (by decide +kernel)) (by decide +kernel)
set_option maxRecDepth 100000 in
set_option maxHeartbeats 4000000 in
theorem wd_1090 : Cond.constant "EvenStepsModel" 123 (-1000000) ∈ en_tb := en_tbi (List.mem_of_getElem? (i := 1090) (by decide +kernel)) (by decide +kernel)
set_option maxRecDepth 100000 in
set_option maxHeartbeats 4000000 in
theorem wd_1102 : Cond.constantLong "EvenStepsModel" 124 2 ∈ en_tb := en_tbi (List.mem_of_getElem? (i := 1102) (by decide +kernel)) (by decide +kernel)
set_option maxRecDepth 100000 in
set_option maxHeartbeats 4000000 in
theorem wd_965 : Cond.fieldLink "EvenStepsModel" 126 "EvenStepsModel" "quotientN" "I" ∈ en_tb := en_tbi (List.mem_of_getElem? (i := 965) (by decide +kernel)) (by decide +kernel)
set_option maxRecDepth 100000 in
set_option maxHeartbeats 4000000 in
theorem wd_1101 : Cond.code ⟨"EvenStepsModel", "floorOf", "(JJJJ)J"⟩ prog_14_method_14_code 14 (some .long) ∈ en_tb := en_tbi (List.mem_of_getElem? (i := 1101) (by decide +kernel)) (by decide +kernel)
set_option maxRecDepth 100000 in
set_option maxHeartbeats 4000000 in
theorem wd_1100 : Cond.static ⟨"EvenStepsModel", "floorOf", "(JJJJ)J"⟩ ∈ en_tb := en_tbi (List.mem_of_getElem? (i := 1100) (by decide +kernel)) (by decide +kernel)
set_option maxRecDepth 100000 in
set_option maxHeartbeats 4000000 in
theorem wd_1099 : Cond.methodLink "EvenStepsModel" 129 ⟨"EvenStepsModel", "floorOf", "(JJJJ)J"⟩ ∈ en_tb := en_tbi (List.mem_of_getElem? (i := 1099) (by decide +kernel)) (by decide +kernel)
set_option maxRecDepth 100000 in
set_option maxHeartbeats 4000000 in
theorem wd_1105 : Cond.code ⟨"EvenStepsModel", "common", "(JJ)J"⟩ prog_14_method_13_code 10 (some .long) ∈ en_tb := en_tbi (List.mem_of_getElem? (i := 1105) (by decide +kernel)) (by decide +kernel)
set_option maxRecDepth 100000 in
set_option maxHeartbeats 4000000 in
theorem wd_1104 : Cond.static ⟨"EvenStepsModel", "common", "(JJ)J"⟩ ∈ en_tb := en_tbi (List.mem_of_getElem? (i := 1104) (by decide +kernel)) (by decide +kernel)
set_option maxRecDepth 100000 in
set_option maxHeartbeats 4000000 in
theorem wd_1103 : Cond.methodLink "EvenStepsModel" 133 ⟨"EvenStepsModel", "common", "(JJ)J"⟩ ∈ en_tb := en_tbi (List.mem_of_getElem? (i := 1103) (by decide +kernel)) (by decide +kernel)
set_option maxRecDepth 100000 in
set_option maxHeartbeats 4000000 in
theorem wd_1098 : Cond.code ⟨"EvenStepsModel", "quotientsOf", "(I)V"⟩ prog_14_method_15_code 23 none ∈ en_tb := en_tbi (List.mem_of_getElem? (i := 1098) (by decide +kernel)) (by decide +kernel)
set_option maxRecDepth 100000 in
set_option maxHeartbeats 4000000 in
theorem wd_1095 : Cond.methodLink "EvenStepsModel" 137 ⟨"EvenStepsModel", "quotientsOf", "(I)V"⟩ ∈ en_tb := en_tbi (List.mem_of_getElem? (i := 1095) (by decide +kernel)) (by decide +kernel)
set_option maxRecDepth 100000 in
set_option maxHeartbeats 4000000 in
theorem wd_33 : Cond.selects "EvenStepsModel" ⟨"EvenStepsModel", "quotientsOf", "(I)V"⟩ ⟨"EvenStepsModel", "quotientsOf", "(I)V"⟩ ∈ en_tb := en_tbi (List.mem_of_getElem? (i := 33) (by decide +kernel)) (by decide +kernel)
set_option maxRecDepth 100000 in
set_option maxHeartbeats 4000000 in
theorem wd_1097 : Cond.instanceMethod ⟨"EvenStepsModel", "quotientsOf", "(I)V"⟩ ∈ en_tb := en_tbi (List.mem_of_getElem? (i := 1097) (by decide +kernel)) (by decide +kernel)
set_option maxRecDepth 100000 in
set_option maxHeartbeats 4000000 in
theorem wd_966 : Cond.fieldLink "EvenStepsModel" 141 "EvenStepsModel" "lineN" "I" ∈ en_tb := en_tbi (List.mem_of_getElem? (i := 966) (by decide +kernel)) (by decide +kernel)
set_option maxRecDepth 100000 in
set_option maxHeartbeats 4000000 in
theorem wd_1114 : Cond.constantLong "EvenStepsModel" 144 10000 ∈ en_tb := en_tbi (List.mem_of_getElem? (i := 1114) (by decide +kernel)) (by decide +kernel)
set_option maxRecDepth 100000 in
set_option maxHeartbeats 4000000 in
theorem wd_1113 : Cond.code ⟨"EvenStepsModel", "linesOf", "(I)V"⟩ prog_14_method_17_code 9 none ∈ en_tb := en_tbi (List.mem_of_getElem? (i := 1113) (by decide +kernel)) (by decide +kernel)
set_option maxRecDepth 100000 in
set_option maxHeartbeats 4000000 in
theorem wd_1110 : Cond.methodLink "EvenStepsModel" 146 ⟨"EvenStepsModel", "linesOf", "(I)V"⟩ ∈ en_tb := en_tbi (List.mem_of_getElem? (i := 1110) (by decide +kernel)) (by decide +kernel)
set_option maxRecDepth 100000 in
set_option maxHeartbeats 4000000 in
theorem wd_34 : Cond.selects "EvenStepsModel" ⟨"EvenStepsModel", "linesOf", "(I)V"⟩ ⟨"EvenStepsModel", "linesOf", "(I)V"⟩ ∈ en_tb := en_tbi (List.mem_of_getElem? (i := 34) (by decide +kernel)) (by decide +kernel)
set_option maxRecDepth 100000 in
set_option maxHeartbeats 4000000 in
theorem wd_1112 : Cond.instanceMethod ⟨"EvenStepsModel", "linesOf", "(I)V"⟩ ∈ en_tb := en_tbi (List.mem_of_getElem? (i := 1112) (by decide +kernel)) (by decide +kernel)
set_option maxRecDepth 100000 in
set_option maxHeartbeats 4000000 in
theorem wd_968 : Cond.fieldLink "EvenStepsModel" 149 "EvenStepsModel" "nearerN" "I" ∈ en_tb := en_tbi (List.mem_of_getElem? (i := 968) (by decide +kernel)) (by decide +kernel)
set_option maxRecDepth 100000 in
set_option maxHeartbeats 4000000 in
theorem wd_1126 : Cond.code ⟨"EvenStepsModel", "nearersOf", "(I)V"⟩ prog_14_method_20_code 16 none ∈ en_tb := en_tbi (List.mem_of_getElem? (i := 1126) (by decide +kernel)) (by decide +kernel)
set_option maxRecDepth 100000 in
set_option maxHeartbeats 4000000 in
theorem wd_1123 : Cond.methodLink "EvenStepsModel" 152 ⟨"EvenStepsModel", "nearersOf", "(I)V"⟩ ∈ en_tb := en_tbi (List.mem_of_getElem? (i := 1123) (by decide +kernel)) (by decide +kernel)
set_option maxRecDepth 100000 in
set_option maxHeartbeats 4000000 in
theorem wd_35 : Cond.selects "EvenStepsModel" ⟨"EvenStepsModel", "nearersOf", "(I)V"⟩ ⟨"EvenStepsModel", "nearersOf", "(I)V"⟩ ∈ en_tb := en_tbi (List.mem_of_getElem? (i := 35) (by decide +kernel)) (by decide +kernel)
set_option maxRecDepth 100000 in
set_option maxHeartbeats 4000000 in
theorem wd_1125 : Cond.instanceMethod ⟨"EvenStepsModel", "nearersOf", "(I)V"⟩ ∈ en_tb := en_tbi (List.mem_of_getElem? (i := 1125) (by decide +kernel)) (by decide +kernel)
set_option maxRecDepth 100000 in
set_option maxHeartbeats 4000000 in
theorem wd_948 : Cond.fieldLink "EvenStepsModel" 155 "EvenStepsModel" "rows" "I" ∈ en_tb := en_tbi (List.mem_of_getElem? (i := 948) (by decide +kernel)) (by decide +kernel)
set_option maxRecDepth 100000 in
set_option maxHeartbeats 4000000 in
theorem wd_1142 : Cond.code ⟨"EvenStepsModel", "writes", "(JJJJJJ)V"⟩ prog_14_method_25_code 21 none ∈ en_tb := en_tbi (List.mem_of_getElem? (i := 1142) (by decide +kernel)) (by decide +kernel)
set_option maxRecDepth 100000 in
set_option maxHeartbeats 4000000 in
theorem wd_1139 : Cond.methodLink "EvenStepsModel" 158 ⟨"EvenStepsModel", "writes", "(JJJJJJ)V"⟩ ∈ en_tb := en_tbi (List.mem_of_getElem? (i := 1139) (by decide +kernel)) (by decide +kernel)
set_option maxRecDepth 100000 in
set_option maxHeartbeats 4000000 in
theorem wd_36 : Cond.selects "EvenStepsModel" ⟨"EvenStepsModel", "writes", "(JJJJJJ)V"⟩ ⟨"EvenStepsModel", "writes", "(JJJJJJ)V"⟩ ∈ en_tb := en_tbi (List.mem_of_getElem? (i := 36) (by decide +kernel)) (by decide +kernel)
set_option maxRecDepth 100000 in
set_option maxHeartbeats 4000000 in
theorem wd_1141 : Cond.instanceMethod ⟨"EvenStepsModel", "writes", "(JJJJJJ)V"⟩ ∈ en_tb := en_tbi (List.mem_of_getElem? (i := 1141) (by decide +kernel)) (by decide +kernel)
set_option maxRecDepth 100000 in
set_option maxHeartbeats 4000000 in
theorem wd_1154 : Cond.code ⟨"EvenStepsModel", "isRow", "(I)Z"⟩ prog_14_method_23_code 2 (some .boolean) ∈ en_tb := en_tbi (List.mem_of_getElem? (i := 1154) (by decide +kernel)) (by decide +kernel)
set_option maxRecDepth 100000 in
set_option maxHeartbeats 4000000 in
theorem wd_1151 : Cond.methodLink "EvenStepsModel" 162 ⟨"EvenStepsModel", "isRow", "(I)Z"⟩ ∈ en_tb := en_tbi (List.mem_of_getElem? (i := 1151) (by decide +kernel)) (by decide +kernel)
set_option maxRecDepth 100000 in
set_option maxHeartbeats 4000000 in
theorem wd_37 : Cond.selects "EvenStepsModel" ⟨"EvenStepsModel", "isRow", "(I)Z"⟩ ⟨"EvenStepsModel", "isRow", "(I)Z"⟩ ∈ en_tb := en_tbi (List.mem_of_getElem? (i := 37) (by decide +kernel)) (by decide +kernel)
set_option maxRecDepth 100000 in
set_option maxHeartbeats 4000000 in
theorem wd_1153 : Cond.instanceMethod ⟨"EvenStepsModel", "isRow", "(I)Z"⟩ ∈ en_tb := en_tbi (List.mem_of_getElem? (i := 1153) (by decide +kernel)) (by decide +kernel)
set_option maxRecDepth 100000 in
set_option maxHeartbeats 4000000 in
theorem wd_962 : Cond.fieldLink "EvenStepsModel" 165 "EvenStepsModel" "bodies" "I" ∈ en_tb := en_tbi (List.mem_of_getElem? (i := 962) (by decide +kernel)) (by decide +kernel)
set_option maxRecDepth 100000 in
set_option maxHeartbeats 4000000 in
theorem wd_1194 : Cond.code ⟨"EvenStepsModel", "sumOf", "(III)I"⟩ prog_14_method_36_code 6 (some .int) ∈ en_tb := en_tbi (List.mem_of_getElem? (i := 1194) (by decide +kernel)) (by decide +kernel)
set_option maxRecDepth 100000 in
set_option maxHeartbeats 4000000 in
theorem wd_1191 : Cond.methodLink "EvenStepsModel" 168 ⟨"EvenStepsModel", "sumOf", "(III)I"⟩ ∈ en_tb := en_tbi (List.mem_of_getElem? (i := 1191) (by decide +kernel)) (by decide +kernel)
set_option maxRecDepth 100000 in
set_option maxHeartbeats 4000000 in
theorem wd_40 : Cond.selects "EvenStepsModel" ⟨"EvenStepsModel", "sumOf", "(III)I"⟩ ⟨"EvenStepsModel", "sumOf", "(III)I"⟩ ∈ en_tb := en_tbi (List.mem_of_getElem? (i := 40) (by decide +kernel)) (by decide +kernel)
set_option maxRecDepth 100000 in
set_option maxHeartbeats 4000000 in
theorem wd_1193 : Cond.instanceMethod ⟨"EvenStepsModel", "sumOf", "(III)I"⟩ ∈ en_tb := en_tbi (List.mem_of_getElem? (i := 1193) (by decide +kernel)) (by decide +kernel)
set_option maxRecDepth 100000 in
set_option maxHeartbeats 4000000 in
theorem wd_1186 : Cond.code ⟨"EvenStepsModel", "isStretch", "(III)Z"⟩ prog_14_method_35_code 4 (some .boolean) ∈ en_tb := en_tbi (List.mem_of_getElem? (i := 1186) (by decide +kernel)) (by decide +kernel)
set_option maxRecDepth 100000 in
set_option maxHeartbeats 4000000 in
theorem wd_1183 : Cond.methodLink "EvenStepsModel" 172 ⟨"EvenStepsModel", "isStretch", "(III)Z"⟩ ∈ en_tb := en_tbi (List.mem_of_getElem? (i := 1183) (by decide +kernel)) (by decide +kernel)
set_option maxRecDepth 100000 in
set_option maxHeartbeats 4000000 in
theorem wd_38 : Cond.selects "EvenStepsModel" ⟨"EvenStepsModel", "isStretch", "(III)Z"⟩ ⟨"EvenStepsModel", "isStretch", "(III)Z"⟩ ∈ en_tb := en_tbi (List.mem_of_getElem? (i := 38) (by decide +kernel)) (by decide +kernel)
set_option maxRecDepth 100000 in
set_option maxHeartbeats 4000000 in
theorem wd_1185 : Cond.instanceMethod ⟨"EvenStepsModel", "isStretch", "(III)Z"⟩ ∈ en_tb := en_tbi (List.mem_of_getElem? (i := 1185) (by decide +kernel)) (by decide +kernel)
set_option maxRecDepth 100000 in
set_option maxHeartbeats 4000000 in
theorem wd_1190 : Cond.code ⟨"EvenStepsModel", "clashOf", "(III)I"⟩ prog_14_method_37_code 8 (some .int) ∈ en_tb := en_tbi (List.mem_of_getElem? (i := 1190) (by decide +kernel)) (by decide +kernel)
set_option maxRecDepth 100000 in
set_option maxHeartbeats 4000000 in
theorem wd_1187 : Cond.methodLink "EvenStepsModel" 175 ⟨"EvenStepsModel", "clashOf", "(III)I"⟩ ∈ en_tb := en_tbi (List.mem_of_getElem? (i := 1187) (by decide +kernel)) (by decide +kernel)
set_option maxRecDepth 100000 in
set_option maxHeartbeats 4000000 in
theorem wd_39 : Cond.selects "EvenStepsModel" ⟨"EvenStepsModel", "clashOf", "(III)I"⟩ ⟨"EvenStepsModel", "clashOf", "(III)I"⟩ ∈ en_tb := en_tbi (List.mem_of_getElem? (i := 39) (by decide +kernel)) (by decide +kernel)
set_option maxRecDepth 100000 in
set_option maxHeartbeats 4000000 in
theorem wd_1189 : Cond.instanceMethod ⟨"EvenStepsModel", "clashOf", "(III)I"⟩ ∈ en_tb := en_tbi (List.mem_of_getElem? (i := 1189) (by decide +kernel)) (by decide +kernel)
set_option maxRecDepth 100000 in
set_option maxHeartbeats 4000000 in
theorem wd_1210 : Cond.code ⟨"EvenStepsModel", "areAlike", "(IIII)Z"⟩ prog_14_method_41_code 6 (some .boolean) ∈ en_tb := en_tbi (List.mem_of_getElem? (i := 1210) (by decide +kernel)) (by decide +kernel)
set_option maxRecDepth 100000 in
set_option maxHeartbeats 4000000 in
theorem wd_1207 : Cond.methodLink "EvenStepsModel" 178 ⟨"EvenStepsModel", "areAlike", "(IIII)Z"⟩ ∈ en_tb := en_tbi (List.mem_of_getElem? (i := 1207) (by decide +kernel)) (by decide +kernel)
set_option maxRecDepth 100000 in
set_option maxHeartbeats 4000000 in
theorem wd_41 : Cond.selects "EvenStepsModel" ⟨"EvenStepsModel", "areAlike", "(IIII)Z"⟩ ⟨"EvenStepsModel", "areAlike", "(IIII)Z"⟩ ∈ en_tb := en_tbi (List.mem_of_getElem? (i := 41) (by decide +kernel)) (by decide +kernel)
set_option maxRecDepth 100000 in
set_option maxHeartbeats 4000000 in
theorem wd_1209 : Cond.instanceMethod ⟨"EvenStepsModel", "areAlike", "(IIII)Z"⟩ ∈ en_tb := en_tbi (List.mem_of_getElem? (i := 1209) (by decide +kernel)) (by decide +kernel)
set_option maxRecDepth 100000 in
set_option maxHeartbeats 4000000 in
theorem wd_1214 : Cond.code ⟨"EvenStepsModel", "isBackward", "(III)Z"⟩ prog_14_method_42_code 5 (some .boolean) ∈ en_tb := en_tbi (List.mem_of_getElem? (i := 1214) (by decide +kernel)) (by decide +kernel)
set_option maxRecDepth 100000 in
set_option maxHeartbeats 4000000 in
theorem wd_1211 : Cond.methodLink "EvenStepsModel" 182 ⟨"EvenStepsModel", "isBackward", "(III)Z"⟩ ∈ en_tb := en_tbi (List.mem_of_getElem? (i := 1211) (by decide +kernel)) (by decide +kernel)
set_option maxRecDepth 100000 in
set_option maxHeartbeats 4000000 in
theorem wd_42 : Cond.selects "EvenStepsModel" ⟨"EvenStepsModel", "isBackward", "(III)Z"⟩ ⟨"EvenStepsModel", "isBackward", "(III)Z"⟩ ∈ en_tb := en_tbi (List.mem_of_getElem? (i := 42) (by decide +kernel)) (by decide +kernel)
set_option maxRecDepth 100000 in
set_option maxHeartbeats 4000000 in
theorem wd_1213 : Cond.instanceMethod ⟨"EvenStepsModel", "isBackward", "(III)Z"⟩ ∈ en_tb := en_tbi (List.mem_of_getElem? (i := 1213) (by decide +kernel)) (by decide +kernel)
set_option maxRecDepth 100000 in
set_option maxHeartbeats 4000000 in
theorem wd_1234 : Cond.code ⟨"EvenStepsModel", "isAhead", "(III)Z"⟩ prog_14_method_46_code 8 (some .boolean) ∈ en_tb := en_tbi (List.mem_of_getElem? (i := 1234) (by decide +kernel)) (by decide +kernel)
set_option maxRecDepth 100000 in
set_option maxHeartbeats 4000000 in
theorem wd_1231 : Cond.methodLink "EvenStepsModel" 185 ⟨"EvenStepsModel", "isAhead", "(III)Z"⟩ ∈ en_tb := en_tbi (List.mem_of_getElem? (i := 1231) (by decide +kernel)) (by decide +kernel)
set_option maxRecDepth 100000 in
set_option maxHeartbeats 4000000 in
theorem wd_46 : Cond.selects "EvenStepsModel" ⟨"EvenStepsModel", "isAhead", "(III)Z"⟩ ⟨"EvenStepsModel", "isAhead", "(III)Z"⟩ ∈ en_tb := en_tbi (List.mem_of_getElem? (i := 46) (by decide +kernel)) (by decide +kernel)
set_option maxRecDepth 100000 in
set_option maxHeartbeats 4000000 in
theorem wd_1233 : Cond.instanceMethod ⟨"EvenStepsModel", "isAhead", "(III)Z"⟩ ∈ en_tb := en_tbi (List.mem_of_getElem? (i := 1233) (by decide +kernel)) (by decide +kernel)
set_option maxRecDepth 100000 in
set_option maxHeartbeats 4000000 in
theorem wd_1230 : Cond.code ⟨"EvenStepsModel", "rings", "(II)V"⟩ prog_14_method_45_code 5 none ∈ en_tb := en_tbi (List.mem_of_getElem? (i := 1230) (by decide +kernel)) (by decide +kernel)
set_option maxRecDepth 100000 in
set_option maxHeartbeats 4000000 in
theorem wd_1227 : Cond.methodLink "EvenStepsModel" 188 ⟨"EvenStepsModel", "rings", "(II)V"⟩ ∈ en_tb := en_tbi (List.mem_of_getElem? (i := 1227) (by decide +kernel)) (by decide +kernel)
set_option maxRecDepth 100000 in
set_option maxHeartbeats 4000000 in
theorem wd_45 : Cond.selects "EvenStepsModel" ⟨"EvenStepsModel", "rings", "(II)V"⟩ ⟨"EvenStepsModel", "rings", "(II)V"⟩ ∈ en_tb := en_tbi (List.mem_of_getElem? (i := 45) (by decide +kernel)) (by decide +kernel)
set_option maxRecDepth 100000 in
set_option maxHeartbeats 4000000 in
theorem wd_1229 : Cond.instanceMethod ⟨"EvenStepsModel", "rings", "(II)V"⟩ ∈ en_tb := en_tbi (List.mem_of_getElem? (i := 1229) (by decide +kernel)) (by decide +kernel)
set_option maxRecDepth 100000 in
set_option maxHeartbeats 4000000 in
theorem wd_977 : Cond.fieldLink "EvenStepsModel" 192 "EvenStepsModel" "sorts" "I" ∈ en_tb := en_tbi (List.mem_of_getElem? (i := 977) (by decide +kernel)) (by decide +kernel)
set_option maxRecDepth 100000 in
set_option maxHeartbeats 4000000 in
theorem wd_1238 : Cond.code ⟨"EvenStepsModel", "against", "(IIIII)I"⟩ prog_14_method_47_code 10 (some .int) ∈ en_tb := en_tbi (List.mem_of_getElem? (i := 1238) (by decide +kernel)) (by decide +kernel)
set_option maxRecDepth 100000 in
set_option maxHeartbeats 4000000 in
theorem wd_1235 : Cond.methodLink "EvenStepsModel" 195 ⟨"EvenStepsModel", "against", "(IIIII)I"⟩ ∈ en_tb := en_tbi (List.mem_of_getElem? (i := 1235) (by decide +kernel)) (by decide +kernel)
set_option maxRecDepth 100000 in
set_option maxHeartbeats 4000000 in
theorem wd_47 : Cond.selects "EvenStepsModel" ⟨"EvenStepsModel", "against", "(IIIII)I"⟩ ⟨"EvenStepsModel", "against", "(IIIII)I"⟩ ∈ en_tb := en_tbi (List.mem_of_getElem? (i := 47) (by decide +kernel)) (by decide +kernel)
set_option maxRecDepth 100000 in
set_option maxHeartbeats 4000000 in
theorem wd_1237 : Cond.instanceMethod ⟨"EvenStepsModel", "against", "(IIIII)I"⟩ ∈ en_tb := en_tbi (List.mem_of_getElem? (i := 1237) (by decide +kernel)) (by decide +kernel)
set_option maxRecDepth 100000 in
set_option maxHeartbeats 4000000 in
theorem wd_1222 : Cond.code ⟨"EvenStepsModel", "arePoints", "(II)Z"⟩ prog_14_method_44_code 4 (some .boolean) ∈ en_tb := en_tbi (List.mem_of_getElem? (i := 1222) (by decide +kernel)) (by decide +kernel)
set_option maxRecDepth 100000 in
set_option maxHeartbeats 4000000 in
theorem wd_1219 : Cond.methodLink "EvenStepsModel" 199 ⟨"EvenStepsModel", "arePoints", "(II)Z"⟩ ∈ en_tb := en_tbi (List.mem_of_getElem? (i := 1219) (by decide +kernel)) (by decide +kernel)
set_option maxRecDepth 100000 in
set_option maxHeartbeats 4000000 in
theorem wd_43 : Cond.selects "EvenStepsModel" ⟨"EvenStepsModel", "arePoints", "(II)Z"⟩ ⟨"EvenStepsModel", "arePoints", "(II)Z"⟩ ∈ en_tb := en_tbi (List.mem_of_getElem? (i := 43) (by decide +kernel)) (by decide +kernel)
set_option maxRecDepth 100000 in
set_option maxHeartbeats 4000000 in
theorem wd_1221 : Cond.instanceMethod ⟨"EvenStepsModel", "arePoints", "(II)Z"⟩ ∈ en_tb := en_tbi (List.mem_of_getElem? (i := 1221) (by decide +kernel)) (by decide +kernel)
set_option maxRecDepth 100000 in
set_option maxHeartbeats 4000000 in
theorem wd_1226 : Cond.code ⟨"EvenStepsModel", "gapsOf", "(II)V"⟩ prog_14_method_48_code 7 none ∈ en_tb := en_tbi (List.mem_of_getElem? (i := 1226) (by decide +kernel)) (by decide +kernel)
set_option maxRecDepth 100000 in
set_option maxHeartbeats 4000000 in
theorem wd_1223 : Cond.methodLink "EvenStepsModel" 203 ⟨"EvenStepsModel", "gapsOf", "(II)V"⟩ ∈ en_tb := en_tbi (List.mem_of_getElem? (i := 1223) (by decide +kernel)) (by decide +kernel)
set_option maxRecDepth 100000 in
set_option maxHeartbeats 4000000 in
theorem wd_44 : Cond.selects "EvenStepsModel" ⟨"EvenStepsModel", "gapsOf", "(II)V"⟩ ⟨"EvenStepsModel", "gapsOf", "(II)V"⟩ ∈ en_tb := en_tbi (List.mem_of_getElem? (i := 44) (by decide +kernel)) (by decide +kernel)
set_option maxRecDepth 100000 in
set_option maxHeartbeats 4000000 in
theorem wd_1225 : Cond.instanceMethod ⟨"EvenStepsModel", "gapsOf", "(II)V"⟩ ∈ en_tb := en_tbi (List.mem_of_getElem? (i := 1225) (by decide +kernel)) (by decide +kernel)
set_option maxRecDepth 100000 in
set_option maxHeartbeats 4000000 in
theorem wd_1254 : Cond.code ⟨"EvenStepsModel", "areOne", "(II)Z"⟩ prog_14_method_52_code 17 (some .boolean) ∈ en_tb := en_tbi (List.mem_of_getElem? (i := 1254) (by decide +kernel)) (by decide +kernel)
set_option maxRecDepth 100000 in
set_option maxHeartbeats 4000000 in
theorem wd_1251 : Cond.methodLink "EvenStepsModel" 206 ⟨"EvenStepsModel", "areOne", "(II)Z"⟩ ∈ en_tb := en_tbi (List.mem_of_getElem? (i := 1251) (by decide +kernel)) (by decide +kernel)
set_option maxRecDepth 100000 in
set_option maxHeartbeats 4000000 in
theorem wd_48 : Cond.selects "EvenStepsModel" ⟨"EvenStepsModel", "areOne", "(II)Z"⟩ ⟨"EvenStepsModel", "areOne", "(II)Z"⟩ ∈ en_tb := en_tbi (List.mem_of_getElem? (i := 48) (by decide +kernel)) (by decide +kernel)
set_option maxRecDepth 100000 in
set_option maxHeartbeats 4000000 in
theorem wd_1253 : Cond.instanceMethod ⟨"EvenStepsModel", "areOne", "(II)Z"⟩ ∈ en_tb := en_tbi (List.mem_of_getElem? (i := 1253) (by decide +kernel)) (by decide +kernel)
set_option maxRecDepth 100000 in
set_option maxHeartbeats 4000000 in
theorem wd_1259 : Cond.constantLong "EvenStepsModel" 209 (-1) ∈ en_tb := en_tbi (List.mem_of_getElem? (i := 1259) (by decide +kernel)) (by decide +kernel)
set_option maxRecDepth 100000 in
set_option maxHeartbeats 4000000 in
theorem wd_979 : Cond.fieldLink "EvenStepsModel" 211 "EvenStepsModel" "paired" "Z" ∈ en_tb := en_tbi (List.mem_of_getElem? (i := 979) (by decide +kernel)) (by decide +kernel)
set_option maxRecDepth 100000 in
set_option maxHeartbeats 4000000 in
theorem wd_1271 : Cond.code ⟨"EvenStepsModel", "pairs", "()V"⟩ prog_14_method_56_code 3 none ∈ en_tb := en_tbi (List.mem_of_getElem? (i := 1271) (by decide +kernel)) (by decide +kernel)
set_option maxRecDepth 100000 in
set_option maxHeartbeats 4000000 in
theorem wd_1268 : Cond.methodLink "EvenStepsModel" 215 ⟨"EvenStepsModel", "pairs", "()V"⟩ ∈ en_tb := en_tbi (List.mem_of_getElem? (i := 1268) (by decide +kernel)) (by decide +kernel)
set_option maxRecDepth 100000 in
set_option maxHeartbeats 4000000 in
theorem wd_49 : Cond.selects "EvenStepsModel" ⟨"EvenStepsModel", "pairs", "()V"⟩ ⟨"EvenStepsModel", "pairs", "()V"⟩ ∈ en_tb := en_tbi (List.mem_of_getElem? (i := 49) (by decide +kernel)) (by decide +kernel)
set_option maxRecDepth 100000 in
set_option maxHeartbeats 4000000 in
theorem wd_1270 : Cond.instanceMethod ⟨"EvenStepsModel", "pairs", "()V"⟩ ∈ en_tb := en_tbi (List.mem_of_getElem? (i := 1270) (by decide +kernel)) (by decide +kernel)
set_option maxRecDepth 100000 in
set_option maxHeartbeats 4000000 in
theorem wd_1267 : Cond.code ⟨"EvenStepsModel", "wins", "(II)I"⟩ prog_14_method_57_code 3 (some .int) ∈ en_tb := en_tbi (List.mem_of_getElem? (i := 1267) (by decide +kernel)) (by decide +kernel)
set_option maxRecDepth 100000 in
set_option maxHeartbeats 4000000 in
theorem wd_1276 : Cond.methodLink "EvenStepsModel" 218 ⟨"EvenStepsModel", "wins", "(II)I"⟩ ∈ en_tb := en_tbi (List.mem_of_getElem? (i := 1276) (by decide +kernel)) (by decide +kernel)
set_option maxRecDepth 100000 in
set_option maxHeartbeats 4000000 in
theorem wd_1266 : Cond.selects "EvenStepsModel" ⟨"EvenStepsModel", "wins", "(II)I"⟩ ⟨"EvenStepsModel", "wins", "(II)I"⟩ ∈ en_tb := en_tbi (List.mem_of_getElem? (i := 1266) (by decide +kernel)) (by decide +kernel)
set_option maxRecDepth 100000 in
set_option maxHeartbeats 4000000 in
theorem wd_1265 : Cond.instanceMethod ⟨"EvenStepsModel", "wins", "(II)I"⟩ ∈ en_tb := en_tbi (List.mem_of_getElem? (i := 1265) (by decide +kernel)) (by decide +kernel)
set_option maxRecDepth 100000 in
set_option maxHeartbeats 4000000 in
theorem wd_1277 : Cond.constant "EvenStepsModel" 221 1000000 ∈ en_tb := en_tbi (List.mem_of_getElem? (i := 1277) (by decide +kernel)) (by decide +kernel)
set_option maxRecDepth 100000 in
set_option maxHeartbeats 4000000 in
theorem wd_1278 : Cond.constant "EvenStepsModel" 222 2000000 ∈ en_tb := en_tbi (List.mem_of_getElem? (i := 1278) (by decide +kernel)) (by decide +kernel)
set_option maxRecDepth 100000 in
set_option maxHeartbeats 4000000 in
theorem wd_1279 : Cond.constant "EvenStepsModel" 223 3000000 ∈ en_tb := en_tbi (List.mem_of_getElem? (i := 1279) (by decide +kernel)) (by decide +kernel)
set_option maxRecDepth 100000 in
set_option maxHeartbeats 4000000 in
theorem wd_1295 : Cond.code ⟨"EvenStepsModel", "ran", "(I)V"⟩ prog_14_method_59_code 2 none ∈ en_tb := en_tbi (List.mem_of_getElem? (i := 1295) (by decide +kernel)) (by decide +kernel)
set_option maxRecDepth 100000 in
set_option maxHeartbeats 4000000 in
theorem wd_1292 : Cond.methodLink "EvenStepsModel" 224 ⟨"EvenStepsModel", "ran", "(I)V"⟩ ∈ en_tb := en_tbi (List.mem_of_getElem? (i := 1292) (by decide +kernel)) (by decide +kernel)
set_option maxRecDepth 100000 in
set_option maxHeartbeats 4000000 in
theorem wd_52 : Cond.selects "EvenStepsModel" ⟨"EvenStepsModel", "ran", "(I)V"⟩ ⟨"EvenStepsModel", "ran", "(I)V"⟩ ∈ en_tb := en_tbi (List.mem_of_getElem? (i := 52) (by decide +kernel)) (by decide +kernel)
set_option maxRecDepth 100000 in
set_option maxHeartbeats 4000000 in
theorem wd_1294 : Cond.instanceMethod ⟨"EvenStepsModel", "ran", "(I)V"⟩ ∈ en_tb := en_tbi (List.mem_of_getElem? (i := 1294) (by decide +kernel)) (by decide +kernel)
set_option maxRecDepth 100000 in
set_option maxHeartbeats 4000000 in
theorem wd_1299 : Cond.code ⟨"EvenStepsModel", "stepOne", "(I)I"⟩ prog_14_method_60_code 2 (some .int) ∈ en_tb := en_tbi (List.mem_of_getElem? (i := 1299) (by decide +kernel)) (by decide +kernel)
set_option maxRecDepth 100000 in
set_option maxHeartbeats 4000000 in
theorem wd_1296 : Cond.methodLink "EvenStepsModel" 227 ⟨"EvenStepsModel", "stepOne", "(I)I"⟩ ∈ en_tb := en_tbi (List.mem_of_getElem? (i := 1296) (by decide +kernel)) (by decide +kernel)
set_option maxRecDepth 100000 in
set_option maxHeartbeats 4000000 in
theorem wd_53 : Cond.selects "EvenStepsModel" ⟨"EvenStepsModel", "stepOne", "(I)I"⟩ ⟨"EvenStepsModel", "stepOne", "(I)I"⟩ ∈ en_tb := en_tbi (List.mem_of_getElem? (i := 53) (by decide +kernel)) (by decide +kernel)
set_option maxRecDepth 100000 in
set_option maxHeartbeats 4000000 in
theorem wd_1298 : Cond.instanceMethod ⟨"EvenStepsModel", "stepOne", "(I)I"⟩ ∈ en_tb := en_tbi (List.mem_of_getElem? (i := 1298) (by decide +kernel)) (by decide +kernel)
set_option maxRecDepth 100000 in
set_option maxHeartbeats 4000000 in
theorem wd_1291 : Cond.code ⟨"EvenStepsModel", "goRow", "(II)I"⟩ prog_14_method_61_code 3 (some .int) ∈ en_tb := en_tbi (List.mem_of_getElem? (i := 1291) (by decide +kernel)) (by decide +kernel)
set_option maxRecDepth 100000 in
set_option maxHeartbeats 4000000 in
theorem wd_1288 : Cond.methodLink "EvenStepsModel" 230 ⟨"EvenStepsModel", "goRow", "(II)I"⟩ ∈ en_tb := en_tbi (List.mem_of_getElem? (i := 1288) (by decide +kernel)) (by decide +kernel)
set_option maxRecDepth 100000 in
set_option maxHeartbeats 4000000 in
theorem wd_51 : Cond.selects "EvenStepsModel" ⟨"EvenStepsModel", "goRow", "(II)I"⟩ ⟨"EvenStepsModel", "goRow", "(II)I"⟩ ∈ en_tb := en_tbi (List.mem_of_getElem? (i := 51) (by decide +kernel)) (by decide +kernel)
set_option maxRecDepth 100000 in
set_option maxHeartbeats 4000000 in
theorem wd_1290 : Cond.instanceMethod ⟨"EvenStepsModel", "goRow", "(II)I"⟩ ∈ en_tb := en_tbi (List.mem_of_getElem? (i := 1290) (by decide +kernel)) (by decide +kernel)
set_option maxRecDepth 100000 in
set_option maxHeartbeats 4000000 in
theorem wd_1303 : Cond.code ⟨"EvenStepsModel", "goEven", "(II)I"⟩ prog_14_method_62_code 3 (some .int) ∈ en_tb := en_tbi (List.mem_of_getElem? (i := 1303) (by decide +kernel)) (by decide +kernel)
set_option maxRecDepth 100000 in
set_option maxHeartbeats 4000000 in
theorem wd_1300 : Cond.methodLink "EvenStepsModel" 233 ⟨"EvenStepsModel", "goEven", "(II)I"⟩ ∈ en_tb := en_tbi (List.mem_of_getElem? (i := 1300) (by decide +kernel)) (by decide +kernel)
set_option maxRecDepth 100000 in
set_option maxHeartbeats 4000000 in
theorem wd_54 : Cond.selects "EvenStepsModel" ⟨"EvenStepsModel", "goEven", "(II)I"⟩ ⟨"EvenStepsModel", "goEven", "(II)I"⟩ ∈ en_tb := en_tbi (List.mem_of_getElem? (i := 54) (by decide +kernel)) (by decide +kernel)
set_option maxRecDepth 100000 in
set_option maxHeartbeats 4000000 in
theorem wd_1302 : Cond.instanceMethod ⟨"EvenStepsModel", "goEven", "(II)I"⟩ ∈ en_tb := en_tbi (List.mem_of_getElem? (i := 1302) (by decide +kernel)) (by decide +kernel)
set_option maxRecDepth 100000 in
set_option maxHeartbeats 4000000 in
theorem wd_1287 : Cond.code ⟨"EvenStepsModel", "go", "(II)I"⟩ prog_14_method_63_code 3 (some .int) ∈ en_tb := en_tbi (List.mem_of_getElem? (i := 1287) (by decide +kernel)) (by decide +kernel)
set_option maxRecDepth 100000 in
set_option maxHeartbeats 4000000 in
theorem wd_1284 : Cond.methodLink "EvenStepsModel" 236 ⟨"EvenStepsModel", "go", "(II)I"⟩ ∈ en_tb := en_tbi (List.mem_of_getElem? (i := 1284) (by decide +kernel)) (by decide +kernel)
set_option maxRecDepth 100000 in
set_option maxHeartbeats 4000000 in
theorem wd_50 : Cond.selects "EvenStepsModel" ⟨"EvenStepsModel", "go", "(II)I"⟩ ⟨"EvenStepsModel", "go", "(II)I"⟩ ∈ en_tb := en_tbi (List.mem_of_getElem? (i := 50) (by decide +kernel)) (by decide +kernel)
set_option maxRecDepth 100000 in
set_option maxHeartbeats 4000000 in
theorem wd_1286 : Cond.instanceMethod ⟨"EvenStepsModel", "go", "(II)I"⟩ ∈ en_tb := en_tbi (List.mem_of_getElem? (i := 1286) (by decide +kernel)) (by decide +kernel)
set_option maxRecDepth 100000 in
set_option maxHeartbeats 4000000 in
theorem wd_1311 : Cond.code ⟨"EvenStepsModel", "gapRow", "(II)I"⟩ prog_14_method_64_code 3 (some .int) ∈ en_tb := en_tbi (List.mem_of_getElem? (i := 1311) (by decide +kernel)) (by decide +kernel)
set_option maxRecDepth 100000 in
set_option maxHeartbeats 4000000 in
theorem wd_1308 : Cond.methodLink "EvenStepsModel" 239 ⟨"EvenStepsModel", "gapRow", "(II)I"⟩ ∈ en_tb := en_tbi (List.mem_of_getElem? (i := 1308) (by decide +kernel)) (by decide +kernel)
set_option maxRecDepth 100000 in
set_option maxHeartbeats 4000000 in
theorem wd_56 : Cond.selects "EvenStepsModel" ⟨"EvenStepsModel", "gapRow", "(II)I"⟩ ⟨"EvenStepsModel", "gapRow", "(II)I"⟩ ∈ en_tb := en_tbi (List.mem_of_getElem? (i := 56) (by decide +kernel)) (by decide +kernel)
set_option maxRecDepth 100000 in
set_option maxHeartbeats 4000000 in
theorem wd_1310 : Cond.instanceMethod ⟨"EvenStepsModel", "gapRow", "(II)I"⟩ ∈ en_tb := en_tbi (List.mem_of_getElem? (i := 1310) (by decide +kernel)) (by decide +kernel)
set_option maxRecDepth 100000 in
set_option maxHeartbeats 4000000 in
theorem wd_1319 : Cond.code ⟨"EvenStepsModel", "growRow", "(II)I"⟩ prog_14_method_66_code 3 (some .int) ∈ en_tb := en_tbi (List.mem_of_getElem? (i := 1319) (by decide +kernel)) (by decide +kernel)
set_option maxRecDepth 100000 in
set_option maxHeartbeats 4000000 in
theorem wd_1316 : Cond.methodLink "EvenStepsModel" 242 ⟨"EvenStepsModel", "growRow", "(II)I"⟩ ∈ en_tb := en_tbi (List.mem_of_getElem? (i := 1316) (by decide +kernel)) (by decide +kernel)
set_option maxRecDepth 100000 in
set_option maxHeartbeats 4000000 in
theorem wd_58 : Cond.selects "EvenStepsModel" ⟨"EvenStepsModel", "growRow", "(II)I"⟩ ⟨"EvenStepsModel", "growRow", "(II)I"⟩ ∈ en_tb := en_tbi (List.mem_of_getElem? (i := 58) (by decide +kernel)) (by decide +kernel)
set_option maxRecDepth 100000 in
set_option maxHeartbeats 4000000 in
theorem wd_1318 : Cond.instanceMethod ⟨"EvenStepsModel", "growRow", "(II)I"⟩ ∈ en_tb := en_tbi (List.mem_of_getElem? (i := 1318) (by decide +kernel)) (by decide +kernel)
set_option maxRecDepth 100000 in
set_option maxHeartbeats 4000000 in
theorem wd_1323 : Cond.code ⟨"EvenStepsModel", "growEven", "(II)I"⟩ prog_14_method_67_code 3 (some .int) ∈ en_tb := en_tbi (List.mem_of_getElem? (i := 1323) (by decide +kernel)) (by decide +kernel)
set_option maxRecDepth 100000 in
set_option maxHeartbeats 4000000 in
theorem wd_1320 : Cond.methodLink "EvenStepsModel" 245 ⟨"EvenStepsModel", "growEven", "(II)I"⟩ ∈ en_tb := en_tbi (List.mem_of_getElem? (i := 1320) (by decide +kernel)) (by decide +kernel)
set_option maxRecDepth 100000 in
set_option maxHeartbeats 4000000 in
theorem wd_59 : Cond.selects "EvenStepsModel" ⟨"EvenStepsModel", "growEven", "(II)I"⟩ ⟨"EvenStepsModel", "growEven", "(II)I"⟩ ∈ en_tb := en_tbi (List.mem_of_getElem? (i := 59) (by decide +kernel)) (by decide +kernel)
set_option maxRecDepth 100000 in
set_option maxHeartbeats 4000000 in
theorem wd_1322 : Cond.instanceMethod ⟨"EvenStepsModel", "growEven", "(II)I"⟩ ∈ en_tb := en_tbi (List.mem_of_getElem? (i := 1322) (by decide +kernel)) (by decide +kernel)
set_option maxRecDepth 100000 in
set_option maxHeartbeats 4000000 in
theorem wd_1307 : Cond.code ⟨"EvenStepsModel", "gapNow", "(II)I"⟩ prog_14_method_65_code 4 (some .int) ∈ en_tb := en_tbi (List.mem_of_getElem? (i := 1307) (by decide +kernel)) (by decide +kernel)
set_option maxRecDepth 100000 in
set_option maxHeartbeats 4000000 in
theorem wd_1304 : Cond.methodLink "EvenStepsModel" 248 ⟨"EvenStepsModel", "gapNow", "(II)I"⟩ ∈ en_tb := en_tbi (List.mem_of_getElem? (i := 1304) (by decide +kernel)) (by decide +kernel)
set_option maxRecDepth 100000 in
set_option maxHeartbeats 4000000 in
theorem wd_55 : Cond.selects "EvenStepsModel" ⟨"EvenStepsModel", "gapNow", "(II)I"⟩ ⟨"EvenStepsModel", "gapNow", "(II)I"⟩ ∈ en_tb := en_tbi (List.mem_of_getElem? (i := 55) (by decide +kernel)) (by decide +kernel)
set_option maxRecDepth 100000 in
set_option maxHeartbeats 4000000 in
theorem wd_1306 : Cond.instanceMethod ⟨"EvenStepsModel", "gapNow", "(II)I"⟩ ∈ en_tb := en_tbi (List.mem_of_getElem? (i := 1306) (by decide +kernel)) (by decide +kernel)
set_option maxRecDepth 100000 in
set_option maxHeartbeats 4000000 in
theorem wd_1315 : Cond.code ⟨"EvenStepsModel", "grow", "(II)I"⟩ prog_14_method_68_code 3 (some .int) ∈ en_tb := en_tbi (List.mem_of_getElem? (i := 1315) (by decide +kernel)) (by decide +kernel)
set_option maxRecDepth 100000 in
set_option maxHeartbeats 4000000 in
theorem wd_1312 : Cond.methodLink "EvenStepsModel" 251 ⟨"EvenStepsModel", "grow", "(II)I"⟩ ∈ en_tb := en_tbi (List.mem_of_getElem? (i := 1312) (by decide +kernel)) (by decide +kernel)
set_option maxRecDepth 100000 in
set_option maxHeartbeats 4000000 in
theorem wd_57 : Cond.selects "EvenStepsModel" ⟨"EvenStepsModel", "grow", "(II)I"⟩ ⟨"EvenStepsModel", "grow", "(II)I"⟩ ∈ en_tb := en_tbi (List.mem_of_getElem? (i := 57) (by decide +kernel)) (by decide +kernel)
set_option maxRecDepth 100000 in
set_option maxHeartbeats 4000000 in
theorem wd_1314 : Cond.instanceMethod ⟨"EvenStepsModel", "grow", "(II)I"⟩ ∈ en_tb := en_tbi (List.mem_of_getElem? (i := 1314) (by decide +kernel)) (by decide +kernel)
set_option maxRecDepth 100000 in
set_option maxHeartbeats 4000000 in
theorem wd_1331 : Cond.code ⟨"EvenStepsModel", "tellRow", "(II)I"⟩ prog_14_method_69_code 4 (some .int) ∈ en_tb := en_tbi (List.mem_of_getElem? (i := 1331) (by decide +kernel)) (by decide +kernel)
set_option maxRecDepth 100000 in
set_option maxHeartbeats 4000000 in
theorem wd_1328 : Cond.methodLink "EvenStepsModel" 254 ⟨"EvenStepsModel", "tellRow", "(II)I"⟩ ∈ en_tb := en_tbi (List.mem_of_getElem? (i := 1328) (by decide +kernel)) (by decide +kernel)
set_option maxRecDepth 100000 in
set_option maxHeartbeats 4000000 in
theorem wd_61 : Cond.selects "EvenStepsModel" ⟨"EvenStepsModel", "tellRow", "(II)I"⟩ ⟨"EvenStepsModel", "tellRow", "(II)I"⟩ ∈ en_tb := en_tbi (List.mem_of_getElem? (i := 61) (by decide +kernel)) (by decide +kernel)
set_option maxRecDepth 100000 in
set_option maxHeartbeats 4000000 in
theorem wd_1330 : Cond.instanceMethod ⟨"EvenStepsModel", "tellRow", "(II)I"⟩ ∈ en_tb := en_tbi (List.mem_of_getElem? (i := 1330) (by decide +kernel)) (by decide +kernel)
set_option maxRecDepth 100000 in
set_option maxHeartbeats 4000000 in
theorem wd_1327 : Cond.code ⟨"EvenStepsModel", "tell", "(II)I"⟩ prog_14_method_70_code 4 (some .int) ∈ en_tb := en_tbi (List.mem_of_getElem? (i := 1327) (by decide +kernel)) (by decide +kernel)
set_option maxRecDepth 100000 in
set_option maxHeartbeats 4000000 in
theorem wd_1324 : Cond.methodLink "EvenStepsModel" 257 ⟨"EvenStepsModel", "tell", "(II)I"⟩ ∈ en_tb := en_tbi (List.mem_of_getElem? (i := 1324) (by decide +kernel)) (by decide +kernel)
set_option maxRecDepth 100000 in
set_option maxHeartbeats 4000000 in
theorem wd_60 : Cond.selects "EvenStepsModel" ⟨"EvenStepsModel", "tell", "(II)I"⟩ ⟨"EvenStepsModel", "tell", "(II)I"⟩ ∈ en_tb := en_tbi (List.mem_of_getElem? (i := 60) (by decide +kernel)) (by decide +kernel)
set_option maxRecDepth 100000 in
set_option maxHeartbeats 4000000 in
theorem wd_1326 : Cond.instanceMethod ⟨"EvenStepsModel", "tell", "(II)I"⟩ ∈ en_tb := en_tbi (List.mem_of_getElem? (i := 1326) (by decide +kernel)) (by decide +kernel)
set_option maxRecDepth 100000 in
set_option maxHeartbeats 4000000 in
theorem wd_1350 : Cond.code ⟨"EvenStepsModel", "modulo", "(II)I"⟩ prog_14_method_75_code 3 (some .int) ∈ en_tb := en_tbi (List.mem_of_getElem? (i := 1350) (by decide +kernel)) (by decide +kernel)
set_option maxRecDepth 100000 in
set_option maxHeartbeats 4000000 in
theorem wd_1349 : Cond.static ⟨"EvenStepsModel", "modulo", "(II)I"⟩ ∈ en_tb := en_tbi (List.mem_of_getElem? (i := 1349) (by decide +kernel)) (by decide +kernel)
set_option maxRecDepth 100000 in
set_option maxHeartbeats 4000000 in
theorem wd_1348 : Cond.methodLink "EvenStepsModel" 260 ⟨"EvenStepsModel", "modulo", "(II)I"⟩ ∈ en_tb := en_tbi (List.mem_of_getElem? (i := 1348) (by decide +kernel)) (by decide +kernel)
set_option maxRecDepth 100000 in
set_option maxHeartbeats 4000000 in
theorem wd_1353 : Cond.code ⟨"EvenStepsModel", "isUnder", "(II)Z"⟩ prog_14_method_76_code 2 (some .boolean) ∈ en_tb := en_tbi (List.mem_of_getElem? (i := 1353) (by decide +kernel)) (by decide +kernel)
set_option maxRecDepth 100000 in
set_option maxHeartbeats 4000000 in
theorem wd_1352 : Cond.static ⟨"EvenStepsModel", "isUnder", "(II)Z"⟩ ∈ en_tb := en_tbi (List.mem_of_getElem? (i := 1352) (by decide +kernel)) (by decide +kernel)
set_option maxRecDepth 100000 in
set_option maxHeartbeats 4000000 in
theorem wd_1351 : Cond.methodLink "EvenStepsModel" 263 ⟨"EvenStepsModel", "isUnder", "(II)Z"⟩ ∈ en_tb := en_tbi (List.mem_of_getElem? (i := 1351) (by decide +kernel)) (by decide +kernel)
set_option maxRecDepth 100000 in
set_option maxHeartbeats 4000000 in
theorem wd_264 : Cond.constant "java/lang/Integer" 264 65536 ∈ en_tb := en_tbi (List.mem_of_getElem? (i := 264) (by decide +kernel)) (by decide +kernel)
set_option maxRecDepth 100000 in
set_option maxHeartbeats 4000000 in
theorem wd_263 : Cond.code ⟨"java/lang/Integer", "numberOfLeadingZeros", "(I)I"⟩ prog_15_method_47_code 2 (some .int) ∈ en_tb := en_tbi (List.mem_of_getElem? (i := 263) (by decide +kernel)) (by decide +kernel)
set_option maxRecDepth 100000 in
set_option maxHeartbeats 4000000 in
theorem wd_70 : Cond.initialized "java/lang/Integer" ∈ en_tb := en_tbi (List.mem_of_getElem? (i := 70) (by decide +kernel)) (by decide +kernel)
set_option maxRecDepth 100000 in
set_option maxHeartbeats 4000000 in
theorem wd_262 : Cond.static ⟨"java/lang/Integer", "numberOfLeadingZeros", "(I)I"⟩ ∈ en_tb := en_tbi (List.mem_of_getElem? (i := 262) (by decide +kernel)) (by decide +kernel)
set_option maxRecDepth 100000 in
set_option maxHeartbeats 4000000 in
theorem wd_261 : Cond.methodLink "java/lang/Long" 308 ⟨"java/lang/Integer", "numberOfLeadingZeros", "(I)I"⟩ ∈ en_tb := en_tbi (List.mem_of_getElem? (i := 261) (by decide +kernel)) (by decide +kernel)
set_option maxRecDepth 100000 in
set_option maxHeartbeats 4000000 in
theorem wd_650 : Cond.constantLong "java/lang/Long" 314 6148914691236517205 ∈ en_tb := en_tbi (List.mem_of_getElem? (i := 650) (by decide +kernel)) (by decide +kernel)
set_option maxRecDepth 100000 in
set_option maxHeartbeats 4000000 in
theorem wd_651 : Cond.constantLong "java/lang/Long" 316 3689348814741910323 ∈ en_tb := en_tbi (List.mem_of_getElem? (i := 651) (by decide +kernel)) (by decide +kernel)
set_option maxRecDepth 100000 in
set_option maxHeartbeats 4000000 in
theorem wd_652 : Cond.constantLong "java/lang/Long" 318 1085102592571150095 ∈ en_tb := en_tbi (List.mem_of_getElem? (i := 652) (by decide +kernel)) (by decide +kernel)
set_option maxRecDepth 100000 in
set_option maxHeartbeats 4000000 in
theorem wd_79 : Cond.classLink "EvenStepsLaw" 7 "EvenSteps" ∈ en_tb := en_tbi (List.mem_of_getElem? (i := 79) (by decide +kernel)) (by decide +kernel)
set_option maxRecDepth 100000 in
set_option maxHeartbeats 4000000 in
theorem wd_83 : Cond.code ⟨"EvenSteps", "<init>", "()V"⟩ prog_1_method_1_code 2 none ∈ en_tb := en_tbi (List.mem_of_getElem? (i := 83) (by decide +kernel)) (by decide +kernel)
set_option maxRecDepth 100000 in
set_option maxHeartbeats 4000000 in
theorem wd_82 : Cond.instanceMethod ⟨"EvenSteps", "<init>", "()V"⟩ ∈ en_tb := en_tbi (List.mem_of_getElem? (i := 82) (by decide +kernel)) (by decide +kernel)
set_option maxRecDepth 100000 in
set_option maxHeartbeats 4000000 in
theorem wd_81 : Cond.methodLink "EvenStepsLaw" 9 ⟨"EvenSteps", "<init>", "()V"⟩ ∈ en_tb := en_tbi (List.mem_of_getElem? (i := 81) (by decide +kernel)) (by decide +kernel)
set_option maxRecDepth 100000 in
set_option maxHeartbeats 4000000 in
theorem wd_940 : Cond.classLink "EvenStepsLaw" 10 "EvenStepsModel" ∈ en_tb := en_tbi (List.mem_of_getElem? (i := 940) (by decide +kernel)) (by decide +kernel)
set_option maxRecDepth 100000 in
set_option maxHeartbeats 4000000 in
theorem wd_944 : Cond.code ⟨"EvenStepsModel", "<init>", "()V"⟩ prog_14_method_1_code 2 none ∈ en_tb := en_tbi (List.mem_of_getElem? (i := 944) (by decide +kernel)) (by decide +kernel)
set_option maxRecDepth 100000 in
set_option maxHeartbeats 4000000 in
theorem wd_943 : Cond.instanceMethod ⟨"EvenStepsModel", "<init>", "()V"⟩ ∈ en_tb := en_tbi (List.mem_of_getElem? (i := 943) (by decide +kernel)) (by decide +kernel)
set_option maxRecDepth 100000 in
set_option maxHeartbeats 4000000 in
theorem wd_942 : Cond.methodLink "EvenStepsLaw" 12 ⟨"EvenStepsModel", "<init>", "()V"⟩ ∈ en_tb := en_tbi (List.mem_of_getElem? (i := 942) (by decide +kernel)) (by decide +kernel)
set_option maxRecDepth 100000 in
set_option maxHeartbeats 4000000 in
theorem wd_247 : Cond.code ⟨"EvenSteps", "slope", "(IIII)I"⟩ prog_1_method_2_code 5 (some .int) ∈ en_tb := en_tbi (List.mem_of_getElem? (i := 247) (by decide +kernel)) (by decide +kernel)
set_option maxRecDepth 100000 in
set_option maxHeartbeats 4000000 in
theorem wd_244 : Cond.methodLink "EvenStepsLaw" 13 ⟨"EvenSteps", "slope", "(IIII)I"⟩ ∈ en_tb := en_tbi (List.mem_of_getElem? (i := 244) (by decide +kernel)) (by decide +kernel)
set_option maxRecDepth 100000 in
set_option maxHeartbeats 4000000 in
theorem wd_246 : Cond.selects "EvenSteps" ⟨"EvenSteps", "slope", "(IIII)I"⟩ ⟨"EvenSteps", "slope", "(IIII)I"⟩ ∈ en_tb := en_tbi (List.mem_of_getElem? (i := 246) (by decide +kernel)) (by decide +kernel)
set_option maxRecDepth 100000 in
set_option maxHeartbeats 4000000 in
theorem wd_245 : Cond.instanceMethod ⟨"EvenSteps", "slope", "(IIII)I"⟩ ∈ en_tb := en_tbi (List.mem_of_getElem? (i := 245) (by decide +kernel)) (by decide +kernel)
set_option maxRecDepth 100000 in
set_option maxHeartbeats 4000000 in
theorem wd_1050 : Cond.code ⟨"EvenStepsModel", "slope", "(IIII)I"⟩ prog_14_method_10_code 6 (some .int) ∈ en_tb := en_tbi (List.mem_of_getElem? (i := 1050) (by decide +kernel)) (by decide +kernel)
set_option maxRecDepth 100000 in
set_option maxHeartbeats 4000000 in
theorem wd_1047 : Cond.methodLink "EvenStepsLaw" 17 ⟨"EvenStepsModel", "slope", "(IIII)I"⟩ ∈ en_tb := en_tbi (List.mem_of_getElem? (i := 1047) (by decide +kernel)) (by decide +kernel)
set_option maxRecDepth 100000 in
set_option maxHeartbeats 4000000 in
theorem wd_1049 : Cond.selects "EvenStepsModel" ⟨"EvenStepsModel", "slope", "(IIII)I"⟩ ⟨"EvenStepsModel", "slope", "(IIII)I"⟩ ∈ en_tb := en_tbi (List.mem_of_getElem? (i := 1049) (by decide +kernel)) (by decide +kernel)
set_option maxRecDepth 100000 in
set_option maxHeartbeats 4000000 in
theorem wd_1048 : Cond.instanceMethod ⟨"EvenStepsModel", "slope", "(IIII)I"⟩ ∈ en_tb := en_tbi (List.mem_of_getElem? (i := 1048) (by decide +kernel)) (by decide +kernel)
set_option maxRecDepth 100000 in
set_option maxHeartbeats 4000000 in
theorem wd_339 : Cond.code ⟨"EvenSteps", "row", "(III)I"⟩ prog_1_method_3_code 5 (some .int) ∈ en_tb := en_tbi (List.mem_of_getElem? (i := 339) (by decide +kernel)) (by decide +kernel)
set_option maxRecDepth 100000 in
set_option maxHeartbeats 4000000 in
theorem wd_336 : Cond.methodLink "EvenStepsLaw" 18 ⟨"EvenSteps", "row", "(III)I"⟩ ∈ en_tb := en_tbi (List.mem_of_getElem? (i := 336) (by decide +kernel)) (by decide +kernel)
set_option maxRecDepth 100000 in
set_option maxHeartbeats 4000000 in
theorem wd_338 : Cond.selects "EvenSteps" ⟨"EvenSteps", "row", "(III)I"⟩ ⟨"EvenSteps", "row", "(III)I"⟩ ∈ en_tb := en_tbi (List.mem_of_getElem? (i := 338) (by decide +kernel)) (by decide +kernel)
set_option maxRecDepth 100000 in
set_option maxHeartbeats 4000000 in
theorem wd_337 : Cond.instanceMethod ⟨"EvenSteps", "row", "(III)I"⟩ ∈ en_tb := en_tbi (List.mem_of_getElem? (i := 337) (by decide +kernel)) (by decide +kernel)
set_option maxRecDepth 100000 in
set_option maxHeartbeats 4000000 in
theorem wd_1134 : Cond.code ⟨"EvenStepsModel", "row", "(III)I"⟩ prog_14_method_24_code 5 (some .int) ∈ en_tb := en_tbi (List.mem_of_getElem? (i := 1134) (by decide +kernel)) (by decide +kernel)
set_option maxRecDepth 100000 in
set_option maxHeartbeats 4000000 in
theorem wd_1131 : Cond.methodLink "EvenStepsLaw" 22 ⟨"EvenStepsModel", "row", "(III)I"⟩ ∈ en_tb := en_tbi (List.mem_of_getElem? (i := 1131) (by decide +kernel)) (by decide +kernel)
set_option maxRecDepth 100000 in
set_option maxHeartbeats 4000000 in
theorem wd_1133 : Cond.selects "EvenStepsModel" ⟨"EvenStepsModel", "row", "(III)I"⟩ ⟨"EvenStepsModel", "row", "(III)I"⟩ ∈ en_tb := en_tbi (List.mem_of_getElem? (i := 1133) (by decide +kernel)) (by decide +kernel)
set_option maxRecDepth 100000 in
set_option maxHeartbeats 4000000 in
theorem wd_1132 : Cond.instanceMethod ⟨"EvenStepsModel", "row", "(III)I"⟩ ∈ en_tb := en_tbi (List.mem_of_getElem? (i := 1132) (by decide +kernel)) (by decide +kernel)
set_option maxRecDepth 100000 in
set_option maxHeartbeats 4000000 in
theorem wd_414 : Cond.code ⟨"EvenSteps", "even", "(III)I"⟩ prog_1_method_4_code 5 (some .int) ∈ en_tb := en_tbi (List.mem_of_getElem? (i := 414) (by decide +kernel)) (by decide +kernel)
set_option maxRecDepth 100000 in
set_option maxHeartbeats 4000000 in
theorem wd_411 : Cond.methodLink "EvenStepsLaw" 23 ⟨"EvenSteps", "even", "(III)I"⟩ ∈ en_tb := en_tbi (List.mem_of_getElem? (i := 411) (by decide +kernel)) (by decide +kernel)
set_option maxRecDepth 100000 in
set_option maxHeartbeats 4000000 in
theorem wd_413 : Cond.selects "EvenSteps" ⟨"EvenSteps", "even", "(III)I"⟩ ⟨"EvenSteps", "even", "(III)I"⟩ ∈ en_tb := en_tbi (List.mem_of_getElem? (i := 413) (by decide +kernel)) (by decide +kernel)
set_option maxRecDepth 100000 in
set_option maxHeartbeats 4000000 in
theorem wd_412 : Cond.instanceMethod ⟨"EvenSteps", "even", "(III)I"⟩ ∈ en_tb := en_tbi (List.mem_of_getElem? (i := 412) (by decide +kernel)) (by decide +kernel)
set_option maxRecDepth 100000 in
set_option maxHeartbeats 4000000 in
theorem wd_1138 : Cond.code ⟨"EvenStepsModel", "even", "(III)I"⟩ prog_14_method_26_code 4 (some .int) ∈ en_tb := en_tbi (List.mem_of_getElem? (i := 1138) (by decide +kernel)) (by decide +kernel)
set_option maxRecDepth 100000 in
set_option maxHeartbeats 4000000 in
theorem wd_1135 : Cond.methodLink "EvenStepsLaw" 26 ⟨"EvenStepsModel", "even", "(III)I"⟩ ∈ en_tb := en_tbi (List.mem_of_getElem? (i := 1135) (by decide +kernel)) (by decide +kernel)
set_option maxRecDepth 100000 in
set_option maxHeartbeats 4000000 in
theorem wd_1137 : Cond.selects "EvenStepsModel" ⟨"EvenStepsModel", "even", "(III)I"⟩ ⟨"EvenStepsModel", "even", "(III)I"⟩ ∈ en_tb := en_tbi (List.mem_of_getElem? (i := 1137) (by decide +kernel)) (by decide +kernel)
set_option maxRecDepth 100000 in
set_option maxHeartbeats 4000000 in
theorem wd_1136 : Cond.instanceMethod ⟨"EvenStepsModel", "even", "(III)I"⟩ ∈ en_tb := en_tbi (List.mem_of_getElem? (i := 1136) (by decide +kernel)) (by decide +kernel)
set_option maxRecDepth 100000 in
set_option maxHeartbeats 4000000 in
theorem wd_446 : Cond.code ⟨"EvenSteps", "ring", "(II)I"⟩ prog_1_method_5_code 3 (some .int) ∈ en_tb := en_tbi (List.mem_of_getElem? (i := 446) (by decide +kernel)) (by decide +kernel)
set_option maxRecDepth 100000 in
set_option maxHeartbeats 4000000 in
theorem wd_443 : Cond.methodLink "EvenStepsLaw" 27 ⟨"EvenSteps", "ring", "(II)I"⟩ ∈ en_tb := en_tbi (List.mem_of_getElem? (i := 443) (by decide +kernel)) (by decide +kernel)
set_option maxRecDepth 100000 in
set_option maxHeartbeats 4000000 in
theorem wd_445 : Cond.selects "EvenSteps" ⟨"EvenSteps", "ring", "(II)I"⟩ ⟨"EvenSteps", "ring", "(II)I"⟩ ∈ en_tb := en_tbi (List.mem_of_getElem? (i := 445) (by decide +kernel)) (by decide +kernel)
set_option maxRecDepth 100000 in
set_option maxHeartbeats 4000000 in
theorem wd_444 : Cond.instanceMethod ⟨"EvenSteps", "ring", "(II)I"⟩ ∈ en_tb := en_tbi (List.mem_of_getElem? (i := 444) (by decide +kernel)) (by decide +kernel)
set_option maxRecDepth 100000 in
set_option maxHeartbeats 4000000 in
theorem wd_1146 : Cond.code ⟨"EvenStepsModel", "ring", "(II)I"⟩ prog_14_method_27_code 3 (some .int) ∈ en_tb := en_tbi (List.mem_of_getElem? (i := 1146) (by decide +kernel)) (by decide +kernel)
set_option maxRecDepth 100000 in
set_option maxHeartbeats 4000000 in
theorem wd_1143 : Cond.methodLink "EvenStepsLaw" 31 ⟨"EvenStepsModel", "ring", "(II)I"⟩ ∈ en_tb := en_tbi (List.mem_of_getElem? (i := 1143) (by decide +kernel)) (by decide +kernel)
set_option maxRecDepth 100000 in
set_option maxHeartbeats 4000000 in
theorem wd_1145 : Cond.selects "EvenStepsModel" ⟨"EvenStepsModel", "ring", "(II)I"⟩ ⟨"EvenStepsModel", "ring", "(II)I"⟩ ∈ en_tb := en_tbi (List.mem_of_getElem? (i := 1145) (by decide +kernel)) (by decide +kernel)
set_option maxRecDepth 100000 in
set_option maxHeartbeats 4000000 in
theorem wd_1144 : Cond.instanceMethod ⟨"EvenStepsModel", "ring", "(II)I"⟩ ∈ en_tb := en_tbi (List.mem_of_getElem? (i := 1144) (by decide +kernel)) (by decide +kernel)
set_option maxRecDepth 100000 in
set_option maxHeartbeats 4000000 in
theorem wd_466 : Cond.code ⟨"EvenSteps", "cut", "(IIIII)I"⟩ prog_1_method_6_code 7 (some .int) ∈ en_tb := en_tbi (List.mem_of_getElem? (i := 466) (by decide +kernel)) (by decide +kernel)
set_option maxRecDepth 100000 in
set_option maxHeartbeats 4000000 in
theorem wd_463 : Cond.methodLink "EvenStepsLaw" 32 ⟨"EvenSteps", "cut", "(IIIII)I"⟩ ∈ en_tb := en_tbi (List.mem_of_getElem? (i := 463) (by decide +kernel)) (by decide +kernel)
set_option maxRecDepth 100000 in
set_option maxHeartbeats 4000000 in
theorem wd_465 : Cond.selects "EvenSteps" ⟨"EvenSteps", "cut", "(IIIII)I"⟩ ⟨"EvenSteps", "cut", "(IIIII)I"⟩ ∈ en_tb := en_tbi (List.mem_of_getElem? (i := 465) (by decide +kernel)) (by decide +kernel)
set_option maxRecDepth 100000 in
set_option maxHeartbeats 4000000 in
theorem wd_464 : Cond.instanceMethod ⟨"EvenSteps", "cut", "(IIIII)I"⟩ ∈ en_tb := en_tbi (List.mem_of_getElem? (i := 464) (by decide +kernel)) (by decide +kernel)
set_option maxRecDepth 100000 in
set_option maxHeartbeats 4000000 in
theorem wd_1150 : Cond.code ⟨"EvenStepsModel", "cut", "(IIIII)I"⟩ prog_14_method_28_code 11 (some .int) ∈ en_tb := en_tbi (List.mem_of_getElem? (i := 1150) (by decide +kernel)) (by decide +kernel)
set_option maxRecDepth 100000 in
set_option maxHeartbeats 4000000 in
theorem wd_1147 : Cond.methodLink "EvenStepsLaw" 36 ⟨"EvenStepsModel", "cut", "(IIIII)I"⟩ ∈ en_tb := en_tbi (List.mem_of_getElem? (i := 1147) (by decide +kernel)) (by decide +kernel)
set_option maxRecDepth 100000 in
set_option maxHeartbeats 4000000 in
theorem wd_1149 : Cond.selects "EvenStepsModel" ⟨"EvenStepsModel", "cut", "(IIIII)I"⟩ ⟨"EvenStepsModel", "cut", "(IIIII)I"⟩ ∈ en_tb := en_tbi (List.mem_of_getElem? (i := 1149) (by decide +kernel)) (by decide +kernel)
set_option maxRecDepth 100000 in
set_option maxHeartbeats 4000000 in
theorem wd_1148 : Cond.instanceMethod ⟨"EvenStepsModel", "cut", "(IIIII)I"⟩ ∈ en_tb := en_tbi (List.mem_of_getElem? (i := 1148) (by decide +kernel)) (by decide +kernel)
set_option maxRecDepth 100000 in
set_option maxHeartbeats 4000000 in
theorem wd_513 : Cond.code ⟨"EvenSteps", "points", "(I)I"⟩ prog_1_method_7_code 3 (some .int) ∈ en_tb := en_tbi (List.mem_of_getElem? (i := 513) (by decide +kernel)) (by decide +kernel)
set_option maxRecDepth 100000 in
set_option maxHeartbeats 4000000 in
theorem wd_510 : Cond.methodLink "EvenStepsLaw" 37 ⟨"EvenSteps", "points", "(I)I"⟩ ∈ en_tb := en_tbi (List.mem_of_getElem? (i := 510) (by decide +kernel)) (by decide +kernel)
set_option maxRecDepth 100000 in
set_option maxHeartbeats 4000000 in
theorem wd_512 : Cond.selects "EvenSteps" ⟨"EvenSteps", "points", "(I)I"⟩ ⟨"EvenSteps", "points", "(I)I"⟩ ∈ en_tb := en_tbi (List.mem_of_getElem? (i := 512) (by decide +kernel)) (by decide +kernel)
set_option maxRecDepth 100000 in
set_option maxHeartbeats 4000000 in
theorem wd_511 : Cond.instanceMethod ⟨"EvenSteps", "points", "(I)I"⟩ ∈ en_tb := en_tbi (List.mem_of_getElem? (i := 511) (by decide +kernel)) (by decide +kernel)
set_option maxRecDepth 100000 in
set_option maxHeartbeats 4000000 in
theorem wd_1158 : Cond.code ⟨"EvenStepsModel", "points", "(I)I"⟩ prog_14_method_29_code 2 (some .int) ∈ en_tb := en_tbi (List.mem_of_getElem? (i := 1158) (by decide +kernel)) (by decide +kernel)
set_option maxRecDepth 100000 in
set_option maxHeartbeats 4000000 in
theorem wd_1155 : Cond.methodLink "EvenStepsLaw" 41 ⟨"EvenStepsModel", "points", "(I)I"⟩ ∈ en_tb := en_tbi (List.mem_of_getElem? (i := 1155) (by decide +kernel)) (by decide +kernel)
set_option maxRecDepth 100000 in
set_option maxHeartbeats 4000000 in
theorem wd_1157 : Cond.selects "EvenStepsModel" ⟨"EvenStepsModel", "points", "(I)I"⟩ ⟨"EvenStepsModel", "points", "(I)I"⟩ ∈ en_tb := en_tbi (List.mem_of_getElem? (i := 1157) (by decide +kernel)) (by decide +kernel)
set_option maxRecDepth 100000 in
set_option maxHeartbeats 4000000 in
theorem wd_1156 : Cond.instanceMethod ⟨"EvenStepsModel", "points", "(I)I"⟩ ∈ en_tb := en_tbi (List.mem_of_getElem? (i := 1156) (by decide +kernel)) (by decide +kernel)
set_option maxRecDepth 100000 in
set_option maxHeartbeats 4000000 in
theorem wd_530 : Cond.code ⟨"EvenSteps", "drop", "(I)I"⟩ prog_1_method_8_code 2 (some .int) ∈ en_tb := en_tbi (List.mem_of_getElem? (i := 530) (by decide +kernel)) (by decide +kernel)
set_option maxRecDepth 100000 in
set_option maxHeartbeats 4000000 in
theorem wd_527 : Cond.methodLink "EvenStepsLaw" 42 ⟨"EvenSteps", "drop", "(I)I"⟩ ∈ en_tb := en_tbi (List.mem_of_getElem? (i := 527) (by decide +kernel)) (by decide +kernel)
set_option maxRecDepth 100000 in
set_option maxHeartbeats 4000000 in
theorem wd_529 : Cond.selects "EvenSteps" ⟨"EvenSteps", "drop", "(I)I"⟩ ⟨"EvenSteps", "drop", "(I)I"⟩ ∈ en_tb := en_tbi (List.mem_of_getElem? (i := 529) (by decide +kernel)) (by decide +kernel)
set_option maxRecDepth 100000 in
set_option maxHeartbeats 4000000 in
theorem wd_528 : Cond.instanceMethod ⟨"EvenSteps", "drop", "(I)I"⟩ ∈ en_tb := en_tbi (List.mem_of_getElem? (i := 528) (by decide +kernel)) (by decide +kernel)
set_option maxRecDepth 100000 in
set_option maxHeartbeats 4000000 in
theorem wd_1162 : Cond.code ⟨"EvenStepsModel", "drop", "(I)I"⟩ prog_14_method_30_code 3 (some .int) ∈ en_tb := en_tbi (List.mem_of_getElem? (i := 1162) (by decide +kernel)) (by decide +kernel)
set_option maxRecDepth 100000 in
set_option maxHeartbeats 4000000 in
theorem wd_1159 : Cond.methodLink "EvenStepsLaw" 45 ⟨"EvenStepsModel", "drop", "(I)I"⟩ ∈ en_tb := en_tbi (List.mem_of_getElem? (i := 1159) (by decide +kernel)) (by decide +kernel)
set_option maxRecDepth 100000 in
set_option maxHeartbeats 4000000 in
theorem wd_1161 : Cond.selects "EvenStepsModel" ⟨"EvenStepsModel", "drop", "(I)I"⟩ ⟨"EvenStepsModel", "drop", "(I)I"⟩ ∈ en_tb := en_tbi (List.mem_of_getElem? (i := 1161) (by decide +kernel)) (by decide +kernel)
set_option maxRecDepth 100000 in
set_option maxHeartbeats 4000000 in
theorem wd_1160 : Cond.instanceMethod ⟨"EvenStepsModel", "drop", "(I)I"⟩ ∈ en_tb := en_tbi (List.mem_of_getElem? (i := 1160) (by decide +kernel)) (by decide +kernel)
set_option maxRecDepth 100000 in
set_option maxHeartbeats 4000000 in
theorem wd_546 : Cond.code ⟨"EvenSteps", "count", "(I)I"⟩ prog_1_method_12_code 2 (some .int) ∈ en_tb := en_tbi (List.mem_of_getElem? (i := 546) (by decide +kernel)) (by decide +kernel)
set_option maxRecDepth 100000 in
set_option maxHeartbeats 4000000 in
theorem wd_543 : Cond.methodLink "EvenStepsLaw" 46 ⟨"EvenSteps", "count", "(I)I"⟩ ∈ en_tb := en_tbi (List.mem_of_getElem? (i := 543) (by decide +kernel)) (by decide +kernel)
set_option maxRecDepth 100000 in
set_option maxHeartbeats 4000000 in
theorem wd_545 : Cond.selects "EvenSteps" ⟨"EvenSteps", "count", "(I)I"⟩ ⟨"EvenSteps", "count", "(I)I"⟩ ∈ en_tb := en_tbi (List.mem_of_getElem? (i := 545) (by decide +kernel)) (by decide +kernel)
set_option maxRecDepth 100000 in
set_option maxHeartbeats 4000000 in
theorem wd_544 : Cond.instanceMethod ⟨"EvenSteps", "count", "(I)I"⟩ ∈ en_tb := en_tbi (List.mem_of_getElem? (i := 544) (by decide +kernel)) (by decide +kernel)
set_option maxRecDepth 100000 in
set_option maxHeartbeats 4000000 in
theorem wd_1166 : Cond.code ⟨"EvenStepsModel", "count", "(I)I"⟩ prog_14_method_31_code 2 (some .int) ∈ en_tb := en_tbi (List.mem_of_getElem? (i := 1166) (by decide +kernel)) (by decide +kernel)
set_option maxRecDepth 100000 in
set_option maxHeartbeats 4000000 in
theorem wd_1163 : Cond.methodLink "EvenStepsLaw" 49 ⟨"EvenStepsModel", "count", "(I)I"⟩ ∈ en_tb := en_tbi (List.mem_of_getElem? (i := 1163) (by decide +kernel)) (by decide +kernel)
set_option maxRecDepth 100000 in
set_option maxHeartbeats 4000000 in
theorem wd_1165 : Cond.selects "EvenStepsModel" ⟨"EvenStepsModel", "count", "(I)I"⟩ ⟨"EvenStepsModel", "count", "(I)I"⟩ ∈ en_tb := en_tbi (List.mem_of_getElem? (i := 1165) (by decide +kernel)) (by decide +kernel)
set_option maxRecDepth 100000 in
set_option maxHeartbeats 4000000 in
theorem wd_1164 : Cond.instanceMethod ⟨"EvenStepsModel", "count", "(I)I"⟩ ∈ en_tb := en_tbi (List.mem_of_getElem? (i := 1164) (by decide +kernel)) (by decide +kernel)
set_option maxRecDepth 100000 in
set_option maxHeartbeats 4000000 in
theorem wd_550 : Cond.code ⟨"EvenSteps", "whole", "(II)I"⟩ prog_1_method_13_code 4 (some .int) ∈ en_tb := en_tbi (List.mem_of_getElem? (i := 550) (by decide +kernel)) (by decide +kernel)
set_option maxRecDepth 100000 in
set_option maxHeartbeats 4000000 in
theorem wd_547 : Cond.methodLink "EvenStepsLaw" 50 ⟨"EvenSteps", "whole", "(II)I"⟩ ∈ en_tb := en_tbi (List.mem_of_getElem? (i := 547) (by decide +kernel)) (by decide +kernel)
set_option maxRecDepth 100000 in
set_option maxHeartbeats 4000000 in
theorem wd_549 : Cond.selects "EvenSteps" ⟨"EvenSteps", "whole", "(II)I"⟩ ⟨"EvenSteps", "whole", "(II)I"⟩ ∈ en_tb := en_tbi (List.mem_of_getElem? (i := 549) (by decide +kernel)) (by decide +kernel)
set_option maxRecDepth 100000 in
set_option maxHeartbeats 4000000 in
theorem wd_548 : Cond.instanceMethod ⟨"EvenSteps", "whole", "(II)I"⟩ ∈ en_tb := en_tbi (List.mem_of_getElem? (i := 548) (by decide +kernel)) (by decide +kernel)
set_option maxRecDepth 100000 in
set_option maxHeartbeats 4000000 in
theorem wd_1071 : Cond.code ⟨"EvenStepsModel", "whole", "(II)I"⟩ prog_14_method_11_code 3 (some .int) ∈ en_tb := en_tbi (List.mem_of_getElem? (i := 1071) (by decide +kernel)) (by decide +kernel)
set_option maxRecDepth 100000 in
set_option maxHeartbeats 4000000 in
theorem wd_1068 : Cond.methodLink "EvenStepsLaw" 53 ⟨"EvenStepsModel", "whole", "(II)I"⟩ ∈ en_tb := en_tbi (List.mem_of_getElem? (i := 1068) (by decide +kernel)) (by decide +kernel)
set_option maxRecDepth 100000 in
set_option maxHeartbeats 4000000 in
theorem wd_1070 : Cond.selects "EvenStepsModel" ⟨"EvenStepsModel", "whole", "(II)I"⟩ ⟨"EvenStepsModel", "whole", "(II)I"⟩ ∈ en_tb := en_tbi (List.mem_of_getElem? (i := 1070) (by decide +kernel)) (by decide +kernel)
set_option maxRecDepth 100000 in
set_option maxHeartbeats 4000000 in
theorem wd_1069 : Cond.instanceMethod ⟨"EvenStepsModel", "whole", "(II)I"⟩ ∈ en_tb := en_tbi (List.mem_of_getElem? (i := 1069) (by decide +kernel)) (by decide +kernel)
set_option maxRecDepth 100000 in
set_option maxHeartbeats 4000000 in
theorem wd_556 : Cond.code ⟨"EvenSteps", "against", "(III)I"⟩ prog_1_method_14_code 5 (some .int) ∈ en_tb := en_tbi (List.mem_of_getElem? (i := 556) (by decide +kernel)) (by decide +kernel)
set_option maxRecDepth 100000 in
set_option maxHeartbeats 4000000 in
theorem wd_553 : Cond.methodLink "EvenStepsLaw" 54 ⟨"EvenSteps", "against", "(III)I"⟩ ∈ en_tb := en_tbi (List.mem_of_getElem? (i := 553) (by decide +kernel)) (by decide +kernel)
set_option maxRecDepth 100000 in
set_option maxHeartbeats 4000000 in
theorem wd_555 : Cond.selects "EvenSteps" ⟨"EvenSteps", "against", "(III)I"⟩ ⟨"EvenSteps", "against", "(III)I"⟩ ∈ en_tb := en_tbi (List.mem_of_getElem? (i := 555) (by decide +kernel)) (by decide +kernel)
set_option maxRecDepth 100000 in
set_option maxHeartbeats 4000000 in
theorem wd_554 : Cond.instanceMethod ⟨"EvenSteps", "against", "(III)I"⟩ ∈ en_tb := en_tbi (List.mem_of_getElem? (i := 554) (by decide +kernel)) (by decide +kernel)
set_option maxRecDepth 100000 in
set_option maxHeartbeats 4000000 in
theorem wd_1088 : Cond.code ⟨"EvenStepsModel", "against", "(III)I"⟩ prog_14_method_12_code 4 (some .int) ∈ en_tb := en_tbi (List.mem_of_getElem? (i := 1088) (by decide +kernel)) (by decide +kernel)
set_option maxRecDepth 100000 in
set_option maxHeartbeats 4000000 in
theorem wd_1085 : Cond.methodLink "EvenStepsLaw" 57 ⟨"EvenStepsModel", "against", "(III)I"⟩ ∈ en_tb := en_tbi (List.mem_of_getElem? (i := 1085) (by decide +kernel)) (by decide +kernel)
set_option maxRecDepth 100000 in
set_option maxHeartbeats 4000000 in
theorem wd_1087 : Cond.selects "EvenStepsModel" ⟨"EvenStepsModel", "against", "(III)I"⟩ ⟨"EvenStepsModel", "against", "(III)I"⟩ ∈ en_tb := en_tbi (List.mem_of_getElem? (i := 1087) (by decide +kernel)) (by decide +kernel)
set_option maxRecDepth 100000 in
set_option maxHeartbeats 4000000 in
theorem wd_1086 : Cond.instanceMethod ⟨"EvenStepsModel", "against", "(III)I"⟩ ∈ en_tb := en_tbi (List.mem_of_getElem? (i := 1086) (by decide +kernel)) (by decide +kernel)
set_option maxRecDepth 100000 in
set_option maxHeartbeats 4000000 in
theorem wd_567 : Cond.code ⟨"EvenSteps", "quotient", "(II)I"⟩ prog_1_method_15_code 4 (some .int) ∈ en_tb := en_tbi (List.mem_of_getElem? (i := 567) (by decide +kernel)) (by decide +kernel)
set_option maxRecDepth 100000 in
set_option maxHeartbeats 4000000 in
theorem wd_564 : Cond.methodLink "EvenStepsLaw" 58 ⟨"EvenSteps", "quotient", "(II)I"⟩ ∈ en_tb := en_tbi (List.mem_of_getElem? (i := 564) (by decide +kernel)) (by decide +kernel)
set_option maxRecDepth 100000 in
set_option maxHeartbeats 4000000 in
theorem wd_566 : Cond.selects "EvenSteps" ⟨"EvenSteps", "quotient", "(II)I"⟩ ⟨"EvenSteps", "quotient", "(II)I"⟩ ∈ en_tb := en_tbi (List.mem_of_getElem? (i := 566) (by decide +kernel)) (by decide +kernel)
set_option maxRecDepth 100000 in
set_option maxHeartbeats 4000000 in
theorem wd_565 : Cond.instanceMethod ⟨"EvenSteps", "quotient", "(II)I"⟩ ∈ en_tb := en_tbi (List.mem_of_getElem? (i := 565) (by decide +kernel)) (by decide +kernel)
set_option maxRecDepth 100000 in
set_option maxHeartbeats 4000000 in
theorem wd_1094 : Cond.code ⟨"EvenStepsModel", "quotient", "(II)I"⟩ prog_14_method_16_code 3 (some .int) ∈ en_tb := en_tbi (List.mem_of_getElem? (i := 1094) (by decide +kernel)) (by decide +kernel)
set_option maxRecDepth 100000 in
set_option maxHeartbeats 4000000 in
theorem wd_1091 : Cond.methodLink "EvenStepsLaw" 61 ⟨"EvenStepsModel", "quotient", "(II)I"⟩ ∈ en_tb := en_tbi (List.mem_of_getElem? (i := 1091) (by decide +kernel)) (by decide +kernel)
set_option maxRecDepth 100000 in
set_option maxHeartbeats 4000000 in
theorem wd_1093 : Cond.selects "EvenStepsModel" ⟨"EvenStepsModel", "quotient", "(II)I"⟩ ⟨"EvenStepsModel", "quotient", "(II)I"⟩ ∈ en_tb := en_tbi (List.mem_of_getElem? (i := 1093) (by decide +kernel)) (by decide +kernel)
set_option maxRecDepth 100000 in
set_option maxHeartbeats 4000000 in
theorem wd_1092 : Cond.instanceMethod ⟨"EvenStepsModel", "quotient", "(II)I"⟩ ∈ en_tb := en_tbi (List.mem_of_getElem? (i := 1092) (by decide +kernel)) (by decide +kernel)
set_option maxRecDepth 100000 in
set_option maxHeartbeats 4000000 in
theorem wd_571 : Cond.code ⟨"EvenSteps", "nearer", "(II)I"⟩ prog_1_method_16_code 4 (some .int) ∈ en_tb := en_tbi (List.mem_of_getElem? (i := 571) (by decide +kernel)) (by decide +kernel)
set_option maxRecDepth 100000 in
set_option maxHeartbeats 4000000 in
theorem wd_568 : Cond.methodLink "EvenStepsLaw" 62 ⟨"EvenSteps", "nearer", "(II)I"⟩ ∈ en_tb := en_tbi (List.mem_of_getElem? (i := 568) (by decide +kernel)) (by decide +kernel)
set_option maxRecDepth 100000 in
set_option maxHeartbeats 4000000 in
theorem wd_570 : Cond.selects "EvenSteps" ⟨"EvenSteps", "nearer", "(II)I"⟩ ⟨"EvenSteps", "nearer", "(II)I"⟩ ∈ en_tb := en_tbi (List.mem_of_getElem? (i := 570) (by decide +kernel)) (by decide +kernel)
set_option maxRecDepth 100000 in
set_option maxHeartbeats 4000000 in
theorem wd_569 : Cond.instanceMethod ⟨"EvenSteps", "nearer", "(II)I"⟩ ∈ en_tb := en_tbi (List.mem_of_getElem? (i := 569) (by decide +kernel)) (by decide +kernel)
set_option maxRecDepth 100000 in
set_option maxHeartbeats 4000000 in
theorem wd_1122 : Cond.code ⟨"EvenStepsModel", "nearer", "(II)I"⟩ prog_14_method_21_code 3 (some .int) ∈ en_tb := en_tbi (List.mem_of_getElem? (i := 1122) (by decide +kernel)) (by decide +kernel)
set_option maxRecDepth 100000 in
set_option maxHeartbeats 4000000 in
theorem wd_1119 : Cond.methodLink "EvenStepsLaw" 65 ⟨"EvenStepsModel", "nearer", "(II)I"⟩ ∈ en_tb := en_tbi (List.mem_of_getElem? (i := 1119) (by decide +kernel)) (by decide +kernel)
set_option maxRecDepth 100000 in
set_option maxHeartbeats 4000000 in
theorem wd_1121 : Cond.selects "EvenStepsModel" ⟨"EvenStepsModel", "nearer", "(II)I"⟩ ⟨"EvenStepsModel", "nearer", "(II)I"⟩ ∈ en_tb := en_tbi (List.mem_of_getElem? (i := 1121) (by decide +kernel)) (by decide +kernel)
set_option maxRecDepth 100000 in
set_option maxHeartbeats 4000000 in
theorem wd_1120 : Cond.instanceMethod ⟨"EvenStepsModel", "nearer", "(II)I"⟩ ∈ en_tb := en_tbi (List.mem_of_getElem? (i := 1120) (by decide +kernel)) (by decide +kernel)
set_option maxRecDepth 100000 in
set_option maxHeartbeats 4000000 in
theorem wd_578 : Cond.code ⟨"EvenSteps", "within", "(IIII)I"⟩ prog_1_method_17_code 9 (some .int) ∈ en_tb := en_tbi (List.mem_of_getElem? (i := 578) (by decide +kernel)) (by decide +kernel)
set_option maxRecDepth 100000 in
set_option maxHeartbeats 4000000 in
theorem wd_575 : Cond.methodLink "EvenStepsLaw" 66 ⟨"EvenSteps", "within", "(IIII)I"⟩ ∈ en_tb := en_tbi (List.mem_of_getElem? (i := 575) (by decide +kernel)) (by decide +kernel)
set_option maxRecDepth 100000 in
set_option maxHeartbeats 4000000 in
theorem wd_577 : Cond.selects "EvenSteps" ⟨"EvenSteps", "within", "(IIII)I"⟩ ⟨"EvenSteps", "within", "(IIII)I"⟩ ∈ en_tb := en_tbi (List.mem_of_getElem? (i := 577) (by decide +kernel)) (by decide +kernel)
set_option maxRecDepth 100000 in
set_option maxHeartbeats 4000000 in
theorem wd_576 : Cond.instanceMethod ⟨"EvenSteps", "within", "(IIII)I"⟩ ∈ en_tb := en_tbi (List.mem_of_getElem? (i := 576) (by decide +kernel)) (by decide +kernel)
set_option maxRecDepth 100000 in
set_option maxHeartbeats 4000000 in
theorem wd_1130 : Cond.code ⟨"EvenStepsModel", "within", "(IIII)I"⟩ prog_14_method_22_code 8 (some .int) ∈ en_tb := en_tbi (List.mem_of_getElem? (i := 1130) (by decide +kernel)) (by decide +kernel)
set_option maxRecDepth 100000 in
set_option maxHeartbeats 4000000 in
theorem wd_1127 : Cond.methodLink "EvenStepsLaw" 69 ⟨"EvenStepsModel", "within", "(IIII)I"⟩ ∈ en_tb := en_tbi (List.mem_of_getElem? (i := 1127) (by decide +kernel)) (by decide +kernel)
set_option maxRecDepth 100000 in
set_option maxHeartbeats 4000000 in
theorem wd_1129 : Cond.selects "EvenStepsModel" ⟨"EvenStepsModel", "within", "(IIII)I"⟩ ⟨"EvenStepsModel", "within", "(IIII)I"⟩ ∈ en_tb := en_tbi (List.mem_of_getElem? (i := 1129) (by decide +kernel)) (by decide +kernel)
set_option maxRecDepth 100000 in
set_option maxHeartbeats 4000000 in
theorem wd_1128 : Cond.instanceMethod ⟨"EvenStepsModel", "within", "(IIII)I"⟩ ∈ en_tb := en_tbi (List.mem_of_getElem? (i := 1128) (by decide +kernel)) (by decide +kernel)
set_option maxRecDepth 100000 in
set_option maxHeartbeats 4000000 in
theorem wd_585 : Cond.code ⟨"EvenSteps", "digit", "(III)I"⟩ prog_1_method_18_code 7 (some .int) ∈ en_tb := en_tbi (List.mem_of_getElem? (i := 585) (by decide +kernel)) (by decide +kernel)
set_option maxRecDepth 100000 in
set_option maxHeartbeats 4000000 in
theorem wd_582 : Cond.methodLink "EvenStepsLaw" 70 ⟨"EvenSteps", "digit", "(III)I"⟩ ∈ en_tb := en_tbi (List.mem_of_getElem? (i := 582) (by decide +kernel)) (by decide +kernel)
set_option maxRecDepth 100000 in
set_option maxHeartbeats 4000000 in
theorem wd_584 : Cond.selects "EvenSteps" ⟨"EvenSteps", "digit", "(III)I"⟩ ⟨"EvenSteps", "digit", "(III)I"⟩ ∈ en_tb := en_tbi (List.mem_of_getElem? (i := 584) (by decide +kernel)) (by decide +kernel)
set_option maxRecDepth 100000 in
set_option maxHeartbeats 4000000 in
theorem wd_583 : Cond.instanceMethod ⟨"EvenSteps", "digit", "(III)I"⟩ ∈ en_tb := en_tbi (List.mem_of_getElem? (i := 583) (by decide +kernel)) (by decide +kernel)
set_option maxRecDepth 100000 in
set_option maxHeartbeats 4000000 in
theorem wd_1118 : Cond.code ⟨"EvenStepsModel", "digit", "(III)I"⟩ prog_14_method_19_code 7 (some .int) ∈ en_tb := en_tbi (List.mem_of_getElem? (i := 1118) (by decide +kernel)) (by decide +kernel)
set_option maxRecDepth 100000 in
set_option maxHeartbeats 4000000 in
theorem wd_1115 : Cond.methodLink "EvenStepsLaw" 73 ⟨"EvenStepsModel", "digit", "(III)I"⟩ ∈ en_tb := en_tbi (List.mem_of_getElem? (i := 1115) (by decide +kernel)) (by decide +kernel)
set_option maxRecDepth 100000 in
set_option maxHeartbeats 4000000 in
theorem wd_1117 : Cond.selects "EvenStepsModel" ⟨"EvenStepsModel", "digit", "(III)I"⟩ ⟨"EvenStepsModel", "digit", "(III)I"⟩ ∈ en_tb := en_tbi (List.mem_of_getElem? (i := 1117) (by decide +kernel)) (by decide +kernel)
set_option maxRecDepth 100000 in
set_option maxHeartbeats 4000000 in
theorem wd_1116 : Cond.instanceMethod ⟨"EvenStepsModel", "digit", "(III)I"⟩ ∈ en_tb := en_tbi (List.mem_of_getElem? (i := 1116) (by decide +kernel)) (by decide +kernel)
set_option maxRecDepth 100000 in
set_option maxHeartbeats 4000000 in
theorem wd_595 : Cond.code ⟨"EvenSteps", "line", "(II)I"⟩ prog_1_method_19_code 3 (some .int) ∈ en_tb := en_tbi (List.mem_of_getElem? (i := 595) (by decide +kernel)) (by decide +kernel)
set_option maxRecDepth 100000 in
set_option maxHeartbeats 4000000 in
theorem wd_592 : Cond.methodLink "EvenStepsLaw" 74 ⟨"EvenSteps", "line", "(II)I"⟩ ∈ en_tb := en_tbi (List.mem_of_getElem? (i := 592) (by decide +kernel)) (by decide +kernel)
set_option maxRecDepth 100000 in
set_option maxHeartbeats 4000000 in
theorem wd_594 : Cond.selects "EvenSteps" ⟨"EvenSteps", "line", "(II)I"⟩ ⟨"EvenSteps", "line", "(II)I"⟩ ∈ en_tb := en_tbi (List.mem_of_getElem? (i := 594) (by decide +kernel)) (by decide +kernel)
set_option maxRecDepth 100000 in
set_option maxHeartbeats 4000000 in
theorem wd_593 : Cond.instanceMethod ⟨"EvenSteps", "line", "(II)I"⟩ ∈ en_tb := en_tbi (List.mem_of_getElem? (i := 593) (by decide +kernel)) (by decide +kernel)
set_option maxRecDepth 100000 in
set_option maxHeartbeats 4000000 in
theorem wd_1109 : Cond.code ⟨"EvenStepsModel", "line", "(II)I"⟩ prog_14_method_18_code 3 (some .int) ∈ en_tb := en_tbi (List.mem_of_getElem? (i := 1109) (by decide +kernel)) (by decide +kernel)
set_option maxRecDepth 100000 in
set_option maxHeartbeats 4000000 in
theorem wd_1106 : Cond.methodLink "EvenStepsLaw" 77 ⟨"EvenStepsModel", "line", "(II)I"⟩ ∈ en_tb := en_tbi (List.mem_of_getElem? (i := 1106) (by decide +kernel)) (by decide +kernel)
set_option maxRecDepth 100000 in
set_option maxHeartbeats 4000000 in
theorem wd_1108 : Cond.selects "EvenStepsModel" ⟨"EvenStepsModel", "line", "(II)I"⟩ ⟨"EvenStepsModel", "line", "(II)I"⟩ ∈ en_tb := en_tbi (List.mem_of_getElem? (i := 1108) (by decide +kernel)) (by decide +kernel)
set_option maxRecDepth 100000 in
set_option maxHeartbeats 4000000 in
theorem wd_1107 : Cond.instanceMethod ⟨"EvenStepsModel", "line", "(II)I"⟩ ∈ en_tb := en_tbi (List.mem_of_getElem? (i := 1107) (by decide +kernel)) (by decide +kernel)
set_option maxRecDepth 100000 in
set_option maxHeartbeats 4000000 in
theorem wd_614 : Cond.code ⟨"EvenSteps", "kind", "(I)I"⟩ prog_1_method_24_code 3 (some .int) ∈ en_tb := en_tbi (List.mem_of_getElem? (i := 614) (by decide +kernel)) (by decide +kernel)
set_option maxRecDepth 100000 in
set_option maxHeartbeats 4000000 in
theorem wd_611 : Cond.methodLink "EvenStepsLaw" 78 ⟨"EvenSteps", "kind", "(I)I"⟩ ∈ en_tb := en_tbi (List.mem_of_getElem? (i := 611) (by decide +kernel)) (by decide +kernel)
set_option maxRecDepth 100000 in
set_option maxHeartbeats 4000000 in
theorem wd_613 : Cond.selects "EvenSteps" ⟨"EvenSteps", "kind", "(I)I"⟩ ⟨"EvenSteps", "kind", "(I)I"⟩ ∈ en_tb := en_tbi (List.mem_of_getElem? (i := 613) (by decide +kernel)) (by decide +kernel)
set_option maxRecDepth 100000 in
set_option maxHeartbeats 4000000 in
theorem wd_612 : Cond.instanceMethod ⟨"EvenSteps", "kind", "(I)I"⟩ ∈ en_tb := en_tbi (List.mem_of_getElem? (i := 612) (by decide +kernel)) (by decide +kernel)
set_option maxRecDepth 100000 in
set_option maxHeartbeats 4000000 in
theorem wd_1170 : Cond.code ⟨"EvenStepsModel", "kind", "(I)I"⟩ prog_14_method_32_code 2 (some .int) ∈ en_tb := en_tbi (List.mem_of_getElem? (i := 1170) (by decide +kernel)) (by decide +kernel)
set_option maxRecDepth 100000 in
set_option maxHeartbeats 4000000 in
theorem wd_1167 : Cond.methodLink "EvenStepsLaw" 81 ⟨"EvenStepsModel", "kind", "(I)I"⟩ ∈ en_tb := en_tbi (List.mem_of_getElem? (i := 1167) (by decide +kernel)) (by decide +kernel)
set_option maxRecDepth 100000 in
set_option maxHeartbeats 4000000 in
theorem wd_1169 : Cond.selects "EvenStepsModel" ⟨"EvenStepsModel", "kind", "(I)I"⟩ ⟨"EvenStepsModel", "kind", "(I)I"⟩ ∈ en_tb := en_tbi (List.mem_of_getElem? (i := 1169) (by decide +kernel)) (by decide +kernel)
set_option maxRecDepth 100000 in
set_option maxHeartbeats 4000000 in
theorem wd_1168 : Cond.instanceMethod ⟨"EvenStepsModel", "kind", "(I)I"⟩ ∈ en_tb := en_tbi (List.mem_of_getElem? (i := 1168) (by decide +kernel)) (by decide +kernel)
set_option maxRecDepth 100000 in
set_option maxHeartbeats 4000000 in
theorem wd_636 : Cond.code ⟨"EvenSteps", "step", "(II)I"⟩ prog_1_method_25_code 4 (some .int) ∈ en_tb := en_tbi (List.mem_of_getElem? (i := 636) (by decide +kernel)) (by decide +kernel)
set_option maxRecDepth 100000 in
set_option maxHeartbeats 4000000 in
theorem wd_633 : Cond.methodLink "EvenStepsLaw" 82 ⟨"EvenSteps", "step", "(II)I"⟩ ∈ en_tb := en_tbi (List.mem_of_getElem? (i := 633) (by decide +kernel)) (by decide +kernel)
set_option maxRecDepth 100000 in
set_option maxHeartbeats 4000000 in
theorem wd_635 : Cond.selects "EvenSteps" ⟨"EvenSteps", "step", "(II)I"⟩ ⟨"EvenSteps", "step", "(II)I"⟩ ∈ en_tb := en_tbi (List.mem_of_getElem? (i := 635) (by decide +kernel)) (by decide +kernel)
set_option maxRecDepth 100000 in
set_option maxHeartbeats 4000000 in
theorem wd_634 : Cond.instanceMethod ⟨"EvenSteps", "step", "(II)I"⟩ ∈ en_tb := en_tbi (List.mem_of_getElem? (i := 634) (by decide +kernel)) (by decide +kernel)
set_option maxRecDepth 100000 in
set_option maxHeartbeats 4000000 in
theorem wd_1174 : Cond.code ⟨"EvenStepsModel", "step", "(II)I"⟩ prog_14_method_33_code 3 (some .int) ∈ en_tb := en_tbi (List.mem_of_getElem? (i := 1174) (by decide +kernel)) (by decide +kernel)
set_option maxRecDepth 100000 in
set_option maxHeartbeats 4000000 in
theorem wd_1171 : Cond.methodLink "EvenStepsLaw" 85 ⟨"EvenStepsModel", "step", "(II)I"⟩ ∈ en_tb := en_tbi (List.mem_of_getElem? (i := 1171) (by decide +kernel)) (by decide +kernel)
set_option maxRecDepth 100000 in
set_option maxHeartbeats 4000000 in
theorem wd_1173 : Cond.selects "EvenStepsModel" ⟨"EvenStepsModel", "step", "(II)I"⟩ ⟨"EvenStepsModel", "step", "(II)I"⟩ ∈ en_tb := en_tbi (List.mem_of_getElem? (i := 1173) (by decide +kernel)) (by decide +kernel)
set_option maxRecDepth 100000 in
set_option maxHeartbeats 4000000 in
theorem wd_1172 : Cond.instanceMethod ⟨"EvenStepsModel", "step", "(II)I"⟩ ∈ en_tb := en_tbi (List.mem_of_getElem? (i := 1172) (by decide +kernel)) (by decide +kernel)
set_option maxRecDepth 100000 in
set_option maxHeartbeats 4000000 in
theorem wd_640 : Cond.code ⟨"EvenSteps", "sum", "(II)I"⟩ prog_1_method_26_code 4 (some .int) ∈ en_tb := en_tbi (List.mem_of_getElem? (i := 640) (by decide +kernel)) (by decide +kernel)
set_option maxRecDepth 100000 in
set_option maxHeartbeats 4000000 in
theorem wd_637 : Cond.methodLink "EvenStepsLaw" 86 ⟨"EvenSteps", "sum", "(II)I"⟩ ∈ en_tb := en_tbi (List.mem_of_getElem? (i := 637) (by decide +kernel)) (by decide +kernel)
set_option maxRecDepth 100000 in
set_option maxHeartbeats 4000000 in
theorem wd_639 : Cond.selects "EvenSteps" ⟨"EvenSteps", "sum", "(II)I"⟩ ⟨"EvenSteps", "sum", "(II)I"⟩ ∈ en_tb := en_tbi (List.mem_of_getElem? (i := 639) (by decide +kernel)) (by decide +kernel)
set_option maxRecDepth 100000 in
set_option maxHeartbeats 4000000 in
theorem wd_638 : Cond.instanceMethod ⟨"EvenSteps", "sum", "(II)I"⟩ ∈ en_tb := en_tbi (List.mem_of_getElem? (i := 638) (by decide +kernel)) (by decide +kernel)
set_option maxRecDepth 100000 in
set_option maxHeartbeats 4000000 in
theorem wd_1178 : Cond.code ⟨"EvenStepsModel", "sum", "(II)I"⟩ prog_14_method_34_code 5 (some .int) ∈ en_tb := en_tbi (List.mem_of_getElem? (i := 1178) (by decide +kernel)) (by decide +kernel)
set_option maxRecDepth 100000 in
set_option maxHeartbeats 4000000 in
theorem wd_1175 : Cond.methodLink "EvenStepsLaw" 89 ⟨"EvenStepsModel", "sum", "(II)I"⟩ ∈ en_tb := en_tbi (List.mem_of_getElem? (i := 1175) (by decide +kernel)) (by decide +kernel)
set_option maxRecDepth 100000 in
set_option maxHeartbeats 4000000 in
theorem wd_1177 : Cond.selects "EvenStepsModel" ⟨"EvenStepsModel", "sum", "(II)I"⟩ ⟨"EvenStepsModel", "sum", "(II)I"⟩ ∈ en_tb := en_tbi (List.mem_of_getElem? (i := 1177) (by decide +kernel)) (by decide +kernel)
set_option maxRecDepth 100000 in
set_option maxHeartbeats 4000000 in
theorem wd_1176 : Cond.instanceMethod ⟨"EvenStepsModel", "sum", "(II)I"⟩ ∈ en_tb := en_tbi (List.mem_of_getElem? (i := 1176) (by decide +kernel)) (by decide +kernel)
set_option maxRecDepth 100000 in
set_option maxHeartbeats 4000000 in
theorem wd_664 : Cond.code ⟨"EvenSteps", "isEven", "(III)I"⟩ prog_1_method_27_code 4 (some .int) ∈ en_tb := en_tbi (List.mem_of_getElem? (i := 664) (by decide +kernel)) (by decide +kernel)
set_option maxRecDepth 100000 in
set_option maxHeartbeats 4000000 in
theorem wd_661 : Cond.methodLink "EvenStepsLaw" 90 ⟨"EvenSteps", "isEven", "(III)I"⟩ ∈ en_tb := en_tbi (List.mem_of_getElem? (i := 661) (by decide +kernel)) (by decide +kernel)
set_option maxRecDepth 100000 in
set_option maxHeartbeats 4000000 in
theorem wd_663 : Cond.selects "EvenSteps" ⟨"EvenSteps", "isEven", "(III)I"⟩ ⟨"EvenSteps", "isEven", "(III)I"⟩ ∈ en_tb := en_tbi (List.mem_of_getElem? (i := 663) (by decide +kernel)) (by decide +kernel)
set_option maxRecDepth 100000 in
set_option maxHeartbeats 4000000 in
theorem wd_662 : Cond.instanceMethod ⟨"EvenSteps", "isEven", "(III)I"⟩ ∈ en_tb := en_tbi (List.mem_of_getElem? (i := 662) (by decide +kernel)) (by decide +kernel)
set_option maxRecDepth 100000 in
set_option maxHeartbeats 4000000 in
theorem wd_1182 : Cond.code ⟨"EvenStepsModel", "isEven", "(III)I"⟩ prog_14_method_38_code 4 (some .int) ∈ en_tb := en_tbi (List.mem_of_getElem? (i := 1182) (by decide +kernel)) (by decide +kernel)
set_option maxRecDepth 100000 in
set_option maxHeartbeats 4000000 in
theorem wd_1179 : Cond.methodLink "EvenStepsLaw" 93 ⟨"EvenStepsModel", "isEven", "(III)I"⟩ ∈ en_tb := en_tbi (List.mem_of_getElem? (i := 1179) (by decide +kernel)) (by decide +kernel)
set_option maxRecDepth 100000 in
set_option maxHeartbeats 4000000 in
theorem wd_1181 : Cond.selects "EvenStepsModel" ⟨"EvenStepsModel", "isEven", "(III)I"⟩ ⟨"EvenStepsModel", "isEven", "(III)I"⟩ ∈ en_tb := en_tbi (List.mem_of_getElem? (i := 1181) (by decide +kernel)) (by decide +kernel)
set_option maxRecDepth 100000 in
set_option maxHeartbeats 4000000 in
theorem wd_1180 : Cond.instanceMethod ⟨"EvenStepsModel", "isEven", "(III)I"⟩ ∈ en_tb := en_tbi (List.mem_of_getElem? (i := 1180) (by decide +kernel)) (by decide +kernel)
set_option maxRecDepth 100000 in
set_option maxHeartbeats 4000000 in
theorem wd_696 : Cond.code ⟨"EvenSteps", "clash", "(IIII)I"⟩ prog_1_method_28_code 5 (some .int) ∈ en_tb := en_tbi (List.mem_of_getElem? (i := 696) (by decide +kernel)) (by decide +kernel)
set_option maxRecDepth 100000 in
set_option maxHeartbeats 4000000 in
theorem wd_693 : Cond.methodLink "EvenStepsLaw" 94 ⟨"EvenSteps", "clash", "(IIII)I"⟩ ∈ en_tb := en_tbi (List.mem_of_getElem? (i := 693) (by decide +kernel)) (by decide +kernel)
set_option maxRecDepth 100000 in
set_option maxHeartbeats 4000000 in
theorem wd_695 : Cond.selects "EvenSteps" ⟨"EvenSteps", "clash", "(IIII)I"⟩ ⟨"EvenSteps", "clash", "(IIII)I"⟩ ∈ en_tb := en_tbi (List.mem_of_getElem? (i := 695) (by decide +kernel)) (by decide +kernel)
set_option maxRecDepth 100000 in
set_option maxHeartbeats 4000000 in
theorem wd_694 : Cond.instanceMethod ⟨"EvenSteps", "clash", "(IIII)I"⟩ ∈ en_tb := en_tbi (List.mem_of_getElem? (i := 694) (by decide +kernel)) (by decide +kernel)
set_option maxRecDepth 100000 in
set_option maxHeartbeats 4000000 in
theorem wd_1198 : Cond.code ⟨"EvenStepsModel", "clash", "(IIII)I"⟩ prog_14_method_39_code 6 (some .int) ∈ en_tb := en_tbi (List.mem_of_getElem? (i := 1198) (by decide +kernel)) (by decide +kernel)
set_option maxRecDepth 100000 in
set_option maxHeartbeats 4000000 in
theorem wd_1195 : Cond.methodLink "EvenStepsLaw" 97 ⟨"EvenStepsModel", "clash", "(IIII)I"⟩ ∈ en_tb := en_tbi (List.mem_of_getElem? (i := 1195) (by decide +kernel)) (by decide +kernel)
set_option maxRecDepth 100000 in
set_option maxHeartbeats 4000000 in
theorem wd_1197 : Cond.selects "EvenStepsModel" ⟨"EvenStepsModel", "clash", "(IIII)I"⟩ ⟨"EvenStepsModel", "clash", "(IIII)I"⟩ ∈ en_tb := en_tbi (List.mem_of_getElem? (i := 1197) (by decide +kernel)) (by decide +kernel)
set_option maxRecDepth 100000 in
set_option maxHeartbeats 4000000 in
theorem wd_1196 : Cond.instanceMethod ⟨"EvenStepsModel", "clash", "(IIII)I"⟩ ∈ en_tb := en_tbi (List.mem_of_getElem? (i := 1196) (by decide +kernel)) (by decide +kernel)
set_option maxRecDepth 100000 in
set_option maxHeartbeats 4000000 in
theorem wd_700 : Cond.code ⟨"EvenSteps", "range", "(IIII)I"⟩ prog_1_method_29_code 9 (some .int) ∈ en_tb := en_tbi (List.mem_of_getElem? (i := 700) (by decide +kernel)) (by decide +kernel)
set_option maxRecDepth 100000 in
set_option maxHeartbeats 4000000 in
theorem wd_697 : Cond.methodLink "EvenStepsLaw" 98 ⟨"EvenSteps", "range", "(IIII)I"⟩ ∈ en_tb := en_tbi (List.mem_of_getElem? (i := 697) (by decide +kernel)) (by decide +kernel)
set_option maxRecDepth 100000 in
set_option maxHeartbeats 4000000 in
theorem wd_699 : Cond.selects "EvenSteps" ⟨"EvenSteps", "range", "(IIII)I"⟩ ⟨"EvenSteps", "range", "(IIII)I"⟩ ∈ en_tb := en_tbi (List.mem_of_getElem? (i := 699) (by decide +kernel)) (by decide +kernel)
set_option maxRecDepth 100000 in
set_option maxHeartbeats 4000000 in
theorem wd_698 : Cond.instanceMethod ⟨"EvenSteps", "range", "(IIII)I"⟩ ∈ en_tb := en_tbi (List.mem_of_getElem? (i := 698) (by decide +kernel)) (by decide +kernel)
set_option maxRecDepth 100000 in
set_option maxHeartbeats 4000000 in
theorem wd_1202 : Cond.code ⟨"EvenStepsModel", "range", "(IIII)I"⟩ prog_14_method_40_code 13 (some .int) ∈ en_tb := en_tbi (List.mem_of_getElem? (i := 1202) (by decide +kernel)) (by decide +kernel)
set_option maxRecDepth 100000 in
set_option maxHeartbeats 4000000 in
theorem wd_1199 : Cond.methodLink "EvenStepsLaw" 101 ⟨"EvenStepsModel", "range", "(IIII)I"⟩ ∈ en_tb := en_tbi (List.mem_of_getElem? (i := 1199) (by decide +kernel)) (by decide +kernel)
set_option maxRecDepth 100000 in
set_option maxHeartbeats 4000000 in
theorem wd_1201 : Cond.selects "EvenStepsModel" ⟨"EvenStepsModel", "range", "(IIII)I"⟩ ⟨"EvenStepsModel", "range", "(IIII)I"⟩ ∈ en_tb := en_tbi (List.mem_of_getElem? (i := 1201) (by decide +kernel)) (by decide +kernel)
set_option maxRecDepth 100000 in
set_option maxHeartbeats 4000000 in
theorem wd_1200 : Cond.instanceMethod ⟨"EvenStepsModel", "range", "(IIII)I"⟩ ∈ en_tb := en_tbi (List.mem_of_getElem? (i := 1200) (by decide +kernel)) (by decide +kernel)
set_option maxRecDepth 100000 in
set_option maxHeartbeats 4000000 in
theorem wd_709 : Cond.code ⟨"EvenSteps", "parts", "(III)I"⟩ prog_1_method_30_code 8 (some .int) ∈ en_tb := en_tbi (List.mem_of_getElem? (i := 709) (by decide +kernel)) (by decide +kernel)
set_option maxRecDepth 100000 in
set_option maxHeartbeats 4000000 in
theorem wd_706 : Cond.methodLink "EvenStepsLaw" 102 ⟨"EvenSteps", "parts", "(III)I"⟩ ∈ en_tb := en_tbi (List.mem_of_getElem? (i := 706) (by decide +kernel)) (by decide +kernel)
set_option maxRecDepth 100000 in
set_option maxHeartbeats 4000000 in
theorem wd_708 : Cond.selects "EvenSteps" ⟨"EvenSteps", "parts", "(III)I"⟩ ⟨"EvenSteps", "parts", "(III)I"⟩ ∈ en_tb := en_tbi (List.mem_of_getElem? (i := 708) (by decide +kernel)) (by decide +kernel)
set_option maxRecDepth 100000 in
set_option maxHeartbeats 4000000 in
theorem wd_707 : Cond.instanceMethod ⟨"EvenSteps", "parts", "(III)I"⟩ ∈ en_tb := en_tbi (List.mem_of_getElem? (i := 707) (by decide +kernel)) (by decide +kernel)
set_option maxRecDepth 100000 in
set_option maxHeartbeats 4000000 in
theorem wd_1206 : Cond.code ⟨"EvenStepsModel", "parts", "(III)I"⟩ prog_14_method_43_code 8 (some .int) ∈ en_tb := en_tbi (List.mem_of_getElem? (i := 1206) (by decide +kernel)) (by decide +kernel)
set_option maxRecDepth 100000 in
set_option maxHeartbeats 4000000 in
theorem wd_1203 : Cond.methodLink "EvenStepsLaw" 105 ⟨"EvenStepsModel", "parts", "(III)I"⟩ ∈ en_tb := en_tbi (List.mem_of_getElem? (i := 1203) (by decide +kernel)) (by decide +kernel)
set_option maxRecDepth 100000 in
set_option maxHeartbeats 4000000 in
theorem wd_1205 : Cond.selects "EvenStepsModel" ⟨"EvenStepsModel", "parts", "(III)I"⟩ ⟨"EvenStepsModel", "parts", "(III)I"⟩ ∈ en_tb := en_tbi (List.mem_of_getElem? (i := 1205) (by decide +kernel)) (by decide +kernel)
set_option maxRecDepth 100000 in
set_option maxHeartbeats 4000000 in
theorem wd_1204 : Cond.instanceMethod ⟨"EvenStepsModel", "parts", "(III)I"⟩ ∈ en_tb := en_tbi (List.mem_of_getElem? (i := 1204) (by decide +kernel)) (by decide +kernel)
set_option maxRecDepth 100000 in
set_option maxHeartbeats 4000000 in
theorem wd_733 : Cond.code ⟨"EvenSteps", "gaps", "(II)I"⟩ prog_1_method_36_code 3 (some .int) ∈ en_tb := en_tbi (List.mem_of_getElem? (i := 733) (by decide +kernel)) (by decide +kernel)
set_option maxRecDepth 100000 in
set_option maxHeartbeats 4000000 in
theorem wd_730 : Cond.methodLink "EvenStepsLaw" 106 ⟨"EvenSteps", "gaps", "(II)I"⟩ ∈ en_tb := en_tbi (List.mem_of_getElem? (i := 730) (by decide +kernel)) (by decide +kernel)
set_option maxRecDepth 100000 in
set_option maxHeartbeats 4000000 in
theorem wd_732 : Cond.selects "EvenSteps" ⟨"EvenSteps", "gaps", "(II)I"⟩ ⟨"EvenSteps", "gaps", "(II)I"⟩ ∈ en_tb := en_tbi (List.mem_of_getElem? (i := 732) (by decide +kernel)) (by decide +kernel)
set_option maxRecDepth 100000 in
set_option maxHeartbeats 4000000 in
theorem wd_731 : Cond.instanceMethod ⟨"EvenSteps", "gaps", "(II)I"⟩ ∈ en_tb := en_tbi (List.mem_of_getElem? (i := 731) (by decide +kernel)) (by decide +kernel)
set_option maxRecDepth 100000 in
set_option maxHeartbeats 4000000 in
theorem wd_1218 : Cond.code ⟨"EvenStepsModel", "gaps", "(II)I"⟩ prog_14_method_49_code 3 (some .int) ∈ en_tb := en_tbi (List.mem_of_getElem? (i := 1218) (by decide +kernel)) (by decide +kernel)
set_option maxRecDepth 100000 in
set_option maxHeartbeats 4000000 in
theorem wd_1215 : Cond.methodLink "EvenStepsLaw" 109 ⟨"EvenStepsModel", "gaps", "(II)I"⟩ ∈ en_tb := en_tbi (List.mem_of_getElem? (i := 1215) (by decide +kernel)) (by decide +kernel)
set_option maxRecDepth 100000 in
set_option maxHeartbeats 4000000 in
theorem wd_1217 : Cond.selects "EvenStepsModel" ⟨"EvenStepsModel", "gaps", "(II)I"⟩ ⟨"EvenStepsModel", "gaps", "(II)I"⟩ ∈ en_tb := en_tbi (List.mem_of_getElem? (i := 1217) (by decide +kernel)) (by decide +kernel)
set_option maxRecDepth 100000 in
set_option maxHeartbeats 4000000 in
theorem wd_1216 : Cond.instanceMethod ⟨"EvenStepsModel", "gaps", "(II)I"⟩ ∈ en_tb := en_tbi (List.mem_of_getElem? (i := 1216) (by decide +kernel)) (by decide +kernel)
set_option maxRecDepth 100000 in
set_option maxHeartbeats 4000000 in
theorem wd_771 : Cond.code ⟨"EvenSteps", "gap", "(IIII)I"⟩ prog_1_method_37_code 5 (some .int) ∈ en_tb := en_tbi (List.mem_of_getElem? (i := 771) (by decide +kernel)) (by decide +kernel)
set_option maxRecDepth 100000 in
set_option maxHeartbeats 4000000 in
theorem wd_768 : Cond.methodLink "EvenStepsLaw" 110 ⟨"EvenSteps", "gap", "(IIII)I"⟩ ∈ en_tb := en_tbi (List.mem_of_getElem? (i := 768) (by decide +kernel)) (by decide +kernel)
set_option maxRecDepth 100000 in
set_option maxHeartbeats 4000000 in
theorem wd_770 : Cond.selects "EvenSteps" ⟨"EvenSteps", "gap", "(IIII)I"⟩ ⟨"EvenSteps", "gap", "(IIII)I"⟩ ∈ en_tb := en_tbi (List.mem_of_getElem? (i := 770) (by decide +kernel)) (by decide +kernel)
set_option maxRecDepth 100000 in
set_option maxHeartbeats 4000000 in
theorem wd_769 : Cond.instanceMethod ⟨"EvenSteps", "gap", "(IIII)I"⟩ ∈ en_tb := en_tbi (List.mem_of_getElem? (i := 769) (by decide +kernel)) (by decide +kernel)
set_option maxRecDepth 100000 in
set_option maxHeartbeats 4000000 in
theorem wd_1242 : Cond.code ⟨"EvenStepsModel", "gap", "(IIII)I"⟩ prog_14_method_50_code 5 (some .int) ∈ en_tb := en_tbi (List.mem_of_getElem? (i := 1242) (by decide +kernel)) (by decide +kernel)
set_option maxRecDepth 100000 in
set_option maxHeartbeats 4000000 in
theorem wd_1239 : Cond.methodLink "EvenStepsLaw" 113 ⟨"EvenStepsModel", "gap", "(IIII)I"⟩ ∈ en_tb := en_tbi (List.mem_of_getElem? (i := 1239) (by decide +kernel)) (by decide +kernel)
set_option maxRecDepth 100000 in
set_option maxHeartbeats 4000000 in
theorem wd_1241 : Cond.selects "EvenStepsModel" ⟨"EvenStepsModel", "gap", "(IIII)I"⟩ ⟨"EvenStepsModel", "gap", "(IIII)I"⟩ ∈ en_tb := en_tbi (List.mem_of_getElem? (i := 1241) (by decide +kernel)) (by decide +kernel)
set_option maxRecDepth 100000 in
set_option maxHeartbeats 4000000 in
theorem wd_1240 : Cond.instanceMethod ⟨"EvenStepsModel", "gap", "(IIII)I"⟩ ∈ en_tb := en_tbi (List.mem_of_getElem? (i := 1240) (by decide +kernel)) (by decide +kernel)
set_option maxRecDepth 100000 in
set_option maxHeartbeats 4000000 in
theorem wd_775 : Cond.code ⟨"EvenSteps", "follows", "(III)I"⟩ prog_1_method_38_code 4 (some .int) ∈ en_tb := en_tbi (List.mem_of_getElem? (i := 775) (by decide +kernel)) (by decide +kernel)
set_option maxRecDepth 100000 in
set_option maxHeartbeats 4000000 in
theorem wd_772 : Cond.methodLink "EvenStepsLaw" 114 ⟨"EvenSteps", "follows", "(III)I"⟩ ∈ en_tb := en_tbi (List.mem_of_getElem? (i := 772) (by decide +kernel)) (by decide +kernel)
set_option maxRecDepth 100000 in
set_option maxHeartbeats 4000000 in
theorem wd_774 : Cond.selects "EvenSteps" ⟨"EvenSteps", "follows", "(III)I"⟩ ⟨"EvenSteps", "follows", "(III)I"⟩ ∈ en_tb := en_tbi (List.mem_of_getElem? (i := 774) (by decide +kernel)) (by decide +kernel)
set_option maxRecDepth 100000 in
set_option maxHeartbeats 4000000 in
theorem wd_773 : Cond.instanceMethod ⟨"EvenSteps", "follows", "(III)I"⟩ ∈ en_tb := en_tbi (List.mem_of_getElem? (i := 773) (by decide +kernel)) (by decide +kernel)
set_option maxRecDepth 100000 in
set_option maxHeartbeats 4000000 in
theorem wd_1246 : Cond.code ⟨"EvenStepsModel", "follows", "(III)I"⟩ prog_14_method_51_code 5 (some .int) ∈ en_tb := en_tbi (List.mem_of_getElem? (i := 1246) (by decide +kernel)) (by decide +kernel)
set_option maxRecDepth 100000 in
set_option maxHeartbeats 4000000 in
theorem wd_1243 : Cond.methodLink "EvenStepsLaw" 117 ⟨"EvenStepsModel", "follows", "(III)I"⟩ ∈ en_tb := en_tbi (List.mem_of_getElem? (i := 1243) (by decide +kernel)) (by decide +kernel)
set_option maxRecDepth 100000 in
set_option maxHeartbeats 4000000 in
theorem wd_1245 : Cond.selects "EvenStepsModel" ⟨"EvenStepsModel", "follows", "(III)I"⟩ ⟨"EvenStepsModel", "follows", "(III)I"⟩ ∈ en_tb := en_tbi (List.mem_of_getElem? (i := 1245) (by decide +kernel)) (by decide +kernel)
set_option maxRecDepth 100000 in
set_option maxHeartbeats 4000000 in
theorem wd_1244 : Cond.instanceMethod ⟨"EvenStepsModel", "follows", "(III)I"⟩ ∈ en_tb := en_tbi (List.mem_of_getElem? (i := 1244) (by decide +kernel)) (by decide +kernel)
set_option maxRecDepth 100000 in
set_option maxHeartbeats 4000000 in
theorem wd_599 : Cond.code ⟨"EvenSteps", "share", "(II)I"⟩ prog_1_method_21_code 5 (some .int) ∈ en_tb := en_tbi (List.mem_of_getElem? (i := 599) (by decide +kernel)) (by decide +kernel)
set_option maxRecDepth 100000 in
set_option maxHeartbeats 4000000 in
theorem wd_596 : Cond.methodLink "EvenStepsLaw" 118 ⟨"EvenSteps", "share", "(II)I"⟩ ∈ en_tb := en_tbi (List.mem_of_getElem? (i := 596) (by decide +kernel)) (by decide +kernel)
set_option maxRecDepth 100000 in
set_option maxHeartbeats 4000000 in
theorem wd_598 : Cond.selects "EvenSteps" ⟨"EvenSteps", "share", "(II)I"⟩ ⟨"EvenSteps", "share", "(II)I"⟩ ∈ en_tb := en_tbi (List.mem_of_getElem? (i := 598) (by decide +kernel)) (by decide +kernel)
set_option maxRecDepth 100000 in
set_option maxHeartbeats 4000000 in
theorem wd_597 : Cond.instanceMethod ⟨"EvenSteps", "share", "(II)I"⟩ ∈ en_tb := en_tbi (List.mem_of_getElem? (i := 597) (by decide +kernel)) (by decide +kernel)
set_option maxRecDepth 100000 in
set_option maxHeartbeats 4000000 in
theorem wd_1250 : Cond.code ⟨"EvenStepsModel", "share", "(II)I"⟩ prog_14_method_53_code 7 (some .int) ∈ en_tb := en_tbi (List.mem_of_getElem? (i := 1250) (by decide +kernel)) (by decide +kernel)
set_option maxRecDepth 100000 in
set_option maxHeartbeats 4000000 in
theorem wd_1247 : Cond.methodLink "EvenStepsLaw" 121 ⟨"EvenStepsModel", "share", "(II)I"⟩ ∈ en_tb := en_tbi (List.mem_of_getElem? (i := 1247) (by decide +kernel)) (by decide +kernel)
set_option maxRecDepth 100000 in
set_option maxHeartbeats 4000000 in
theorem wd_1249 : Cond.selects "EvenStepsModel" ⟨"EvenStepsModel", "share", "(II)I"⟩ ⟨"EvenStepsModel", "share", "(II)I"⟩ ∈ en_tb := en_tbi (List.mem_of_getElem? (i := 1249) (by decide +kernel)) (by decide +kernel)
set_option maxRecDepth 100000 in
set_option maxHeartbeats 4000000 in
theorem wd_1248 : Cond.instanceMethod ⟨"EvenStepsModel", "share", "(II)I"⟩ ∈ en_tb := en_tbi (List.mem_of_getElem? (i := 1248) (by decide +kernel)) (by decide +kernel)
set_option maxRecDepth 100000 in
set_option maxHeartbeats 4000000 in
theorem wd_779 : Cond.code ⟨"EvenSteps", "spread", "(II)J"⟩ prog_1_method_40_code 16 (some .long) ∈ en_tb := en_tbi (List.mem_of_getElem? (i := 779) (by decide +kernel)) (by decide +kernel)
set_option maxRecDepth 100000 in
set_option maxHeartbeats 4000000 in
theorem wd_776 : Cond.methodLink "EvenStepsLaw" 122 ⟨"EvenSteps", "spread", "(II)J"⟩ ∈ en_tb := en_tbi (List.mem_of_getElem? (i := 776) (by decide +kernel)) (by decide +kernel)
set_option maxRecDepth 100000 in
set_option maxHeartbeats 4000000 in
theorem wd_778 : Cond.selects "EvenSteps" ⟨"EvenSteps", "spread", "(II)J"⟩ ⟨"EvenSteps", "spread", "(II)J"⟩ ∈ en_tb := en_tbi (List.mem_of_getElem? (i := 778) (by decide +kernel)) (by decide +kernel)
set_option maxRecDepth 100000 in
set_option maxHeartbeats 4000000 in
theorem wd_777 : Cond.instanceMethod ⟨"EvenSteps", "spread", "(II)J"⟩ ∈ en_tb := en_tbi (List.mem_of_getElem? (i := 777) (by decide +kernel)) (by decide +kernel)
set_option maxRecDepth 100000 in
set_option maxHeartbeats 4000000 in
theorem wd_1258 : Cond.code ⟨"EvenStepsModel", "spread", "(II)J"⟩ prog_14_method_54_code 15 (some .long) ∈ en_tb := en_tbi (List.mem_of_getElem? (i := 1258) (by decide +kernel)) (by decide +kernel)
set_option maxRecDepth 100000 in
set_option maxHeartbeats 4000000 in
theorem wd_1255 : Cond.methodLink "EvenStepsLaw" 126 ⟨"EvenStepsModel", "spread", "(II)J"⟩ ∈ en_tb := en_tbi (List.mem_of_getElem? (i := 1255) (by decide +kernel)) (by decide +kernel)
set_option maxRecDepth 100000 in
set_option maxHeartbeats 4000000 in
theorem wd_1257 : Cond.selects "EvenStepsModel" ⟨"EvenStepsModel", "spread", "(II)J"⟩ ⟨"EvenStepsModel", "spread", "(II)J"⟩ ∈ en_tb := en_tbi (List.mem_of_getElem? (i := 1257) (by decide +kernel)) (by decide +kernel)
set_option maxRecDepth 100000 in
set_option maxHeartbeats 4000000 in
theorem wd_1256 : Cond.instanceMethod ⟨"EvenStepsModel", "spread", "(II)J"⟩ ∈ en_tb := en_tbi (List.mem_of_getElem? (i := 1256) (by decide +kernel)) (by decide +kernel)
set_option maxRecDepth 100000 in
set_option maxHeartbeats 4000000 in
theorem wd_1358 : Cond.constantLong "EvenStepsLaw" 127 4294967295 ∈ en_tb := en_tbi (List.mem_of_getElem? (i := 1358) (by decide +kernel)) (by decide +kernel)
set_option maxRecDepth 100000 in
set_option maxHeartbeats 4000000 in
theorem wd_788 : Cond.code ⟨"EvenSteps", "turning", "(JI)I"⟩ prog_1_method_42_code 12 (some .int) ∈ en_tb := en_tbi (List.mem_of_getElem? (i := 788) (by decide +kernel)) (by decide +kernel)
set_option maxRecDepth 100000 in
set_option maxHeartbeats 4000000 in
theorem wd_785 : Cond.methodLink "EvenStepsLaw" 129 ⟨"EvenSteps", "turning", "(JI)I"⟩ ∈ en_tb := en_tbi (List.mem_of_getElem? (i := 785) (by decide +kernel)) (by decide +kernel)
set_option maxRecDepth 100000 in
set_option maxHeartbeats 4000000 in
theorem wd_787 : Cond.selects "EvenSteps" ⟨"EvenSteps", "turning", "(JI)I"⟩ ⟨"EvenSteps", "turning", "(JI)I"⟩ ∈ en_tb := en_tbi (List.mem_of_getElem? (i := 787) (by decide +kernel)) (by decide +kernel)
set_option maxRecDepth 100000 in
set_option maxHeartbeats 4000000 in
theorem wd_786 : Cond.instanceMethod ⟨"EvenSteps", "turning", "(JI)I"⟩ ∈ en_tb := en_tbi (List.mem_of_getElem? (i := 786) (by decide +kernel)) (by decide +kernel)
set_option maxRecDepth 100000 in
set_option maxHeartbeats 4000000 in
theorem wd_1263 : Cond.code ⟨"EvenStepsModel", "turning", "(JI)I"⟩ prog_14_method_55_code 7 (some .int) ∈ en_tb := en_tbi (List.mem_of_getElem? (i := 1263) (by decide +kernel)) (by decide +kernel)
set_option maxRecDepth 100000 in
set_option maxHeartbeats 4000000 in
theorem wd_1260 : Cond.methodLink "EvenStepsLaw" 133 ⟨"EvenStepsModel", "turning", "(JI)I"⟩ ∈ en_tb := en_tbi (List.mem_of_getElem? (i := 1260) (by decide +kernel)) (by decide +kernel)
set_option maxRecDepth 100000 in
set_option maxHeartbeats 4000000 in
theorem wd_1262 : Cond.selects "EvenStepsModel" ⟨"EvenStepsModel", "turning", "(JI)I"⟩ ⟨"EvenStepsModel", "turning", "(JI)I"⟩ ∈ en_tb := en_tbi (List.mem_of_getElem? (i := 1262) (by decide +kernel)) (by decide +kernel)
set_option maxRecDepth 100000 in
set_option maxHeartbeats 4000000 in
theorem wd_1261 : Cond.instanceMethod ⟨"EvenStepsModel", "turning", "(JI)I"⟩ ∈ en_tb := en_tbi (List.mem_of_getElem? (i := 1261) (by decide +kernel)) (by decide +kernel)
set_option maxRecDepth 100000 in
set_option maxHeartbeats 4000000 in
theorem wd_795 : Cond.code ⟨"EvenSteps", "wins", "(II)I"⟩ prog_1_method_44_code 3 (some .int) ∈ en_tb := en_tbi (List.mem_of_getElem? (i := 795) (by decide +kernel)) (by decide +kernel)
set_option maxRecDepth 100000 in
set_option maxHeartbeats 4000000 in
theorem wd_792 : Cond.methodLink "EvenStepsLaw" 134 ⟨"EvenSteps", "wins", "(II)I"⟩ ∈ en_tb := en_tbi (List.mem_of_getElem? (i := 792) (by decide +kernel)) (by decide +kernel)
set_option maxRecDepth 100000 in
set_option maxHeartbeats 4000000 in
theorem wd_794 : Cond.selects "EvenSteps" ⟨"EvenSteps", "wins", "(II)I"⟩ ⟨"EvenSteps", "wins", "(II)I"⟩ ∈ en_tb := en_tbi (List.mem_of_getElem? (i := 794) (by decide +kernel)) (by decide +kernel)
set_option maxRecDepth 100000 in
set_option maxHeartbeats 4000000 in
theorem wd_793 : Cond.instanceMethod ⟨"EvenSteps", "wins", "(II)I"⟩ ∈ en_tb := en_tbi (List.mem_of_getElem? (i := 793) (by decide +kernel)) (by decide +kernel)
set_option maxRecDepth 100000 in
set_option maxHeartbeats 4000000 in
theorem wd_1264 : Cond.methodLink "EvenStepsLaw" 137 ⟨"EvenStepsModel", "wins", "(II)I"⟩ ∈ en_tb := en_tbi (List.mem_of_getElem? (i := 1264) (by decide +kernel)) (by decide +kernel)
set_option maxRecDepth 100000 in
set_option maxHeartbeats 4000000 in
theorem wd_809 : Cond.code ⟨"EvenSteps", "takes", "(II)I"⟩ prog_1_method_45_code 6 (some .int) ∈ en_tb := en_tbi (List.mem_of_getElem? (i := 809) (by decide +kernel)) (by decide +kernel)
set_option maxRecDepth 100000 in
set_option maxHeartbeats 4000000 in
theorem wd_806 : Cond.methodLink "EvenStepsLaw" 138 ⟨"EvenSteps", "takes", "(II)I"⟩ ∈ en_tb := en_tbi (List.mem_of_getElem? (i := 806) (by decide +kernel)) (by decide +kernel)
set_option maxRecDepth 100000 in
set_option maxHeartbeats 4000000 in
theorem wd_808 : Cond.selects "EvenSteps" ⟨"EvenSteps", "takes", "(II)I"⟩ ⟨"EvenSteps", "takes", "(II)I"⟩ ∈ en_tb := en_tbi (List.mem_of_getElem? (i := 808) (by decide +kernel)) (by decide +kernel)
set_option maxRecDepth 100000 in
set_option maxHeartbeats 4000000 in
theorem wd_807 : Cond.instanceMethod ⟨"EvenSteps", "takes", "(II)I"⟩ ∈ en_tb := en_tbi (List.mem_of_getElem? (i := 807) (by decide +kernel)) (by decide +kernel)
set_option maxRecDepth 100000 in
set_option maxHeartbeats 4000000 in
theorem wd_1275 : Cond.code ⟨"EvenStepsModel", "takes", "(II)I"⟩ prog_14_method_58_code 4 (some .int) ∈ en_tb := en_tbi (List.mem_of_getElem? (i := 1275) (by decide +kernel)) (by decide +kernel)
set_option maxRecDepth 100000 in
set_option maxHeartbeats 4000000 in
theorem wd_1272 : Cond.methodLink "EvenStepsLaw" 141 ⟨"EvenStepsModel", "takes", "(II)I"⟩ ∈ en_tb := en_tbi (List.mem_of_getElem? (i := 1272) (by decide +kernel)) (by decide +kernel)
set_option maxRecDepth 100000 in
set_option maxHeartbeats 4000000 in
theorem wd_1274 : Cond.selects "EvenStepsModel" ⟨"EvenStepsModel", "takes", "(II)I"⟩ ⟨"EvenStepsModel", "takes", "(II)I"⟩ ∈ en_tb := en_tbi (List.mem_of_getElem? (i := 1274) (by decide +kernel)) (by decide +kernel)
set_option maxRecDepth 100000 in
set_option maxHeartbeats 4000000 in
theorem wd_1273 : Cond.instanceMethod ⟨"EvenStepsModel", "takes", "(II)I"⟩ ∈ en_tb := en_tbi (List.mem_of_getElem? (i := 1273) (by decide +kernel)) (by decide +kernel)
set_option maxRecDepth 100000 in
set_option maxHeartbeats 4000000 in
theorem wd_816 : Cond.code ⟨"EvenSteps", "act", "(III)I"⟩ prog_1_method_49_code 5 (some .int) ∈ en_tb := en_tbi (List.mem_of_getElem? (i := 816) (by decide +kernel)) (by decide +kernel)
set_option maxRecDepth 100000 in
set_option maxHeartbeats 4000000 in
theorem wd_813 : Cond.methodLink "EvenStepsLaw" 142 ⟨"EvenSteps", "act", "(III)I"⟩ ∈ en_tb := en_tbi (List.mem_of_getElem? (i := 813) (by decide +kernel)) (by decide +kernel)
set_option maxRecDepth 100000 in
set_option maxHeartbeats 4000000 in
theorem wd_815 : Cond.selects "EvenSteps" ⟨"EvenSteps", "act", "(III)I"⟩ ⟨"EvenSteps", "act", "(III)I"⟩ ∈ en_tb := en_tbi (List.mem_of_getElem? (i := 815) (by decide +kernel)) (by decide +kernel)
set_option maxRecDepth 100000 in
set_option maxHeartbeats 4000000 in
theorem wd_814 : Cond.instanceMethod ⟨"EvenSteps", "act", "(III)I"⟩ ∈ en_tb := en_tbi (List.mem_of_getElem? (i := 814) (by decide +kernel)) (by decide +kernel)
set_option maxRecDepth 100000 in
set_option maxHeartbeats 4000000 in
theorem wd_1283 : Cond.code ⟨"EvenStepsModel", "act", "(III)I"⟩ prog_14_method_71_code 4 (some .int) ∈ en_tb := en_tbi (List.mem_of_getElem? (i := 1283) (by decide +kernel)) (by decide +kernel)
set_option maxRecDepth 100000 in
set_option maxHeartbeats 4000000 in
theorem wd_1280 : Cond.methodLink "EvenStepsLaw" 145 ⟨"EvenStepsModel", "act", "(III)I"⟩ ∈ en_tb := en_tbi (List.mem_of_getElem? (i := 1280) (by decide +kernel)) (by decide +kernel)
set_option maxRecDepth 100000 in
set_option maxHeartbeats 4000000 in
theorem wd_1282 : Cond.selects "EvenStepsModel" ⟨"EvenStepsModel", "act", "(III)I"⟩ ⟨"EvenStepsModel", "act", "(III)I"⟩ ∈ en_tb := en_tbi (List.mem_of_getElem? (i := 1282) (by decide +kernel)) (by decide +kernel)
set_option maxRecDepth 100000 in
set_option maxHeartbeats 4000000 in
theorem wd_1281 : Cond.instanceMethod ⟨"EvenStepsModel", "act", "(III)I"⟩ ∈ en_tb := en_tbi (List.mem_of_getElem? (i := 1281) (by decide +kernel)) (by decide +kernel)
set_option maxRecDepth 100000 in
set_option maxHeartbeats 4000000 in
theorem wd_900 : Cond.code ⟨"EvenSteps", "trace", "(I)I"⟩ prog_1_method_50_code 2 (some .int) ∈ en_tb := en_tbi (List.mem_of_getElem? (i := 900) (by decide +kernel)) (by decide +kernel)
set_option maxRecDepth 100000 in
set_option maxHeartbeats 4000000 in
theorem wd_897 : Cond.methodLink "EvenStepsLaw" 146 ⟨"EvenSteps", "trace", "(I)I"⟩ ∈ en_tb := en_tbi (List.mem_of_getElem? (i := 897) (by decide +kernel)) (by decide +kernel)
set_option maxRecDepth 100000 in
set_option maxHeartbeats 4000000 in
theorem wd_899 : Cond.selects "EvenSteps" ⟨"EvenSteps", "trace", "(I)I"⟩ ⟨"EvenSteps", "trace", "(I)I"⟩ ∈ en_tb := en_tbi (List.mem_of_getElem? (i := 899) (by decide +kernel)) (by decide +kernel)
set_option maxRecDepth 100000 in
set_option maxHeartbeats 4000000 in
theorem wd_898 : Cond.instanceMethod ⟨"EvenSteps", "trace", "(I)I"⟩ ∈ en_tb := en_tbi (List.mem_of_getElem? (i := 898) (by decide +kernel)) (by decide +kernel)
set_option maxRecDepth 100000 in
set_option maxHeartbeats 4000000 in
theorem wd_1335 : Cond.code ⟨"EvenStepsModel", "trace", "(I)I"⟩ prog_14_method_72_code 2 (some .int) ∈ en_tb := en_tbi (List.mem_of_getElem? (i := 1335) (by decide +kernel)) (by decide +kernel)
set_option maxRecDepth 100000 in
set_option maxHeartbeats 4000000 in
theorem wd_1332 : Cond.methodLink "EvenStepsLaw" 149 ⟨"EvenStepsModel", "trace", "(I)I"⟩ ∈ en_tb := en_tbi (List.mem_of_getElem? (i := 1332) (by decide +kernel)) (by decide +kernel)
set_option maxRecDepth 100000 in
set_option maxHeartbeats 4000000 in
theorem wd_1334 : Cond.selects "EvenStepsModel" ⟨"EvenStepsModel", "trace", "(I)I"⟩ ⟨"EvenStepsModel", "trace", "(I)I"⟩ ∈ en_tb := en_tbi (List.mem_of_getElem? (i := 1334) (by decide +kernel)) (by decide +kernel)
set_option maxRecDepth 100000 in
set_option maxHeartbeats 4000000 in
theorem wd_1333 : Cond.instanceMethod ⟨"EvenStepsModel", "trace", "(I)I"⟩ ∈ en_tb := en_tbi (List.mem_of_getElem? (i := 1333) (by decide +kernel)) (by decide +kernel)
set_option maxRecDepth 100000 in
set_option maxHeartbeats 4000000 in
theorem wd_904 : Cond.code ⟨"EvenSteps", "sheet", "(III)I"⟩ prog_1_method_51_code 4 (some .int) ∈ en_tb := en_tbi (List.mem_of_getElem? (i := 904) (by decide +kernel)) (by decide +kernel)
set_option maxRecDepth 100000 in
set_option maxHeartbeats 4000000 in
theorem wd_901 : Cond.methodLink "EvenStepsLaw" 150 ⟨"EvenSteps", "sheet", "(III)I"⟩ ∈ en_tb := en_tbi (List.mem_of_getElem? (i := 901) (by decide +kernel)) (by decide +kernel)
set_option maxRecDepth 100000 in
set_option maxHeartbeats 4000000 in
theorem wd_903 : Cond.selects "EvenSteps" ⟨"EvenSteps", "sheet", "(III)I"⟩ ⟨"EvenSteps", "sheet", "(III)I"⟩ ∈ en_tb := en_tbi (List.mem_of_getElem? (i := 903) (by decide +kernel)) (by decide +kernel)
set_option maxRecDepth 100000 in
set_option maxHeartbeats 4000000 in
theorem wd_902 : Cond.instanceMethod ⟨"EvenSteps", "sheet", "(III)I"⟩ ∈ en_tb := en_tbi (List.mem_of_getElem? (i := 902) (by decide +kernel)) (by decide +kernel)
set_option maxRecDepth 100000 in
set_option maxHeartbeats 4000000 in
theorem wd_1339 : Cond.code ⟨"EvenStepsModel", "sheet", "(III)I"⟩ prog_14_method_73_code 5 (some .int) ∈ en_tb := en_tbi (List.mem_of_getElem? (i := 1339) (by decide +kernel)) (by decide +kernel)
set_option maxRecDepth 100000 in
set_option maxHeartbeats 4000000 in
theorem wd_1336 : Cond.methodLink "EvenStepsLaw" 153 ⟨"EvenStepsModel", "sheet", "(III)I"⟩ ∈ en_tb := en_tbi (List.mem_of_getElem? (i := 1336) (by decide +kernel)) (by decide +kernel)
set_option maxRecDepth 100000 in
set_option maxHeartbeats 4000000 in
theorem wd_1338 : Cond.selects "EvenStepsModel" ⟨"EvenStepsModel", "sheet", "(III)I"⟩ ⟨"EvenStepsModel", "sheet", "(III)I"⟩ ∈ en_tb := en_tbi (List.mem_of_getElem? (i := 1338) (by decide +kernel)) (by decide +kernel)
set_option maxRecDepth 100000 in
set_option maxHeartbeats 4000000 in
theorem wd_1337 : Cond.instanceMethod ⟨"EvenStepsModel", "sheet", "(III)I"⟩ ∈ en_tb := en_tbi (List.mem_of_getElem? (i := 1337) (by decide +kernel)) (by decide +kernel)
set_option maxRecDepth 100000 in
set_option maxHeartbeats 4000000 in
theorem wd_912 : Cond.code ⟨"EvenSteps", "cell", "(III)I"⟩ prog_1_method_52_code 5 (some .int) ∈ en_tb := en_tbi (List.mem_of_getElem? (i := 912) (by decide +kernel)) (by decide +kernel)
set_option maxRecDepth 100000 in
set_option maxHeartbeats 4000000 in
theorem wd_909 : Cond.methodLink "EvenStepsLaw" 154 ⟨"EvenSteps", "cell", "(III)I"⟩ ∈ en_tb := en_tbi (List.mem_of_getElem? (i := 909) (by decide +kernel)) (by decide +kernel)
set_option maxRecDepth 100000 in
set_option maxHeartbeats 4000000 in
theorem wd_911 : Cond.selects "EvenSteps" ⟨"EvenSteps", "cell", "(III)I"⟩ ⟨"EvenSteps", "cell", "(III)I"⟩ ∈ en_tb := en_tbi (List.mem_of_getElem? (i := 911) (by decide +kernel)) (by decide +kernel)
set_option maxRecDepth 100000 in
set_option maxHeartbeats 4000000 in
theorem wd_910 : Cond.instanceMethod ⟨"EvenSteps", "cell", "(III)I"⟩ ∈ en_tb := en_tbi (List.mem_of_getElem? (i := 910) (by decide +kernel)) (by decide +kernel)
set_option maxRecDepth 100000 in
set_option maxHeartbeats 4000000 in
theorem wd_1343 : Cond.code ⟨"EvenStepsModel", "cell", "(III)I"⟩ prog_14_method_74_code 4 (some .int) ∈ en_tb := en_tbi (List.mem_of_getElem? (i := 1343) (by decide +kernel)) (by decide +kernel)
set_option maxRecDepth 100000 in
set_option maxHeartbeats 4000000 in
theorem wd_1340 : Cond.methodLink "EvenStepsLaw" 157 ⟨"EvenStepsModel", "cell", "(III)I"⟩ ∈ en_tb := en_tbi (List.mem_of_getElem? (i := 1340) (by decide +kernel)) (by decide +kernel)
set_option maxRecDepth 100000 in
set_option maxHeartbeats 4000000 in
theorem wd_1342 : Cond.selects "EvenStepsModel" ⟨"EvenStepsModel", "cell", "(III)I"⟩ ⟨"EvenStepsModel", "cell", "(III)I"⟩ ∈ en_tb := en_tbi (List.mem_of_getElem? (i := 1342) (by decide +kernel)) (by decide +kernel)
set_option maxRecDepth 100000 in
set_option maxHeartbeats 4000000 in
theorem wd_1341 : Cond.instanceMethod ⟨"EvenStepsModel", "cell", "(III)I"⟩ ∈ en_tb := en_tbi (List.mem_of_getElem? (i := 1341) (by decide +kernel)) (by decide +kernel)
set_option maxRecDepth 100000 in
set_option maxHeartbeats 4000000 in
theorem wd_916 : Cond.code ⟨"EvenSteps", "forge", "(III)I"⟩ prog_1_method_53_code 4 (some .int) ∈ en_tb := en_tbi (List.mem_of_getElem? (i := 916) (by decide +kernel)) (by decide +kernel)
set_option maxRecDepth 100000 in
set_option maxHeartbeats 4000000 in
theorem wd_913 : Cond.methodLink "EvenStepsLaw" 158 ⟨"EvenSteps", "forge", "(III)I"⟩ ∈ en_tb := en_tbi (List.mem_of_getElem? (i := 913) (by decide +kernel)) (by decide +kernel)
set_option maxRecDepth 100000 in
set_option maxHeartbeats 4000000 in
theorem wd_915 : Cond.selects "EvenSteps" ⟨"EvenSteps", "forge", "(III)I"⟩ ⟨"EvenSteps", "forge", "(III)I"⟩ ∈ en_tb := en_tbi (List.mem_of_getElem? (i := 915) (by decide +kernel)) (by decide +kernel)
set_option maxRecDepth 100000 in
set_option maxHeartbeats 4000000 in
theorem wd_914 : Cond.instanceMethod ⟨"EvenSteps", "forge", "(III)I"⟩ ∈ en_tb := en_tbi (List.mem_of_getElem? (i := 914) (by decide +kernel)) (by decide +kernel)
set_option maxRecDepth 100000 in
set_option maxHeartbeats 4000000 in
theorem wd_1347 : Cond.code ⟨"EvenStepsModel", "forge", "(III)I"⟩ prog_14_method_77_code 8 (some .int) ∈ en_tb := en_tbi (List.mem_of_getElem? (i := 1347) (by decide +kernel)) (by decide +kernel)
set_option maxRecDepth 100000 in
set_option maxHeartbeats 4000000 in
theorem wd_1344 : Cond.methodLink "EvenStepsLaw" 161 ⟨"EvenStepsModel", "forge", "(III)I"⟩ ∈ en_tb := en_tbi (List.mem_of_getElem? (i := 1344) (by decide +kernel)) (by decide +kernel)
set_option maxRecDepth 100000 in
set_option maxHeartbeats 4000000 in
theorem wd_1346 : Cond.selects "EvenStepsModel" ⟨"EvenStepsModel", "forge", "(III)I"⟩ ⟨"EvenStepsModel", "forge", "(III)I"⟩ ∈ en_tb := en_tbi (List.mem_of_getElem? (i := 1346) (by decide +kernel)) (by decide +kernel)
set_option maxRecDepth 100000 in
set_option maxHeartbeats 4000000 in
theorem wd_1345 : Cond.instanceMethod ⟨"EvenStepsModel", "forge", "(III)I"⟩ ∈ en_tb := en_tbi (List.mem_of_getElem? (i := 1345) (by decide +kernel)) (by decide +kernel)
set_option maxRecDepth 100000 in
set_option maxHeartbeats 4000000 in
theorem wd_939 : Cond.code ⟨"EvenSteps", "status", "()I"⟩ prog_1_method_59_code 1 (some .int) ∈ en_tb := en_tbi (List.mem_of_getElem? (i := 939) (by decide +kernel)) (by decide +kernel)
set_option maxRecDepth 100000 in
set_option maxHeartbeats 4000000 in
theorem wd_936 : Cond.methodLink "EvenStepsLaw" 162 ⟨"EvenSteps", "status", "()I"⟩ ∈ en_tb := en_tbi (List.mem_of_getElem? (i := 936) (by decide +kernel)) (by decide +kernel)
set_option maxRecDepth 100000 in
set_option maxHeartbeats 4000000 in
theorem wd_938 : Cond.selects "EvenSteps" ⟨"EvenSteps", "status", "()I"⟩ ⟨"EvenSteps", "status", "()I"⟩ ∈ en_tb := en_tbi (List.mem_of_getElem? (i := 938) (by decide +kernel)) (by decide +kernel)
set_option maxRecDepth 100000 in
set_option maxHeartbeats 4000000 in
theorem wd_937 : Cond.instanceMethod ⟨"EvenSteps", "status", "()I"⟩ ∈ en_tb := en_tbi (List.mem_of_getElem? (i := 937) (by decide +kernel)) (by decide +kernel)
set_option maxRecDepth 100000 in
set_option maxHeartbeats 4000000 in
theorem wd_1357 : Cond.code ⟨"EvenStepsModel", "status", "()I"⟩ prog_14_method_78_code 1 (some .int) ∈ en_tb := en_tbi (List.mem_of_getElem? (i := 1357) (by decide +kernel)) (by decide +kernel)
set_option maxRecDepth 100000 in
set_option maxHeartbeats 4000000 in
theorem wd_1354 : Cond.methodLink "EvenStepsLaw" 166 ⟨"EvenStepsModel", "status", "()I"⟩ ∈ en_tb := en_tbi (List.mem_of_getElem? (i := 1354) (by decide +kernel)) (by decide +kernel)
set_option maxRecDepth 100000 in
set_option maxHeartbeats 4000000 in
theorem wd_1356 : Cond.selects "EvenStepsModel" ⟨"EvenStepsModel", "status", "()I"⟩ ⟨"EvenStepsModel", "status", "()I"⟩ ∈ en_tb := en_tbi (List.mem_of_getElem? (i := 1356) (by decide +kernel)) (by decide +kernel)
set_option maxRecDepth 100000 in
set_option maxHeartbeats 4000000 in
theorem wd_1355 : Cond.instanceMethod ⟨"EvenStepsModel", "status", "()I"⟩ ∈ en_tb := en_tbi (List.mem_of_getElem? (i := 1355) (by decide +kernel)) (by decide +kernel)
