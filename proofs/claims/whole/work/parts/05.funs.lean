/-! the table of the methods. Written by wip/whole/dec.py. -/
def en_mt : List en_M := [(⟨"EvenSteps$Circle", "<init>", "()V"⟩, prog_2_method_1_code, 1, none, p_X0_init),
  (⟨"EvenSteps$Circle", "lay", "(LEvenSteps$Slope;I)V"⟩, prog_2_method_2_code, 5, none, p_X0_lay),
  (⟨"EvenSteps$Circle", "place", "(I)V"⟩, prog_2_method_3_code, 3, none, p_X0_place),
  (⟨"EvenSteps$Circle", "isAhead", "(II)Z"⟩, prog_2_method_4_code, 3, (some .boolean), p_X0_isAhead),
  (⟨"EvenSteps$Circle", "addGap", "(II)V"⟩, prog_2_method_5_code, 4, none, p_X0_addGap),
  (⟨"EvenSteps$Circle", "signBeside", "(III)I"⟩, prog_2_method_6_code, 4, (some .int), p_X0_signBeside),
  (⟨"EvenSteps$Circle", "insertSort", "(III)V"⟩, prog_2_method_7_code, 5, none, p_X0_insertSort),
  (⟨"EvenSteps$Cut", "<init>", "(ILEvenSteps$Row;IIII)V"⟩, prog_3_method_1_code, 7, none, p_X1_init),
  (⟨"EvenSteps$Cut", "kindNumber", "()I"⟩, prog_3_method_2_code, 1, (some .int), p_X1_kindNumber),
  (⟨"EvenSteps$Cut", "stepAt", "(I)I"⟩, prog_3_method_3_code, 2, (some .int), p_X1_stepAt),
  (⟨"EvenSteps$Cut", "sumOf", "(I)I"⟩, prog_3_method_4_code, 4, (some .int), p_X1_sumOf),
  (⟨"EvenSteps$Cut", "learn", "(I)V"⟩, prog_3_method_5_code, 4, none, p_X1_learn),
  (⟨"EvenSteps$Cut", "put", "(II)V"⟩, prog_3_method_6_code, 4, none, p_X1_put),
  (⟨"EvenSteps$Cut", "doGo", "(ILEvenSteps$Trace;)I"⟩, prog_3_method_7_code, 3, (some .int), p_X1_doGo),
  (⟨"EvenSteps$Cut", "doGrow", "(ILEvenSteps$Trace;)I"⟩, prog_3_method_8_code, 3, (some .int), p_X1_doGrow),
  (⟨"EvenSteps$Even", "<init>", "(ILEvenSteps$Slope;III)V"⟩, prog_4_method_1_code, 6, none, p_X2_init),
  (⟨"EvenSteps$Even", "kindNumber", "()I"⟩, prog_4_method_2_code, 1, (some .int), p_X2_kindNumber),
  (⟨"EvenSteps$Even", "stepAt", "(I)I"⟩, prog_4_method_3_code, 2, (some .int), p_X2_stepAt),
  (⟨"EvenSteps$Even", "sumOf", "(I)I"⟩, prog_4_method_4_code, 2, (some .int), p_X2_sumOf),
  (⟨"EvenSteps$Even", "doGo", "(ILEvenSteps$Trace;)I"⟩, prog_4_method_5_code, 3, (some .int), p_X2_doGo),
  (⟨"EvenSteps$Even", "doGrow", "(ILEvenSteps$Trace;)I"⟩, prog_4_method_6_code, 3, (some .int), p_X2_doGrow),
  (⟨"EvenSteps$Points", "<init>", "(ILEvenSteps$Slope;I)V"⟩, prog_5_method_1_code, 4, none, p_X3_init),
  (⟨"EvenSteps$Points", "kindNumber", "()I"⟩, prog_5_method_2_code, 1, (some .int), p_X3_kindNumber),
  (⟨"EvenSteps$Points", "doGrow", "(ILEvenSteps$Trace;)I"⟩, prog_5_method_3_code, 3, (some .int), p_X3_doGrow),
  (⟨"EvenSteps$Points", "doGap", "(ILEvenSteps$Trace;)I"⟩, prog_5_method_4_code, 3, (some .int), p_X3_doGap),
  (⟨"EvenSteps$Ring", "<init>", "(III)V"⟩, prog_6_method_1_code, 4, none, p_X4_init),
  (⟨"EvenSteps$Ring", "kindNumber", "()I"⟩, prog_6_method_2_code, 1, (some .int), p_X4_kindNumber),
  (⟨"EvenSteps$Ring", "doGap", "(ILEvenSteps$Trace;)I"⟩, prog_6_method_3_code, 3, (some .int), p_X4_doGap),
  (⟨"EvenSteps$Ring", "doTell", "(ILEvenSteps$Trace;)I"⟩, prog_6_method_4_code, 3, (some .int), p_X4_doTell),
  (⟨"EvenSteps$Row", "<init>", "(I)V"⟩, prog_7_method_1_code, 2, none, p_X5_init),
  (⟨"EvenSteps$Row", "doGo", "(ILEvenSteps$Trace;)I"⟩, prog_7_method_5_code, 3, (some .int), p_X5_doGo),
  (⟨"EvenSteps$Row", "doGap", "(ILEvenSteps$Trace;)I"⟩, prog_7_method_6_code, 3, (some .int), p_X5_doGap),
  (⟨"EvenSteps$Row", "doGrow", "(ILEvenSteps$Trace;)I"⟩, prog_7_method_7_code, 3, (some .int), p_X5_doGrow),
  (⟨"EvenSteps$Row", "doTell", "(ILEvenSteps$Trace;)I"⟩, prog_7_method_8_code, 3, (some .int), p_X5_doTell),
  (⟨"EvenSteps$Sheet", "<init>", "()V"⟩, prog_8_method_1_code, 1, none, p_X6_init),
  (⟨"EvenSteps$Sheet", "isMissing", "()Z"⟩, prog_8_method_2_code, 1, (some .boolean), p_X6_isMissing),
  (⟨"EvenSteps$Sheet", "begin", "(II)V"⟩, prog_8_method_3_code, 4, none, p_X6_begin),
  (⟨"EvenSteps$Sheet", "tellsSteps", "(I)Z"⟩, prog_8_method_4_code, 3, (some .boolean), p_X6_tellsSteps),
  (⟨"EvenSteps$Sheet", "copyOf", "(I)[I"⟩, prog_8_method_5_code, 4, (some (.array .int)), p_X6_copyOf),
  (⟨"EvenSteps$Slope", "<init>", "(JJJJ)V"⟩, prog_9_method_1_code, 13, none, p_X7_init),
  (⟨"EvenSteps$Slope", "squareIn", "(J)J"⟩, prog_9_method_2_code, 4, (some .long), p_X7_squareIn),
  (⟨"EvenSteps$Slope", "findQuotients", "(JJ[I)I"⟩, prog_9_method_3_code, 14, (some .int), p_X7_findQuotients),
  (⟨"EvenSteps$Slope", "findRootQuotients", "(JJJJ[I)I"⟩, prog_9_method_4_code, 20, (some .int), p_X7_findRootQuotients),
  (⟨"EvenSteps$Slope", "findLines", "([II[I)I"⟩, prog_9_method_5_code, 11, (some .int), p_X7_findLines),
  (⟨"EvenSteps$Slope", "wholeOf", "(JJJ)J"⟩, prog_9_method_6_code, 15, (some .long), p_X7_wholeOf),
  (⟨"EvenSteps$Slope", "signOfSum", "(JJ)I"⟩, prog_9_method_7_code, 5, (some .int), p_X7_signOfSum),
  (⟨"EvenSteps$Slope", "sharesWith", "(LEvenSteps$Slope;)Z"⟩, prog_9_method_8_code, 6, (some .boolean), p_X7_sharesWith),
  (⟨"EvenSteps$Slope", "hasUnlikePoints", "(I)Z"⟩, prog_9_method_9_code, 2, (some .boolean), p_X7_hasUnlikePoints),
  (⟨"EvenSteps$Stretch", "<init>", "()V"⟩, prog_10_method_1_code, 1, none, p_X8_init),
  (⟨"EvenSteps$Stretch", "read", "(LEvenSteps$Row;II)Z"⟩, prog_10_method_2_code, 6, (some .boolean), p_X8_read),
  (⟨"EvenSteps$Stretch", "sumFrom", "(II)I"⟩, prog_10_method_3_code, 3, (some .int), p_X8_sumFrom),
  (⟨"EvenSteps$Stretch", "compareSums", "(I)V"⟩, prog_10_method_4_code, 4, none, p_X8_compareSums),
  (⟨"EvenSteps$Stretch", "findClash", "()Z"⟩, prog_10_method_5_code, 2, (some .boolean), p_X8_findClash),
  (⟨"EvenSteps$Stretch", "findClashPlaces", "(I)Z"⟩, prog_10_method_6_code, 4, (some .boolean), p_X8_findClashPlaces),
  (⟨"EvenSteps$Stretch", "findRange", "()Z"⟩, prog_10_method_7_code, 2, (some .boolean), p_X8_findRange),
  (⟨"EvenSteps$Told", "<init>", "(I[I)V"⟩, prog_11_method_1_code, 3, none, p_X9_init),
  (⟨"EvenSteps$Told", "kindNumber", "()I"⟩, prog_11_method_2_code, 1, (some .int), p_X9_kindNumber),
  (⟨"EvenSteps$Told", "stepAt", "(I)I"⟩, prog_11_method_3_code, 2, (some .int), p_X9_stepAt),
  (⟨"EvenSteps$Told", "sumOf", "(I)I"⟩, prog_11_method_4_code, 4, (some .int), p_X9_sumOf),
  (⟨"EvenSteps$Trace", "<init>", "()V"⟩, prog_12_method_1_code, 1, none, p_X10_init),
  (⟨"EvenSteps$Trace", "add", "(I)V"⟩, prog_12_method_2_code, 2, none, p_X10_add),
  (⟨"EvenSteps", "<init>", "()V"⟩, prog_1_method_1_code, 2, none, p_X11_init),
  (⟨"EvenSteps", "slope", "(IIII)I"⟩, prog_1_method_2_code, 5, (some .int), p_X11_slope),
  (⟨"EvenSteps", "row", "(III)I"⟩, prog_1_method_3_code, 5, (some .int), p_X11_row),
  (⟨"EvenSteps", "even", "(III)I"⟩, prog_1_method_4_code, 5, (some .int), p_X11_even),
  (⟨"EvenSteps", "ring", "(II)I"⟩, prog_1_method_5_code, 3, (some .int), p_X11_ring),
  (⟨"EvenSteps", "cut", "(IIIII)I"⟩, prog_1_method_6_code, 7, (some .int), p_X11_cut),
  (⟨"EvenSteps", "points", "(I)I"⟩, prog_1_method_7_code, 3, (some .int), p_X11_points),
  (⟨"EvenSteps", "drop", "(I)I"⟩, prog_1_method_8_code, 2, (some .int), p_X11_drop),
  (⟨"EvenSteps", "dropRow", "()I"⟩, prog_1_method_9_code, 1, (some .int), p_X11_dropRow),
  (⟨"EvenSteps", "dropSlope", "()I"⟩, prog_1_method_10_code, 1, (some .int), p_X11_dropSlope),
  (⟨"EvenSteps", "isInUse", "(I)Z"⟩, prog_1_method_11_code, 5, (some .boolean), p_X11_isInUse),
  (⟨"EvenSteps", "count", "(I)I"⟩, prog_1_method_12_code, 2, (some .int), p_X11_count),
  (⟨"EvenSteps", "whole", "(II)I"⟩, prog_1_method_13_code, 4, (some .int), p_X11_whole),
  (⟨"EvenSteps", "against", "(III)I"⟩, prog_1_method_14_code, 5, (some .int), p_X11_against),
  (⟨"EvenSteps", "quotient", "(II)I"⟩, prog_1_method_15_code, 4, (some .int), p_X11_quotient),
  (⟨"EvenSteps", "nearer", "(II)I"⟩, prog_1_method_16_code, 4, (some .int), p_X11_nearer),
  (⟨"EvenSteps", "within", "(IIII)I"⟩, prog_1_method_17_code, 9, (some .int), p_X11_within),
  (⟨"EvenSteps", "digit", "(III)I"⟩, prog_1_method_18_code, 7, (some .int), p_X11_digit),
  (⟨"EvenSteps", "line", "(II)I"⟩, prog_1_method_19_code, 3, (some .int), p_X11_line),
  (⟨"EvenSteps", "lineAt", "(LEvenSteps$Slope;I)I"⟩, prog_1_method_20_code, 2, (some .int), p_X11_lineAt),
  (⟨"EvenSteps", "share", "(II)I"⟩, prog_1_method_21_code, 5, (some .int), p_X11_share),
  (⟨"EvenSteps", "unshared", "(LEvenSteps$Slope;LEvenSteps$Slope;)I"⟩, prog_1_method_22_code, 7, (some .int), p_X11_unshared),
  (⟨"EvenSteps", "tellings", "(LEvenSteps$Slope;II)I"⟩, prog_1_method_23_code, 4, (some .int), p_X11_tellings),
  (⟨"EvenSteps", "kind", "(I)I"⟩, prog_1_method_24_code, 3, (some .int), p_X11_kind),
  (⟨"EvenSteps", "step", "(II)I"⟩, prog_1_method_25_code, 4, (some .int), p_X11_step),
  (⟨"EvenSteps", "sum", "(II)I"⟩, prog_1_method_26_code, 4, (some .int), p_X11_sum),
  (⟨"EvenSteps", "isEven", "(III)I"⟩, prog_1_method_27_code, 4, (some .int), p_X11_isEven),
  (⟨"EvenSteps", "clash", "(IIII)I"⟩, prog_1_method_28_code, 5, (some .int), p_X11_clash),
  (⟨"EvenSteps", "range", "(IIII)I"⟩, prog_1_method_29_code, 9, (some .int), p_X11_range),
  (⟨"EvenSteps", "parts", "(III)I"⟩, prog_1_method_30_code, 8, (some .int), p_X11_parts),
  (⟨"EvenSteps", "readPartSteps", "(LEvenSteps$Row;)I"⟩, prog_1_method_31_code, 4, (some .int), p_X11_readPartSteps),
  (⟨"EvenSteps", "findUnlike", "(II)I"⟩, prog_1_method_32_code, 5, (some .int), p_X11_findUnlike),
  (⟨"EvenSteps", "isAmongParts", "(III)Z"⟩, prog_1_method_33_code, 5, (some .boolean), p_X11_isAmongParts),
  (⟨"EvenSteps", "readsAlike", "(III)Z"⟩, prog_1_method_34_code, 5, (some .boolean), p_X11_readsAlike),
  (⟨"EvenSteps", "readsAlikeBackward", "(II)Z"⟩, prog_1_method_35_code, 4, (some .boolean), p_X11_readsAlikeBackward),
  (⟨"EvenSteps", "gaps", "(II)I"⟩, prog_1_method_36_code, 3, (some .int), p_X11_gaps),
  (⟨"EvenSteps", "gap", "(IIII)I"⟩, prog_1_method_37_code, 5, (some .int), p_X11_gap),
  (⟨"EvenSteps", "follows", "(III)I"⟩, prog_1_method_38_code, 4, (some .int), p_X11_follows),
  (⟨"EvenSteps", "layPoints", "(II)Z"⟩, prog_1_method_39_code, 5, (some .boolean), p_X11_layPoints),
  (⟨"EvenSteps", "spread", "(II)J"⟩, prog_1_method_40_code, 16, (some .long), p_X11_spread),
  (⟨"EvenSteps", "repeated", "(JII)J"⟩, prog_1_method_41_code, 7, (some .long), p_X11_repeated),
  (⟨"EvenSteps", "turning", "(JI)I"⟩, prog_1_method_42_code, 12, (some .int), p_X11_turning),
  (⟨"EvenSteps", "backward", "(JI)J"⟩, prog_1_method_43_code, 6, (some .long), p_X11_backward),
  (⟨"EvenSteps", "wins", "(II)I"⟩, prog_1_method_44_code, 3, (some .int), p_X11_wins),
  (⟨"EvenSteps", "takes", "(II)I"⟩, prog_1_method_45_code, 6, (some .int), p_X11_takes),
  (⟨"EvenSteps", "isHeap", "(I)Z"⟩, prog_1_method_46_code, 1, (some .boolean), p_X11_isHeap),
  (⟨"EvenSteps", "goldenWhole", "(I)I"⟩, prog_1_method_47_code, 1, (some .int), p_X11_goldenWhole),
  (⟨"EvenSteps", "lostBeside", "(I)I"⟩, prog_1_method_48_code, 2, (some .int), p_X11_lostBeside),
  (⟨"EvenSteps", "act", "(III)I"⟩, prog_1_method_49_code, 5, (some .int), p_X11_act),
  (⟨"EvenSteps", "trace", "(I)I"⟩, prog_1_method_50_code, 2, (some .int), p_X11_trace),
  (⟨"EvenSteps", "sheet", "(III)I"⟩, prog_1_method_51_code, 4, (some .int), p_X11_sheet),
  (⟨"EvenSteps", "cell", "(III)I"⟩, prog_1_method_52_code, 5, (some .int), p_X11_cell),
  (⟨"EvenSteps", "forge", "(III)I"⟩, prog_1_method_53_code, 4, (some .int), p_X11_forge),
  (⟨"EvenSteps", "forgeKind", "(LEvenSteps$Row;I)I"⟩, prog_1_method_54_code, 3, (some .int), p_X11_forgeKind),
  (⟨"EvenSteps", "isOfKind", "(LEvenSteps$Row;I)Z"⟩, prog_1_method_55_code, 2, (some .boolean), p_X11_isOfKind),
  (⟨"EvenSteps", "forgeNumber", "(LEvenSteps$Sheet;I)I"⟩, prog_1_method_56_code, 3, (some .int), p_X11_forgeNumber),
  (⟨"EvenSteps", "forgeCopy", "(LEvenSteps$Sheet;I)I"⟩, prog_1_method_57_code, 5, (some .int), p_X11_forgeCopy),
  (⟨"EvenSteps", "forgePut", "(LEvenSteps$Row;)I"⟩, prog_1_method_58_code, 2, (some .int), p_X11_forgePut),
  (⟨"EvenSteps", "status", "()I"⟩, prog_1_method_59_code, 1, (some .int), p_X11_status),
  (⟨"EvenSteps", "refuse", "(I)I"⟩, prog_1_method_60_code, 2, (some .int), p_X11_refuse),
  (⟨"EvenSteps", "done", "(I)I"⟩, prog_1_method_61_code, 2, (some .int), p_X11_done),
  (⟨"EvenSteps", "keep", "(LEvenSteps$Row;)I"⟩, prog_1_method_62_code, 2, (some .int), p_X11_keep),
  (⟨"EvenSteps", "slopeAt", "(I)LEvenSteps$Slope;"⟩, prog_1_method_63_code, 2, (some (.object "EvenSteps$Slope")), p_X11_slopeAt),
  (⟨"EvenSteps", "rowAt", "(I)LEvenSteps$Row;"⟩, prog_1_method_64_code, 2, (some (.object "EvenSteps$Row")), p_X11_rowAt),
  (⟨"EvenSteps", "isBits", "(II)Z"⟩, prog_1_method_65_code, 2, (some .boolean), p_X11_isBits),
  (⟨"EvenSteps", "isSquare", "(I)Z"⟩, prog_1_method_66_code, 3, (some .boolean), p_X11_isSquare),
  (⟨"EvenSteps", "rootOf", "(J)J"⟩, prog_1_method_67_code, 7, (some .long), p_X11_rootOf),
  (⟨"EvenSteps", "signOf", "(JJJ)I"⟩, prog_1_method_68_code, 10, (some .int), p_X11_signOf),
  (⟨"EvenSteps", "commonOf", "(JJ)J"⟩, prog_1_method_69_code, 11, (some .long), p_X11_commonOf),
  (⟨"EvenStepsModel", "<init>", "()V"⟩, prog_14_method_1_code, 2, none, p_X12_init),
  (⟨"EvenStepsModel", "refused", "(I)I"⟩, prog_14_method_2_code, 2, (some .int), p_X12_refused),
  (⟨"EvenStepsModel", "fine", "(I)I"⟩, prog_14_method_3_code, 2, (some .int), p_X12_fine),
  (⟨"EvenStepsModel", "in", "(III)Z"⟩, prog_14_method_4_code, 3, (some .boolean), p_X12_in),
  (⟨"EvenStepsModel", "sign", "(JJJ)I"⟩, prog_14_method_5_code, 10, (some .int), p_X12_sign),
  (⟨"EvenStepsModel", "side", "(IJJJ)I"⟩, prog_14_method_6_code, 8, (some .int), p_X12_side),
  (⟨"EvenStepsModel", "wholeOf", "(II)I"⟩, prog_14_method_7_code, 6, (some .int), p_X12_wholeOf),
  (⟨"EvenStepsModel", "isSlope", "(I)Z"⟩, prog_14_method_8_code, 2, (some .boolean), p_X12_isSlope),
  (⟨"EvenStepsModel", "isSquare", "(I)Z"⟩, prog_14_method_9_code, 2, (some .boolean), p_X12_isSquare),
  (⟨"EvenStepsModel", "slope", "(IIII)I"⟩, prog_14_method_10_code, 6, (some .int), p_X12_slope),
  (⟨"EvenStepsModel", "whole", "(II)I"⟩, prog_14_method_11_code, 3, (some .int), p_X12_whole),
  (⟨"EvenStepsModel", "against", "(III)I"⟩, prog_14_method_12_code, 4, (some .int), p_X12_against),
  (⟨"EvenStepsModel", "common", "(JJ)J"⟩, prog_14_method_13_code, 10, (some .long), p_X12_common),
  (⟨"EvenStepsModel", "floorOf", "(JJJJ)J"⟩, prog_14_method_14_code, 14, (some .long), p_X12_floorOf),
  (⟨"EvenStepsModel", "quotientsOf", "(I)V"⟩, prog_14_method_15_code, 23, none, p_X12_quotientsOf),
  (⟨"EvenStepsModel", "quotient", "(II)I"⟩, prog_14_method_16_code, 3, (some .int), p_X12_quotient),
  (⟨"EvenStepsModel", "linesOf", "(I)V"⟩, prog_14_method_17_code, 9, none, p_X12_linesOf),
  (⟨"EvenStepsModel", "line", "(II)I"⟩, prog_14_method_18_code, 3, (some .int), p_X12_line),
  (⟨"EvenStepsModel", "digit", "(III)I"⟩, prog_14_method_19_code, 7, (some .int), p_X12_digit),
  (⟨"EvenStepsModel", "nearersOf", "(I)V"⟩, prog_14_method_20_code, 16, none, p_X12_nearersOf),
  (⟨"EvenStepsModel", "nearer", "(II)I"⟩, prog_14_method_21_code, 3, (some .int), p_X12_nearer),
  (⟨"EvenStepsModel", "within", "(IIII)I"⟩, prog_14_method_22_code, 8, (some .int), p_X12_within),
  (⟨"EvenStepsModel", "isRow", "(I)Z"⟩, prog_14_method_23_code, 2, (some .boolean), p_X12_isRow),
  (⟨"EvenStepsModel", "row", "(III)I"⟩, prog_14_method_24_code, 5, (some .int), p_X12_row),
  (⟨"EvenStepsModel", "writes", "(JJJJJJ)V"⟩, prog_14_method_25_code, 21, none, p_X12_writes),
  (⟨"EvenStepsModel", "even", "(III)I"⟩, prog_14_method_26_code, 4, (some .int), p_X12_even),
  (⟨"EvenStepsModel", "ring", "(II)I"⟩, prog_14_method_27_code, 3, (some .int), p_X12_ring),
  (⟨"EvenStepsModel", "cut", "(IIIII)I"⟩, prog_14_method_28_code, 11, (some .int), p_X12_cut),
  (⟨"EvenStepsModel", "points", "(I)I"⟩, prog_14_method_29_code, 2, (some .int), p_X12_points),
  (⟨"EvenStepsModel", "drop", "(I)I"⟩, prog_14_method_30_code, 3, (some .int), p_X12_drop),
  (⟨"EvenStepsModel", "count", "(I)I"⟩, prog_14_method_31_code, 2, (some .int), p_X12_count),
  (⟨"EvenStepsModel", "kind", "(I)I"⟩, prog_14_method_32_code, 2, (some .int), p_X12_kind),
  (⟨"EvenStepsModel", "step", "(II)I"⟩, prog_14_method_33_code, 3, (some .int), p_X12_step),
  (⟨"EvenStepsModel", "sum", "(II)I"⟩, prog_14_method_34_code, 5, (some .int), p_X12_sum),
  (⟨"EvenStepsModel", "isStretch", "(III)Z"⟩, prog_14_method_35_code, 4, (some .boolean), p_X12_isStretch),
  (⟨"EvenStepsModel", "sumOf", "(III)I"⟩, prog_14_method_36_code, 6, (some .int), p_X12_sumOf),
  (⟨"EvenStepsModel", "clashOf", "(III)I"⟩, prog_14_method_37_code, 8, (some .int), p_X12_clashOf),
  (⟨"EvenStepsModel", "isEven", "(III)I"⟩, prog_14_method_38_code, 4, (some .int), p_X12_isEven),
  (⟨"EvenStepsModel", "clash", "(IIII)I"⟩, prog_14_method_39_code, 6, (some .int), p_X12_clash),
  (⟨"EvenStepsModel", "range", "(IIII)I"⟩, prog_14_method_40_code, 13, (some .int), p_X12_range),
  (⟨"EvenStepsModel", "areAlike", "(IIII)Z"⟩, prog_14_method_41_code, 6, (some .boolean), p_X12_areAlike),
  (⟨"EvenStepsModel", "isBackward", "(III)Z"⟩, prog_14_method_42_code, 5, (some .boolean), p_X12_isBackward),
  (⟨"EvenStepsModel", "parts", "(III)I"⟩, prog_14_method_43_code, 8, (some .int), p_X12_parts),
  (⟨"EvenStepsModel", "arePoints", "(II)Z"⟩, prog_14_method_44_code, 4, (some .boolean), p_X12_arePoints),
  (⟨"EvenStepsModel", "rings", "(II)V"⟩, prog_14_method_45_code, 5, none, p_X12_rings),
  (⟨"EvenStepsModel", "isAhead", "(III)Z"⟩, prog_14_method_46_code, 8, (some .boolean), p_X12_isAhead),
  (⟨"EvenStepsModel", "against", "(IIIII)I"⟩, prog_14_method_47_code, 10, (some .int), p_X12_against_),
  (⟨"EvenStepsModel", "gapsOf", "(II)V"⟩, prog_14_method_48_code, 7, none, p_X12_gapsOf),
  (⟨"EvenStepsModel", "gaps", "(II)I"⟩, prog_14_method_49_code, 3, (some .int), p_X12_gaps),
  (⟨"EvenStepsModel", "gap", "(IIII)I"⟩, prog_14_method_50_code, 5, (some .int), p_X12_gap),
  (⟨"EvenStepsModel", "follows", "(III)I"⟩, prog_14_method_51_code, 5, (some .int), p_X12_follows),
  (⟨"EvenStepsModel", "areOne", "(II)Z"⟩, prog_14_method_52_code, 17, (some .boolean), p_X12_areOne),
  (⟨"EvenStepsModel", "share", "(II)I"⟩, prog_14_method_53_code, 7, (some .int), p_X12_share),
  (⟨"EvenStepsModel", "spread", "(II)J"⟩, prog_14_method_54_code, 15, (some .long), p_X12_spread),
  (⟨"EvenStepsModel", "turning", "(JI)I"⟩, prog_14_method_55_code, 7, (some .int), p_X12_turning),
  (⟨"EvenStepsModel", "pairs", "()V"⟩, prog_14_method_56_code, 3, none, p_X12_pairs),
  (⟨"EvenStepsModel", "wins", "(II)I"⟩, prog_14_method_57_code, 3, (some .int), p_X12_wins),
  (⟨"EvenStepsModel", "takes", "(II)I"⟩, prog_14_method_58_code, 4, (some .int), p_X12_takes),
  (⟨"EvenStepsModel", "ran", "(I)V"⟩, prog_14_method_59_code, 2, none, p_X12_ran),
  (⟨"EvenStepsModel", "stepOne", "(I)I"⟩, prog_14_method_60_code, 2, (some .int), p_X12_stepOne),
  (⟨"EvenStepsModel", "goRow", "(II)I"⟩, prog_14_method_61_code, 3, (some .int), p_X12_goRow),
  (⟨"EvenStepsModel", "goEven", "(II)I"⟩, prog_14_method_62_code, 3, (some .int), p_X12_goEven),
  (⟨"EvenStepsModel", "go", "(II)I"⟩, prog_14_method_63_code, 3, (some .int), p_X12_go),
  (⟨"EvenStepsModel", "gapRow", "(II)I"⟩, prog_14_method_64_code, 3, (some .int), p_X12_gapRow),
  (⟨"EvenStepsModel", "gapNow", "(II)I"⟩, prog_14_method_65_code, 4, (some .int), p_X12_gapNow),
  (⟨"EvenStepsModel", "growRow", "(II)I"⟩, prog_14_method_66_code, 3, (some .int), p_X12_growRow),
  (⟨"EvenStepsModel", "growEven", "(II)I"⟩, prog_14_method_67_code, 3, (some .int), p_X12_growEven),
  (⟨"EvenStepsModel", "grow", "(II)I"⟩, prog_14_method_68_code, 3, (some .int), p_X12_grow),
  (⟨"EvenStepsModel", "tellRow", "(II)I"⟩, prog_14_method_69_code, 4, (some .int), p_X12_tellRow),
  (⟨"EvenStepsModel", "tell", "(II)I"⟩, prog_14_method_70_code, 4, (some .int), p_X12_tell),
  (⟨"EvenStepsModel", "act", "(III)I"⟩, prog_14_method_71_code, 4, (some .int), p_X12_act),
  (⟨"EvenStepsModel", "trace", "(I)I"⟩, prog_14_method_72_code, 2, (some .int), p_X12_trace),
  (⟨"EvenStepsModel", "sheet", "(III)I"⟩, prog_14_method_73_code, 5, (some .int), p_X12_sheet),
  (⟨"EvenStepsModel", "cell", "(III)I"⟩, prog_14_method_74_code, 4, (some .int), p_X12_cell),
  (⟨"EvenStepsModel", "modulo", "(II)I"⟩, prog_14_method_75_code, 3, (some .int), p_X12_modulo),
  (⟨"EvenStepsModel", "isUnder", "(II)Z"⟩, prog_14_method_76_code, 2, (some .boolean), p_X12_isUnder),
  (⟨"EvenStepsModel", "forge", "(III)I"⟩, prog_14_method_77_code, 8, (some .int), p_X12_forge),
  (⟨"EvenStepsModel", "status", "()I"⟩, prog_14_method_78_code, 1, (some .int), p_X12_status),
  (⟨"java/lang/Integer", "numberOfLeadingZeros", "(I)I"⟩, prog_15_method_47_code, 2, (some .int), p_J6_numberOfLeadingZeros_0f7a4),
  (⟨"java/lang/Long", "numberOfLeadingZeros", "(J)I"⟩, prog_16_method_48_code, 3, (some .int), p_J13_numberOfLeadingZeros_95d88),
  (⟨"java/lang/Long", "bitCount", "(J)I"⟩, prog_16_method_50_code, 2, (some .int), p_J13_bitCount_95d88),
  (⟨"java/lang/Math", "floorDiv", "(II)I"⟩, prog_17_method_47_code, 3, (some .int), p_J9_floorDiv_7cf53),
  (⟨"java/lang/Math", "floorDiv", "(JJ)J"⟩, prog_17_method_49_code, 6, (some .long), p_J9_floorDiv_f86c9),
  (⟨"java/lang/Math", "floorMod", "(II)I"⟩, prog_17_method_50_code, 3, (some .int), p_J9_floorMod_7cf53),
  (⟨"java/lang/Math", "floorMod", "(JJ)J"⟩, prog_17_method_52_code, 6, (some .long), p_J9_floorMod_f86c9),
  (⟨"java/lang/Math", "abs", "(I)I"⟩, prog_17_method_59_code, 1, (some .int), p_J9_abs_0f7a4),
  (⟨"java/lang/Math", "abs", "(J)J"⟩, prog_17_method_61_code, 2, (some .long), p_J9_abs_067f4),
  (⟨"java/lang/Math", "max", "(II)I"⟩, prog_17_method_65_code, 2, (some .int), p_J9_max_7cf53),
  (⟨"java/lang/Math", "max", "(JJ)J"⟩, prog_17_method_66_code, 4, (some .long), p_J9_max_f86c9),
  (⟨"java/lang/Math", "min", "(II)I"⟩, prog_17_method_69_code, 2, (some .int), p_J9_min_7cf53),
  (⟨"EvenStepsLaw", "law", "([I)Z"⟩, code, 4, (some .boolean), p_L_law)]
/-! the methods and their blocks as functions. Written by wip/whole/dec.py. -/
noncomputable def f_X0_init (sc : en_S) (d : Nat) (a0 : Nat) (z : en_H) : Option en_R := en_cl sc en_mt d 0 [.ref a0] z
noncomputable def f_X0_lay (sc : en_S) (d : Nat) (a0 : Nat) (a1 : Nat) (a2 : Int32) (z : en_H) : Option en_R := en_cl sc en_mt d 1 [.ref a0, .ref a1, .int a2] z
noncomputable def b_X0_lay_1 (sc : en_S) (d : Nat) (l0 : Nat) (l1 : Nat) (l2 : Int32) (l3 : Int32) (z : en_H) : Option en_R := en_bk sc (en_cl sc en_mt d) p_X0_lay 1 [some (.ref l0), some (.ref l1), some (.int l2), some (.int l3), none] [] z
noncomputable def b_X0_lay_3 (sc : en_S) (d : Nat) (l0 : Nat) (l2 : Int32) (l3 : Int32) (z : en_H) : Option en_R := en_bk sc (en_cl sc en_mt d) p_X0_lay 3 [some (.ref l0), none, some (.int l2), some (.int l3), none] [] z
noncomputable def b_X0_lay_7 (sc : en_S) (d : Nat) (l0 : Nat) (l2 : Int32) (l3 : Int32) (l4 : Int32) (z : en_H) : Option en_R := en_bk sc (en_cl sc en_mt d) p_X0_lay 7 [some (.ref l0), none, some (.int l2), some (.int l3), some (.int l4)] [] z
noncomputable def b_X0_lay_9 (sc : en_S) (d : Nat) (l0 : Nat) (l2 : Int32) (l3 : Int32) (l4 : Int32) (s0 : Int32) (s1 : Int32) (s2 : Nat) (z : en_H) : Option en_R := en_bk sc (en_cl sc en_mt d) p_X0_lay 9 [some (.ref l0), none, some (.int l2), some (.int l3), some (.int l4)] [.int s0, .int s1, .ref s2] z
noncomputable def f_X0_lay_N1 (sc : en_S) (d : Nat) (a0 : Nat) (a2 : Int32) (z : en_H) : Option en_R := en_cl sc en_mt d 1 [.ref a0, .null, .int a2] z
noncomputable def b_X0_lay_1_1 (sc : en_S) (d : Nat) (l0 : Nat) (l2 : Int32) (l3 : Int32) (z : en_H) : Option en_R := en_bk sc (en_cl sc en_mt d) p_X0_lay 1 [some (.ref l0), some (.null), some (.int l2), some (.int l3), none] [] z
noncomputable def f_X0_place (sc : en_S) (d : Nat) (a0 : Nat) (a1 : Int32) (z : en_H) : Option en_R := en_cl sc en_mt d 2 [.ref a0, .int a1] z
noncomputable def b_X0_place_1 (sc : en_S) (d : Nat) (l0 : Nat) (l1 : Int32) (l2 : Int32) (z : en_H) : Option en_R := en_bk sc (en_cl sc en_mt d) p_X0_place 1 [some (.ref l0), some (.int l1), some (.int l2)] [] z
noncomputable def f_X0_isAhead (sc : en_S) (d : Nat) (a0 : Nat) (a1 : Int32) (a2 : Int32) (z : en_H) : Option en_R := en_cl sc en_mt d 3 [.ref a0, .int a1, .int a2] z
noncomputable def f_X0_addGap (sc : en_S) (d : Nat) (a0 : Nat) (a1 : Int32) (a2 : Int32) (z : en_H) : Option en_R := en_cl sc en_mt d 4 [.ref a0, .int a1, .int a2] z
noncomputable def b_X0_addGap_1 (sc : en_S) (d : Nat) (l0 : Nat) (l1 : Int32) (l2 : Int32) (l3 : Int32) (z : en_H) : Option en_R := en_bk sc (en_cl sc en_mt d) p_X0_addGap 1 [some (.ref l0), some (.int l1), some (.int l2), some (.int l3)] [] z
noncomputable def b_X0_addGap_2 (sc : en_S) (d : Nat) (l0 : Nat) (l1 : Int32) (l2 : Int32) (l3 : Int32) (z : en_H) : Option en_R := en_bk sc (en_cl sc en_mt d) p_X0_addGap 2 [some (.ref l0), some (.int l1), some (.int l2), some (.int l3)] [] z
noncomputable def b_X0_addGap_3 (sc : en_S) (d : Nat) (l0 : Nat) (l1 : Int32) (l2 : Int32) (l3 : Int32) (z : en_H) : Option en_R := en_bk sc (en_cl sc en_mt d) p_X0_addGap 3 [some (.ref l0), some (.int l1), some (.int l2), some (.int l3)] [] z
noncomputable def f_X0_signBeside (sc : en_S) (d : Nat) (a0 : Nat) (a1 : Int32) (a2 : Int32) (a3 : Int32) (z : en_H) : Option en_R := en_cl sc en_mt d 5 [.ref a0, .int a1, .int a2, .int a3] z
noncomputable def f_X0_insertSort (sc : en_S) (d : Nat) (a0 : Nat) (a1 : Int32) (a2 : Int32) (a3 : Int32) (z : en_H) : Option en_R := en_cl sc en_mt d 6 [.ref a0, .int a1, .int a2, .int a3] z
noncomputable def b_X0_insertSort_1 (sc : en_S) (d : Nat) (l0 : Nat) (l1 : Int32) (l2 : Int32) (l3 : Int32) (l4 : Int32) (z : en_H) : Option en_R := en_bk sc (en_cl sc en_mt d) p_X0_insertSort 1 [some (.ref l0), some (.int l1), some (.int l2), some (.int l3), some (.int l4)] [] z
noncomputable def f_X1_init (sc : en_S) (d : Nat) (a0 : Nat) (a1 : Int32) (a2 : Nat) (a3 : Int32) (a4 : Int32) (a5 : Int32) (a6 : Int32) (z : en_H) : Option en_R := en_cl sc en_mt d 7 [.ref a0, .int a1, .ref a2, .int a3, .int a4, .int a5, .int a6] z
noncomputable def f_X1_kindNumber (sc : en_S) (d : Nat) (a0 : Nat) (z : en_H) : Option en_R := en_cl sc en_mt d 8 [.ref a0] z
noncomputable def f_X1_stepAt (sc : en_S) (d : Nat) (a0 : Nat) (a1 : Int32) (z : en_H) : Option en_R := en_cl sc en_mt d 9 [.ref a0, .int a1] z
noncomputable def f_X1_sumOf (sc : en_S) (d : Nat) (a0 : Nat) (a1 : Int32) (z : en_H) : Option en_R := en_cl sc en_mt d 10 [.ref a0, .int a1] z
noncomputable def b_X1_sumOf_2 (sc : en_S) (d : Nat) (l0 : Nat) (l1 : Int32) (l2 : Int32) (l3 : Int32) (z : en_H) : Option en_R := en_bk sc (en_cl sc en_mt d) p_X1_sumOf 2 [some (.ref l0), some (.int l1), some (.int l2), some (.int l3)] [] z
noncomputable def f_X1_learn (sc : en_S) (d : Nat) (a0 : Nat) (a1 : Int32) (z : en_H) : Option en_R := en_cl sc en_mt d 11 [.ref a0, .int a1] z
noncomputable def b_X1_learn_1 (sc : en_S) (d : Nat) (l0 : Nat) (l1 : Int32) (l2 : Int32) (z : en_H) : Option en_R := en_bk sc (en_cl sc en_mt d) p_X1_learn 1 [some (.ref l0), some (.int l1), some (.int l2), none] [] z
noncomputable def f_X1_put (sc : en_S) (d : Nat) (a0 : Nat) (a1 : Int32) (a2 : Int32) (z : en_H) : Option en_R := en_cl sc en_mt d 12 [.ref a0, .int a1, .int a2] z
noncomputable def b_X1_put_1 (sc : en_S) (d : Nat) (l0 : Nat) (l1 : Int32) (l2 : Int32) (l3 : Int32) (z : en_H) : Option en_R := en_bk sc (en_cl sc en_mt d) p_X1_put 1 [some (.ref l0), some (.int l1), some (.int l2), some (.int l3)] [] z
noncomputable def f_X1_doGo (sc : en_S) (d : Nat) (a0 : Nat) (a1 : Int32) (a2 : Nat) (z : en_H) : Option en_R := en_cl sc en_mt d 13 [.ref a0, .int a1, .ref a2] z
noncomputable def f_X1_doGrow (sc : en_S) (d : Nat) (a0 : Nat) (a1 : Int32) (a2 : Nat) (z : en_H) : Option en_R := en_cl sc en_mt d 14 [.ref a0, .int a1, .ref a2] z
noncomputable def f_X2_init (sc : en_S) (d : Nat) (a0 : Nat) (a1 : Int32) (a2 : Nat) (a3 : Int32) (a4 : Int32) (a5 : Int32) (z : en_H) : Option en_R := en_cl sc en_mt d 15 [.ref a0, .int a1, .ref a2, .int a3, .int a4, .int a5] z
noncomputable def f_X2_kindNumber (sc : en_S) (d : Nat) (a0 : Nat) (z : en_H) : Option en_R := en_cl sc en_mt d 16 [.ref a0] z
noncomputable def f_X2_stepAt (sc : en_S) (d : Nat) (a0 : Nat) (a1 : Int32) (z : en_H) : Option en_R := en_cl sc en_mt d 17 [.ref a0, .int a1] z
noncomputable def f_X2_sumOf (sc : en_S) (d : Nat) (a0 : Nat) (a1 : Int32) (z : en_H) : Option en_R := en_cl sc en_mt d 18 [.ref a0, .int a1] z
noncomputable def f_X2_doGo (sc : en_S) (d : Nat) (a0 : Nat) (a1 : Int32) (a2 : Nat) (z : en_H) : Option en_R := en_cl sc en_mt d 19 [.ref a0, .int a1, .ref a2] z
noncomputable def f_X2_doGrow (sc : en_S) (d : Nat) (a0 : Nat) (a1 : Int32) (a2 : Nat) (z : en_H) : Option en_R := en_cl sc en_mt d 20 [.ref a0, .int a1, .ref a2] z
noncomputable def f_X3_init (sc : en_S) (d : Nat) (a0 : Nat) (a1 : Int32) (a2 : Nat) (a3 : Int32) (z : en_H) : Option en_R := en_cl sc en_mt d 21 [.ref a0, .int a1, .ref a2, .int a3] z
noncomputable def f_X3_kindNumber (sc : en_S) (d : Nat) (a0 : Nat) (z : en_H) : Option en_R := en_cl sc en_mt d 22 [.ref a0] z
noncomputable def f_X3_doGrow (sc : en_S) (d : Nat) (a0 : Nat) (a1 : Int32) (a2 : Nat) (z : en_H) : Option en_R := en_cl sc en_mt d 23 [.ref a0, .int a1, .ref a2] z
noncomputable def f_X3_doGap (sc : en_S) (d : Nat) (a0 : Nat) (a1 : Int32) (a2 : Nat) (z : en_H) : Option en_R := en_cl sc en_mt d 24 [.ref a0, .int a1, .ref a2] z
noncomputable def f_X4_init (sc : en_S) (d : Nat) (a0 : Nat) (a1 : Int32) (a2 : Int32) (a3 : Int32) (z : en_H) : Option en_R := en_cl sc en_mt d 25 [.ref a0, .int a1, .int a2, .int a3] z
noncomputable def f_X4_kindNumber (sc : en_S) (d : Nat) (a0 : Nat) (z : en_H) : Option en_R := en_cl sc en_mt d 26 [.ref a0] z
noncomputable def f_X4_doGap (sc : en_S) (d : Nat) (a0 : Nat) (a1 : Int32) (a2 : Nat) (z : en_H) : Option en_R := en_cl sc en_mt d 27 [.ref a0, .int a1, .ref a2] z
noncomputable def f_X4_doTell (sc : en_S) (d : Nat) (a0 : Nat) (a1 : Int32) (a2 : Nat) (z : en_H) : Option en_R := en_cl sc en_mt d 28 [.ref a0, .int a1, .ref a2] z
noncomputable def f_X5_init (sc : en_S) (d : Nat) (a0 : Nat) (a1 : Int32) (z : en_H) : Option en_R := en_cl sc en_mt d 29 [.ref a0, .int a1] z
noncomputable def f_X5_doGo (sc : en_S) (d : Nat) (a0 : Nat) (a1 : Int32) (a2 : Nat) (z : en_H) : Option en_R := en_cl sc en_mt d 30 [.ref a0, .int a1, .ref a2] z
noncomputable def f_X5_doGap (sc : en_S) (d : Nat) (a0 : Nat) (a1 : Int32) (a2 : Nat) (z : en_H) : Option en_R := en_cl sc en_mt d 31 [.ref a0, .int a1, .ref a2] z
noncomputable def f_X5_doGrow (sc : en_S) (d : Nat) (a0 : Nat) (a1 : Int32) (a2 : Nat) (z : en_H) : Option en_R := en_cl sc en_mt d 32 [.ref a0, .int a1, .ref a2] z
noncomputable def f_X5_doTell (sc : en_S) (d : Nat) (a0 : Nat) (a1 : Int32) (a2 : Nat) (z : en_H) : Option en_R := en_cl sc en_mt d 33 [.ref a0, .int a1, .ref a2] z
noncomputable def f_X6_init (sc : en_S) (d : Nat) (a0 : Nat) (z : en_H) : Option en_R := en_cl sc en_mt d 34 [.ref a0] z
noncomputable def f_X6_isMissing (sc : en_S) (d : Nat) (a0 : Nat) (z : en_H) : Option en_R := en_cl sc en_mt d 35 [.ref a0] z
noncomputable def f_X6_begin (sc : en_S) (d : Nat) (a0 : Nat) (a1 : Int32) (a2 : Int32) (z : en_H) : Option en_R := en_cl sc en_mt d 36 [.ref a0, .int a1, .int a2] z
noncomputable def b_X6_begin_1 (sc : en_S) (d : Nat) (l0 : Nat) (l3 : Int32) (z : en_H) : Option en_R := en_bk sc (en_cl sc en_mt d) p_X6_begin 1 [some (.ref l0), none, none, some (.int l3)] [] z
noncomputable def f_X6_tellsSteps (sc : en_S) (d : Nat) (a0 : Nat) (a1 : Int32) (z : en_H) : Option en_R := en_cl sc en_mt d 37 [.ref a0, .int a1] z
noncomputable def b_X6_tellsSteps_1 (sc : en_S) (d : Nat) (l0 : Nat) (l1 : Int32) (l2 : Int32) (z : en_H) : Option en_R := en_bk sc (en_cl sc en_mt d) p_X6_tellsSteps 1 [some (.ref l0), some (.int l1), some (.int l2)] [] z
noncomputable def f_X6_copyOf (sc : en_S) (d : Nat) (a0 : Nat) (a1 : Int32) (z : en_H) : Option en_R := en_cl sc en_mt d 38 [.ref a0, .int a1] z
noncomputable def b_X6_copyOf_1 (sc : en_S) (d : Nat) (l0 : Nat) (l1 : Int32) (l2 : Nat) (l3 : Int32) (z : en_H) : Option en_R := en_bk sc (en_cl sc en_mt d) p_X6_copyOf 1 [some (.ref l0), some (.int l1), some (.ref l2), some (.int l3)] [] z
noncomputable def f_X7_init (sc : en_S) (d : Nat) (a0 : Nat) (a1 : Int64) (a2 : Int64) (a3 : Int64) (a4 : Int64) (z : en_H) : Option en_R := en_cl sc en_mt d 39 [.ref a0, .long a1, .long a2, .long a3, .long a4] z
noncomputable def b_X7_init_2 (sc : en_S) (d : Nat) (l0 : Nat) (l1 : Int64) (l3 : Int64) (l5 : Int64) (l7 : Int64) (s0 : Int64) (z : en_H) : Option en_R := en_bk sc (en_cl sc en_mt d) p_X7_init 2 [some (.ref l0), some (.long l1), none, some (.long l3), none, some (.long l5), none, some (.long l7), none, none, none, none, none] [.long s0] z
noncomputable def b_X7_init_4 (sc : en_S) (d : Nat) (l0 : Nat) (l3 : Int64) (s0 : Int64) (s1 : Nat) (z : en_H) : Option en_R := en_bk sc (en_cl sc en_mt d) p_X7_init 4 [some (.ref l0), none, none, some (.long l3), none, none, none, none, none, none, none, none, none] [.long s0, .ref s1] z
noncomputable def b_X7_init_6 (sc : en_S) (d : Nat) (l0 : Nat) (s0 : Int32) (s1 : Nat) (z : en_H) : Option en_R := en_bk sc (en_cl sc en_mt d) p_X7_init 6 [some (.ref l0), none, none, none, none, none, none, none, none, none, none, none, none] [.int s0, .ref s1] z
noncomputable def f_X7_squareIn (sc : en_S) (d : Nat) (a0 : Int64) (z : en_H) : Option en_R := en_cl sc en_mt d 40 [.long a0] z
noncomputable def b_X7_squareIn_1 (sc : en_S) (d : Nat) (l0 : Int64) (l2 : Int64) (z : en_H) : Option en_R := en_bk sc (en_cl sc en_mt d) p_X7_squareIn 1 [some (.long l0), none, some (.long l2), none] [] z
noncomputable def f_X7_findQuotients (sc : en_S) (d : Nat) (a0 : Int64) (a1 : Int64) (a2 : Nat) (z : en_H) : Option en_R := en_cl sc en_mt d 41 [.long a0, .long a1, .ref a2] z
noncomputable def b_X7_findQuotients_1 (sc : en_S) (d : Nat) (l4 : Nat) (l5 : Int32) (l6 : Int64) (l8 : Int64) (z : en_H) : Option en_R := en_bk sc (en_cl sc en_mt d) p_X7_findQuotients 1 [none, none, none, none, some (.ref l4), some (.int l5), some (.long l6), none, some (.long l8), none, none, none, none, none] [] z
noncomputable def f_X7_findQuotients_N2 (sc : en_S) (d : Nat) (a0 : Int64) (a1 : Int64) (z : en_H) : Option en_R := en_cl sc en_mt d 41 [.long a0, .long a1, .null] z
noncomputable def b_X7_findQuotients_1_1 (sc : en_S) (d : Nat) (l5 : Int32) (l6 : Int64) (l8 : Int64) (z : en_H) : Option en_R := en_bk sc (en_cl sc en_mt d) p_X7_findQuotients 1 [none, none, none, none, some (.null), some (.int l5), some (.long l6), none, some (.long l8), none, none, none, none, none] [] z
noncomputable def f_X7_findRootQuotients (sc : en_S) (d : Nat) (a0 : Int64) (a1 : Int64) (a2 : Int64) (a3 : Int64) (a4 : Nat) (z : en_H) : Option en_R := en_cl sc en_mt d 42 [.long a0, .long a1, .long a2, .long a3, .ref a4] z
noncomputable def b_X7_findRootQuotients_2 (sc : en_S) (d : Nat) (l2 : Int64) (l4 : Int64) (l8 : Nat) (l9 : Int64) (l11 : Int64) (s0 : Int64) (z : en_H) : Option en_R := en_bk sc (en_cl sc en_mt d) p_X7_findRootQuotients 2 [none, none, some (.long l2), none, some (.long l4), none, none, none, some (.ref l8), some (.long l9), none, some (.long l11), none, none, none, none, none, none, none, none] [.long s0] z
noncomputable def b_X7_findRootQuotients_5 (sc : en_S) (d : Nat) (l8 : Nat) (l9 : Int64) (l11 : Int64) (l13 : Int64) (l15 : Int64) (l17 : Int32) (z : en_H) : Option en_R := en_bk sc (en_cl sc en_mt d) p_X7_findRootQuotients 5 [none, none, none, none, none, none, none, none, some (.ref l8), some (.long l9), none, some (.long l11), none, some (.long l13), none, some (.long l15), none, some (.int l17), none, none] [] z
noncomputable def b_X7_findRootQuotients_7 (sc : en_S) (d : Nat) (l8 : Nat) (l9 : Int64) (l11 : Int64) (l13 : Int64) (l15 : Int64) (l17 : Int32) (s0 : Int64) (z : en_H) : Option en_R := en_bk sc (en_cl sc en_mt d) p_X7_findRootQuotients 7 [none, none, none, none, none, none, none, none, some (.ref l8), some (.long l9), none, some (.long l11), none, some (.long l13), none, some (.long l15), none, some (.int l17), none, none] [.long s0] z
noncomputable def f_X7_findRootQuotients_N4 (sc : en_S) (d : Nat) (a0 : Int64) (a1 : Int64) (a2 : Int64) (a3 : Int64) (z : en_H) : Option en_R := en_cl sc en_mt d 42 [.long a0, .long a1, .long a2, .long a3, .null] z
noncomputable def b_X7_findRootQuotients_2_1 (sc : en_S) (d : Nat) (l2 : Int64) (l4 : Int64) (l9 : Int64) (l11 : Int64) (s0 : Int64) (z : en_H) : Option en_R := en_bk sc (en_cl sc en_mt d) p_X7_findRootQuotients 2 [none, none, some (.long l2), none, some (.long l4), none, none, none, some (.null), some (.long l9), none, some (.long l11), none, none, none, none, none, none, none, none] [.long s0] z
noncomputable def b_X7_findRootQuotients_5_1 (sc : en_S) (d : Nat) (l9 : Int64) (l11 : Int64) (l13 : Int64) (l15 : Int64) (l17 : Int32) (z : en_H) : Option en_R := en_bk sc (en_cl sc en_mt d) p_X7_findRootQuotients 5 [none, none, none, none, none, none, none, none, some (.null), some (.long l9), none, some (.long l11), none, some (.long l13), none, some (.long l15), none, some (.int l17), none, none] [] z
noncomputable def f_X7_findLines (sc : en_S) (d : Nat) (a0 : Nat) (a1 : Int32) (a2 : Nat) (z : en_H) : Option en_R := en_cl sc en_mt d 43 [.ref a0, .int a1, .ref a2] z
noncomputable def b_X7_findLines_1 (sc : en_S) (d : Nat) (l0 : Nat) (l1 : Int32) (l2 : Nat) (l3 : Int64) (l5 : Int64) (l7 : Int32) (l8 : Int32) (z : en_H) : Option en_R := en_bk sc (en_cl sc en_mt d) p_X7_findLines 1 [some (.ref l0), some (.int l1), some (.ref l2), some (.long l3), none, some (.long l5), none, some (.int l7), some (.int l8), none, none] [] z
noncomputable def f_X7_findLines_N0 (sc : en_S) (d : Nat) (a1 : Int32) (a2 : Nat) (z : en_H) : Option en_R := en_cl sc en_mt d 43 [.null, .int a1, .ref a2] z
noncomputable def b_X7_findLines_1_1 (sc : en_S) (d : Nat) (l1 : Int32) (l2 : Nat) (l3 : Int64) (l5 : Int64) (l7 : Int32) (l8 : Int32) (z : en_H) : Option en_R := en_bk sc (en_cl sc en_mt d) p_X7_findLines 1 [some (.null), some (.int l1), some (.ref l2), some (.long l3), none, some (.long l5), none, some (.int l7), some (.int l8), none, none] [] z
noncomputable def f_X7_findLines_N0_N2 (sc : en_S) (d : Nat) (a1 : Int32) (z : en_H) : Option en_R := en_cl sc en_mt d 43 [.null, .int a1, .null] z
noncomputable def f_X7_findLines_N2 (sc : en_S) (d : Nat) (a0 : Nat) (a1 : Int32) (z : en_H) : Option en_R := en_cl sc en_mt d 43 [.ref a0, .int a1, .null] z
noncomputable def f_X7_wholeOf (sc : en_S) (d : Nat) (a0 : Nat) (a1 : Int64) (a2 : Int64) (a3 : Int64) (z : en_H) : Option en_R := en_cl sc en_mt d 44 [.ref a0, .long a1, .long a2, .long a3] z
noncomputable def b_X7_wholeOf_2 (sc : en_S) (d : Nat) (l0 : Nat) (l5 : Int64) (s0 : Int64) (s1 : Int64) (z : en_H) : Option en_R := en_bk sc (en_cl sc en_mt d) p_X7_wholeOf 2 [some (.ref l0), none, none, none, none, some (.long l5), none, none, none, none, none, none, none, none, none] [.long s0, .long s1] z
noncomputable def f_X7_signOfSum (sc : en_S) (d : Nat) (a0 : Nat) (a1 : Int64) (a2 : Int64) (z : en_H) : Option en_R := en_cl sc en_mt d 45 [.ref a0, .long a1, .long a2] z
noncomputable def f_X7_sharesWith (sc : en_S) (d : Nat) (a0 : Nat) (a1 : Nat) (z : en_H) : Option en_R := en_cl sc en_mt d 46 [.ref a0, .ref a1] z
noncomputable def f_X7_hasUnlikePoints (sc : en_S) (d : Nat) (a0 : Nat) (a1 : Int32) (z : en_H) : Option en_R := en_cl sc en_mt d 47 [.ref a0, .int a1] z
noncomputable def f_X8_init (sc : en_S) (d : Nat) (a0 : Nat) (z : en_H) : Option en_R := en_cl sc en_mt d 48 [.ref a0] z
noncomputable def f_X8_read (sc : en_S) (d : Nat) (a0 : Nat) (a1 : Nat) (a2 : Int32) (a3 : Int32) (z : en_H) : Option en_R := en_cl sc en_mt d 49 [.ref a0, .ref a1, .int a2, .int a3] z
noncomputable def b_X8_read_3 (sc : en_S) (d : Nat) (l0 : Nat) (l1 : Nat) (l2 : Int32) (l3 : Int32) (l4 : Int32) (z : en_H) : Option en_R := en_bk sc (en_cl sc en_mt d) p_X8_read 3 [some (.ref l0), some (.ref l1), some (.int l2), some (.int l3), some (.int l4), none] [] z
noncomputable def f_X8_read_N1 (sc : en_S) (d : Nat) (a0 : Nat) (a2 : Int32) (a3 : Int32) (z : en_H) : Option en_R := en_cl sc en_mt d 49 [.ref a0, .null, .int a2, .int a3] z
noncomputable def f_X8_sumFrom (sc : en_S) (d : Nat) (a0 : Nat) (a1 : Int32) (a2 : Int32) (z : en_H) : Option en_R := en_cl sc en_mt d 50 [.ref a0, .int a1, .int a2] z
noncomputable def f_X8_compareSums (sc : en_S) (d : Nat) (a0 : Nat) (a1 : Int32) (z : en_H) : Option en_R := en_cl sc en_mt d 51 [.ref a0, .int a1] z
noncomputable def b_X8_compareSums_1 (sc : en_S) (d : Nat) (l0 : Nat) (l1 : Int32) (l2 : Int32) (z : en_H) : Option en_R := en_bk sc (en_cl sc en_mt d) p_X8_compareSums 1 [some (.ref l0), some (.int l1), some (.int l2), none] [] z
noncomputable def f_X8_findClash (sc : en_S) (d : Nat) (a0 : Nat) (z : en_H) : Option en_R := en_cl sc en_mt d 52 [.ref a0] z
noncomputable def b_X8_findClash_1 (sc : en_S) (d : Nat) (l0 : Nat) (l1 : Int32) (z : en_H) : Option en_R := en_bk sc (en_cl sc en_mt d) p_X8_findClash 1 [some (.ref l0), some (.int l1)] [] z
noncomputable def f_X8_findClashPlaces (sc : en_S) (d : Nat) (a0 : Nat) (a1 : Int32) (z : en_H) : Option en_R := en_cl sc en_mt d 53 [.ref a0, .int a1] z
noncomputable def b_X8_findClashPlaces_1 (sc : en_S) (d : Nat) (l0 : Nat) (l1 : Int32) (l2 : Int32) (z : en_H) : Option en_R := en_bk sc (en_cl sc en_mt d) p_X8_findClashPlaces 1 [some (.ref l0), some (.int l1), some (.int l2), none] [] z
noncomputable def b_X8_findClashPlaces_2 (sc : en_S) (d : Nat) (l0 : Nat) (l1 : Int32) (l2 : Int32) (l3 : Int32) (z : en_H) : Option en_R := en_bk sc (en_cl sc en_mt d) p_X8_findClashPlaces 2 [some (.ref l0), some (.int l1), some (.int l2), some (.int l3)] [] z
noncomputable def f_X8_findRange (sc : en_S) (d : Nat) (a0 : Nat) (z : en_H) : Option en_R := en_cl sc en_mt d 54 [.ref a0] z
noncomputable def b_X8_findRange_1 (sc : en_S) (d : Nat) (l0 : Nat) (l1 : Int32) (z : en_H) : Option en_R := en_bk sc (en_cl sc en_mt d) p_X8_findRange 1 [some (.ref l0), some (.int l1)] [] z
noncomputable def b_X8_findRange_3 (sc : en_S) (d : Nat) (l0 : Nat) (l1 : Int32) (z : en_H) : Option en_R := en_bk sc (en_cl sc en_mt d) p_X8_findRange 3 [some (.ref l0), some (.int l1)] [] z
noncomputable def b_X8_findRange_4 (sc : en_S) (d : Nat) (l0 : Nat) (l1 : Int32) (z : en_H) : Option en_R := en_bk sc (en_cl sc en_mt d) p_X8_findRange 4 [some (.ref l0), some (.int l1)] [] z
noncomputable def f_X9_init (sc : en_S) (d : Nat) (a0 : Nat) (a1 : Int32) (a2 : Nat) (z : en_H) : Option en_R := en_cl sc en_mt d 55 [.ref a0, .int a1, .ref a2] z
noncomputable def f_X9_init_N2 (sc : en_S) (d : Nat) (a0 : Nat) (a1 : Int32) (z : en_H) : Option en_R := en_cl sc en_mt d 55 [.ref a0, .int a1, .null] z
noncomputable def f_X9_kindNumber (sc : en_S) (d : Nat) (a0 : Nat) (z : en_H) : Option en_R := en_cl sc en_mt d 56 [.ref a0] z
noncomputable def f_X9_stepAt (sc : en_S) (d : Nat) (a0 : Nat) (a1 : Int32) (z : en_H) : Option en_R := en_cl sc en_mt d 57 [.ref a0, .int a1] z
noncomputable def f_X9_sumOf (sc : en_S) (d : Nat) (a0 : Nat) (a1 : Int32) (z : en_H) : Option en_R := en_cl sc en_mt d 58 [.ref a0, .int a1] z
noncomputable def b_X9_sumOf_2 (sc : en_S) (d : Nat) (l0 : Nat) (l1 : Int32) (l2 : Int32) (l3 : Int32) (z : en_H) : Option en_R := en_bk sc (en_cl sc en_mt d) p_X9_sumOf 2 [some (.ref l0), some (.int l1), some (.int l2), some (.int l3)] [] z
noncomputable def f_X10_init (sc : en_S) (d : Nat) (a0 : Nat) (z : en_H) : Option en_R := en_cl sc en_mt d 59 [.ref a0] z
noncomputable def f_X10_add (sc : en_S) (d : Nat) (a0 : Nat) (a1 : Int32) (z : en_H) : Option en_R := en_cl sc en_mt d 60 [.ref a0, .int a1] z
noncomputable def f_X11_init (sc : en_S) (d : Nat) (a0 : Nat) (z : en_H) : Option en_R := en_cl sc en_mt d 61 [.ref a0] z
noncomputable def b_X11_init_1 (sc : en_S) (d : Nat) (l0 : Nat) (l1 : Int32) (z : en_H) : Option en_R := en_bk sc (en_cl sc en_mt d) p_X11_init 1 [some (.ref l0), some (.int l1)] [] z
noncomputable def f_X11_slope (sc : en_S) (d : Nat) (a0 : Nat) (a1 : Int32) (a2 : Int32) (a3 : Int32) (a4 : Int32) (z : en_H) : Option en_R := en_cl sc en_mt d 62 [.ref a0, .int a1, .int a2, .int a3, .int a4] z
noncomputable def b_X11_slope_4 (sc : en_S) (d : Nat) (l0 : Nat) (l1 : Int32) (l2 : Int32) (l3 : Int32) (l4 : Int32) (z : en_H) : Option en_R := en_bk sc (en_cl sc en_mt d) p_X11_slope 4 [some (.ref l0), some (.int l1), some (.int l2), some (.int l3), some (.int l4)] [] z
noncomputable def f_X11_row (sc : en_S) (d : Nat) (a0 : Nat) (a1 : Int32) (a2 : Int32) (a3 : Int32) (z : en_H) : Option en_R := en_cl sc en_mt d 63 [.ref a0, .int a1, .int a2, .int a3] z
noncomputable def f_X11_even (sc : en_S) (d : Nat) (a0 : Nat) (a1 : Int32) (a2 : Int32) (a3 : Int32) (z : en_H) : Option en_R := en_cl sc en_mt d 64 [.ref a0, .int a1, .int a2, .int a3] z
noncomputable def f_X11_ring (sc : en_S) (d : Nat) (a0 : Nat) (a1 : Int32) (a2 : Int32) (z : en_H) : Option en_R := en_cl sc en_mt d 65 [.ref a0, .int a1, .int a2] z
noncomputable def f_X11_cut (sc : en_S) (d : Nat) (a0 : Nat) (a1 : Int32) (a2 : Int32) (a3 : Int32) (a4 : Int32) (a5 : Int32) (z : en_H) : Option en_R := en_cl sc en_mt d 66 [.ref a0, .int a1, .int a2, .int a3, .int a4, .int a5] z
noncomputable def f_X11_points (sc : en_S) (d : Nat) (a0 : Nat) (a1 : Int32) (z : en_H) : Option en_R := en_cl sc en_mt d 67 [.ref a0, .int a1] z
noncomputable def f_X11_drop (sc : en_S) (d : Nat) (a0 : Nat) (a1 : Int32) (z : en_H) : Option en_R := en_cl sc en_mt d 68 [.ref a0, .int a1] z
noncomputable def f_X11_dropRow (sc : en_S) (d : Nat) (a0 : Nat) (z : en_H) : Option en_R := en_cl sc en_mt d 69 [.ref a0] z
noncomputable def f_X11_dropSlope (sc : en_S) (d : Nat) (a0 : Nat) (z : en_H) : Option en_R := en_cl sc en_mt d 70 [.ref a0] z
noncomputable def f_X11_isInUse (sc : en_S) (d : Nat) (a0 : Nat) (a1 : Int32) (z : en_H) : Option en_R := en_cl sc en_mt d 71 [.ref a0, .int a1] z
noncomputable def b_X11_isInUse_1 (sc : en_S) (d : Nat) (l0 : Nat) (l1 : Int32) (l2 : Int32) (z : en_H) : Option en_R := en_bk sc (en_cl sc en_mt d) p_X11_isInUse 1 [some (.ref l0), some (.int l1), some (.int l2), none, none] [] z
noncomputable def f_X11_count (sc : en_S) (d : Nat) (a0 : Nat) (a1 : Int32) (z : en_H) : Option en_R := en_cl sc en_mt d 72 [.ref a0, .int a1] z
noncomputable def f_X11_whole (sc : en_S) (d : Nat) (a0 : Nat) (a1 : Int32) (a2 : Int32) (z : en_H) : Option en_R := en_cl sc en_mt d 73 [.ref a0, .int a1, .int a2] z
noncomputable def f_X11_against (sc : en_S) (d : Nat) (a0 : Nat) (a1 : Int32) (a2 : Int32) (a3 : Int32) (z : en_H) : Option en_R := en_cl sc en_mt d 74 [.ref a0, .int a1, .int a2, .int a3] z
noncomputable def f_X11_quotient (sc : en_S) (d : Nat) (a0 : Nat) (a1 : Int32) (a2 : Int32) (z : en_H) : Option en_R := en_cl sc en_mt d 75 [.ref a0, .int a1, .int a2] z
noncomputable def f_X11_nearer (sc : en_S) (d : Nat) (a0 : Nat) (a1 : Int32) (a2 : Int32) (z : en_H) : Option en_R := en_cl sc en_mt d 76 [.ref a0, .int a1, .int a2] z
noncomputable def f_X11_within (sc : en_S) (d : Nat) (a0 : Nat) (a1 : Int32) (a2 : Int32) (a3 : Int32) (a4 : Int32) (z : en_H) : Option en_R := en_cl sc en_mt d 77 [.ref a0, .int a1, .int a2, .int a3, .int a4] z
noncomputable def b_X11_within_3 (sc : en_S) (d : Nat) (l2 : Int32) (l3 : Int32) (l4 : Int32) (l5 : Nat) (l6 : Int32) (z : en_H) : Option en_R := en_bk sc (en_cl sc en_mt d) p_X11_within 3 [none, none, some (.int l2), some (.int l3), some (.int l4), some (.ref l5), some (.int l6), none, none] [] z
noncomputable def f_X11_digit (sc : en_S) (d : Nat) (a0 : Nat) (a1 : Int32) (a2 : Int32) (a3 : Int32) (z : en_H) : Option en_R := en_cl sc en_mt d 78 [.ref a0, .int a1, .int a2, .int a3] z
noncomputable def b_X11_digit_3 (sc : en_S) (d : Nat) (l3 : Int32) (l4 : Nat) (l5 : Int32) (l6 : Int32) (z : en_H) : Option en_R := en_bk sc (en_cl sc en_mt d) p_X11_digit 3 [none, none, none, some (.int l3), some (.ref l4), some (.int l5), some (.int l6)] [] z
noncomputable def f_X11_line (sc : en_S) (d : Nat) (a0 : Nat) (a1 : Int32) (a2 : Int32) (z : en_H) : Option en_R := en_cl sc en_mt d 79 [.ref a0, .int a1, .int a2] z
noncomputable def f_X11_lineAt (sc : en_S) (d : Nat) (a0 : Nat) (a1 : Int32) (z : en_H) : Option en_R := en_cl sc en_mt d 80 [.ref a0, .int a1] z
noncomputable def f_X11_lineAt_N0 (sc : en_S) (d : Nat) (a1 : Int32) (z : en_H) : Option en_R := en_cl sc en_mt d 80 [.null, .int a1] z
noncomputable def f_X11_share (sc : en_S) (d : Nat) (a0 : Nat) (a1 : Int32) (a2 : Int32) (z : en_H) : Option en_R := en_cl sc en_mt d 81 [.ref a0, .int a1, .int a2] z
noncomputable def f_X11_unshared (sc : en_S) (d : Nat) (a0 : Nat) (a1 : Nat) (z : en_H) : Option en_R := en_cl sc en_mt d 82 [.ref a0, .ref a1] z
noncomputable def b_X11_unshared_3 (sc : en_S) (d : Nat) (l0 : Nat) (l1 : Nat) (l2 : Int32) (l3 : Int32) (l4 : Int32) (z : en_H) : Option en_R := en_bk sc (en_cl sc en_mt d) p_X11_unshared 3 [some (.ref l0), some (.ref l1), some (.int l2), some (.int l3), some (.int l4), none, none] [] z
noncomputable def b_X11_unshared_4 (sc : en_S) (d : Nat) (l0 : Nat) (l1 : Nat) (l2 : Int32) (l3 : Int32) (l4 : Int32) (l5 : Int32) (l6 : Int32) (z : en_H) : Option en_R := en_bk sc (en_cl sc en_mt d) p_X11_unshared 4 [some (.ref l0), some (.ref l1), some (.int l2), some (.int l3), some (.int l4), some (.int l5), some (.int l6)] [] z
noncomputable def f_X11_tellings (sc : en_S) (d : Nat) (a0 : Nat) (a1 : Int32) (a2 : Int32) (z : en_H) : Option en_R := en_cl sc en_mt d 83 [.ref a0, .int a1, .int a2] z
noncomputable def b_X11_tellings_1 (sc : en_S) (d : Nat) (l0 : Nat) (l1 : Int32) (l2 : Int32) (l3 : Int32) (z : en_H) : Option en_R := en_bk sc (en_cl sc en_mt d) p_X11_tellings 1 [some (.ref l0), some (.int l1), some (.int l2), some (.int l3)] [] z
noncomputable def f_X11_kind (sc : en_S) (d : Nat) (a0 : Nat) (a1 : Int32) (z : en_H) : Option en_R := en_cl sc en_mt d 84 [.ref a0, .int a1] z
noncomputable def f_X11_step (sc : en_S) (d : Nat) (a0 : Nat) (a1 : Int32) (a2 : Int32) (z : en_H) : Option en_R := en_cl sc en_mt d 85 [.ref a0, .int a1, .int a2] z
noncomputable def f_X11_sum (sc : en_S) (d : Nat) (a0 : Nat) (a1 : Int32) (a2 : Int32) (z : en_H) : Option en_R := en_cl sc en_mt d 86 [.ref a0, .int a1, .int a2] z
noncomputable def f_X11_isEven (sc : en_S) (d : Nat) (a0 : Nat) (a1 : Int32) (a2 : Int32) (a3 : Int32) (z : en_H) : Option en_R := en_cl sc en_mt d 87 [.ref a0, .int a1, .int a2, .int a3] z
noncomputable def f_X11_clash (sc : en_S) (d : Nat) (a0 : Nat) (a1 : Int32) (a2 : Int32) (a3 : Int32) (a4 : Int32) (z : en_H) : Option en_R := en_cl sc en_mt d 88 [.ref a0, .int a1, .int a2, .int a3, .int a4] z
noncomputable def f_X11_range (sc : en_S) (d : Nat) (a0 : Nat) (a1 : Int32) (a2 : Int32) (a3 : Int32) (a4 : Int32) (z : en_H) : Option en_R := en_cl sc en_mt d 89 [.ref a0, .int a1, .int a2, .int a3, .int a4] z
noncomputable def b_X11_range_4 (sc : en_S) (d : Nat) (l0 : Nat) (l4 : Int32) (s0 : Int32) (z : en_H) : Option en_R := en_bk sc (en_cl sc en_mt d) p_X11_range 4 [some (.ref l0), none, none, none, some (.int l4), none, none, none, none] [.int s0] z
noncomputable def b_X11_range_6 (sc : en_S) (d : Nat) (l4 : Int32) (l5 : Int32) (s0 : Int32) (z : en_H) : Option en_R := en_bk sc (en_cl sc en_mt d) p_X11_range 6 [none, none, none, none, some (.int l4), some (.int l5), none, none, none] [.int s0] z
noncomputable def f_X11_parts (sc : en_S) (d : Nat) (a0 : Nat) (a1 : Int32) (a2 : Int32) (a3 : Int32) (z : en_H) : Option en_R := en_cl sc en_mt d 90 [.ref a0, .int a1, .int a2, .int a3] z
noncomputable def b_X11_parts_4 (sc : en_S) (d : Nat) (l0 : Nat) (l2 : Int32) (l5 : Int32) (l6 : Int32) (l7 : Int32) (z : en_H) : Option en_R := en_bk sc (en_cl sc en_mt d) p_X11_parts 4 [some (.ref l0), none, some (.int l2), none, none, some (.int l5), some (.int l6), some (.int l7)] [] z
noncomputable def f_X11_readPartSteps (sc : en_S) (d : Nat) (a0 : Nat) (a1 : Nat) (z : en_H) : Option en_R := en_cl sc en_mt d 91 [.ref a0, .ref a1] z
noncomputable def b_X11_readPartSteps_1 (sc : en_S) (d : Nat) (l0 : Nat) (l1 : Nat) (l2 : Int32) (z : en_H) : Option en_R := en_bk sc (en_cl sc en_mt d) p_X11_readPartSteps 1 [some (.ref l0), some (.ref l1), some (.int l2), none] [] z
noncomputable def f_X11_findUnlike (sc : en_S) (d : Nat) (a0 : Nat) (a1 : Int32) (a2 : Int32) (z : en_H) : Option en_R := en_cl sc en_mt d 92 [.ref a0, .int a1, .int a2] z
noncomputable def b_X11_findUnlike_1 (sc : en_S) (d : Nat) (l0 : Nat) (l1 : Int32) (l2 : Int32) (l3 : Int32) (l4 : Int32) (z : en_H) : Option en_R := en_bk sc (en_cl sc en_mt d) p_X11_findUnlike 1 [some (.ref l0), some (.int l1), some (.int l2), some (.int l3), some (.int l4)] [] z
noncomputable def f_X11_isAmongParts (sc : en_S) (d : Nat) (a0 : Nat) (a1 : Int32) (a2 : Int32) (a3 : Int32) (z : en_H) : Option en_R := en_cl sc en_mt d 93 [.ref a0, .int a1, .int a2, .int a3] z
noncomputable def b_X11_isAmongParts_1 (sc : en_S) (d : Nat) (l0 : Nat) (l1 : Int32) (l2 : Int32) (l3 : Int32) (l4 : Int32) (z : en_H) : Option en_R := en_bk sc (en_cl sc en_mt d) p_X11_isAmongParts 1 [some (.ref l0), some (.int l1), some (.int l2), some (.int l3), some (.int l4)] [] z
noncomputable def f_X11_readsAlike (sc : en_S) (d : Nat) (a0 : Nat) (a1 : Int32) (a2 : Int32) (a3 : Int32) (z : en_H) : Option en_R := en_cl sc en_mt d 94 [.ref a0, .int a1, .int a2, .int a3] z
noncomputable def b_X11_readsAlike_1 (sc : en_S) (d : Nat) (l0 : Nat) (l1 : Int32) (l2 : Int32) (l3 : Int32) (l4 : Int32) (z : en_H) : Option en_R := en_bk sc (en_cl sc en_mt d) p_X11_readsAlike 1 [some (.ref l0), some (.int l1), some (.int l2), some (.int l3), some (.int l4)] [] z
noncomputable def f_X11_readsAlikeBackward (sc : en_S) (d : Nat) (a0 : Nat) (a1 : Int32) (a2 : Int32) (z : en_H) : Option en_R := en_cl sc en_mt d 95 [.ref a0, .int a1, .int a2] z
noncomputable def b_X11_readsAlikeBackward_1 (sc : en_S) (d : Nat) (l0 : Nat) (l1 : Int32) (l2 : Int32) (l3 : Int32) (z : en_H) : Option en_R := en_bk sc (en_cl sc en_mt d) p_X11_readsAlikeBackward 1 [some (.ref l0), some (.int l1), some (.int l2), some (.int l3)] [] z
noncomputable def f_X11_gaps (sc : en_S) (d : Nat) (a0 : Nat) (a1 : Int32) (a2 : Int32) (z : en_H) : Option en_R := en_cl sc en_mt d 96 [.ref a0, .int a1, .int a2] z
noncomputable def f_X11_gap (sc : en_S) (d : Nat) (a0 : Nat) (a1 : Int32) (a2 : Int32) (a3 : Int32) (a4 : Int32) (z : en_H) : Option en_R := en_cl sc en_mt d 97 [.ref a0, .int a1, .int a2, .int a3, .int a4] z
noncomputable def f_X11_follows (sc : en_S) (d : Nat) (a0 : Nat) (a1 : Int32) (a2 : Int32) (a3 : Int32) (z : en_H) : Option en_R := en_cl sc en_mt d 98 [.ref a0, .int a1, .int a2, .int a3] z
noncomputable def f_X11_layPoints (sc : en_S) (d : Nat) (a0 : Nat) (a1 : Int32) (a2 : Int32) (z : en_H) : Option en_R := en_cl sc en_mt d 99 [.ref a0, .int a1, .int a2] z
noncomputable def f_X11_spread (sc : en_S) (d : Nat) (a0 : Nat) (a1 : Int32) (a2 : Int32) (z : en_H) : Option en_R := en_cl sc en_mt d 100 [.ref a0, .int a1, .int a2] z
noncomputable def b_X11_spread_3 (sc : en_S) (d : Nat) (l2 : Int32) (l3 : Int64) (l5 : Int64) (l7 : Int32) (l8 : Int32) (l9 : Int32) (l10 : Int32) (l11 : Int32) (z : en_H) : Option en_R := en_bk sc (en_cl sc en_mt d) p_X11_spread 3 [none, none, some (.int l2), some (.long l3), none, some (.long l5), none, some (.int l7), some (.int l8), some (.int l9), some (.int l10), some (.int l11), none, none, none, none] [] z
noncomputable def b_X11_spread_5 (sc : en_S) (d : Nat) (l3 : Int64) (l5 : Int64) (l7 : Int32) (l8 : Int32) (l9 : Int32) (l10 : Int32) (z : en_H) : Option en_R := en_bk sc (en_cl sc en_mt d) p_X11_spread 5 [none, none, none, some (.long l3), none, some (.long l5), none, some (.int l7), some (.int l8), some (.int l9), some (.int l10), none, none, none, none, none] [] z
noncomputable def b_X11_spread_4 (sc : en_S) (d : Nat) (l2 : Int32) (l5 : Int64) (l8 : Int32) (l9 : Int32) (l10 : Int32) (l11 : Int32) (l12 : Int32) (l13 : Int64) (l15 : Int32) (z : en_H) : Option en_R := en_bk sc (en_cl sc en_mt d) p_X11_spread 4 [none, none, some (.int l2), none, none, some (.long l5), none, none, some (.int l8), some (.int l9), some (.int l10), some (.int l11), some (.int l12), some (.long l13), none, some (.int l15)] [] z
noncomputable def f_X11_repeated (sc : en_S) (d : Nat) (a0 : Int64) (a1 : Int32) (a2 : Int32) (z : en_H) : Option en_R := en_cl sc en_mt d 101 [.long a0, .int a1, .int a2] z
noncomputable def b_X11_repeated_1 (sc : en_S) (d : Nat) (l0 : Int64) (l2 : Int32) (l3 : Int32) (l4 : Int64) (l6 : Int32) (z : en_H) : Option en_R := en_bk sc (en_cl sc en_mt d) p_X11_repeated 1 [some (.long l0), none, some (.int l2), some (.int l3), some (.long l4), none, some (.int l6)] [] z
noncomputable def f_X11_turning (sc : en_S) (d : Nat) (a0 : Nat) (a1 : Int64) (a2 : Int32) (z : en_H) : Option en_R := en_cl sc en_mt d 102 [.ref a0, .long a1, .int a2] z
noncomputable def b_X11_turning_3 (sc : en_S) (d : Nat) (l3 : Int32) (l4 : Int64) (l6 : Int64) (l8 : Int64) (l10 : Int32) (l11 : Int32) (z : en_H) : Option en_R := en_bk sc (en_cl sc en_mt d) p_X11_turning 3 [none, none, none, some (.int l3), some (.long l4), none, some (.long l6), none, some (.long l8), none, some (.int l10), some (.int l11)] [] z
noncomputable def f_X11_backward (sc : en_S) (d : Nat) (a0 : Int64) (a1 : Int32) (z : en_H) : Option en_R := en_cl sc en_mt d 103 [.long a0, .int a1] z
noncomputable def b_X11_backward_1 (sc : en_S) (d : Nat) (l0 : Int64) (l2 : Int32) (l3 : Int64) (l5 : Int32) (z : en_H) : Option en_R := en_bk sc (en_cl sc en_mt d) p_X11_backward 1 [some (.long l0), none, some (.int l2), some (.long l3), none, some (.int l5)] [] z
noncomputable def f_X11_wins (sc : en_S) (d : Nat) (a0 : Nat) (a1 : Int32) (a2 : Int32) (z : en_H) : Option en_R := en_cl sc en_mt d 104 [.ref a0, .int a1, .int a2] z
noncomputable def f_X11_takes (sc : en_S) (d : Nat) (a0 : Nat) (a1 : Int32) (a2 : Int32) (z : en_H) : Option en_R := en_cl sc en_mt d 105 [.ref a0, .int a1, .int a2] z
noncomputable def f_X11_isHeap (sc : en_S) (d : Nat) (a0 : Int32) (z : en_H) : Option en_R := en_cl sc en_mt d 106 [.int a0] z
noncomputable def f_X11_goldenWhole (sc : en_S) (d : Nat) (a0 : Int32) (z : en_H) : Option en_R := en_cl sc en_mt d 107 [.int a0] z
noncomputable def f_X11_lostBeside (sc : en_S) (d : Nat) (a0 : Int32) (z : en_H) : Option en_R := en_cl sc en_mt d 108 [.int a0] z
noncomputable def f_X11_act (sc : en_S) (d : Nat) (a0 : Nat) (a1 : Int32) (a2 : Int32) (a3 : Int32) (z : en_H) : Option en_R := en_cl sc en_mt d 109 [.ref a0, .int a1, .int a2, .int a3] z
noncomputable def f_X11_trace (sc : en_S) (d : Nat) (a0 : Nat) (a1 : Int32) (z : en_H) : Option en_R := en_cl sc en_mt d 110 [.ref a0, .int a1] z
noncomputable def f_X11_sheet (sc : en_S) (d : Nat) (a0 : Nat) (a1 : Int32) (a2 : Int32) (a3 : Int32) (z : en_H) : Option en_R := en_cl sc en_mt d 111 [.ref a0, .int a1, .int a2, .int a3] z
noncomputable def f_X11_cell (sc : en_S) (d : Nat) (a0 : Nat) (a1 : Int32) (a2 : Int32) (a3 : Int32) (z : en_H) : Option en_R := en_cl sc en_mt d 112 [.ref a0, .int a1, .int a2, .int a3] z
noncomputable def f_X11_forge (sc : en_S) (d : Nat) (a0 : Nat) (a1 : Int32) (a2 : Int32) (a3 : Int32) (z : en_H) : Option en_R := en_cl sc en_mt d 113 [.ref a0, .int a1, .int a2, .int a3] z
noncomputable def f_X11_forgeKind (sc : en_S) (d : Nat) (a0 : Nat) (a1 : Nat) (a2 : Int32) (z : en_H) : Option en_R := en_cl sc en_mt d 114 [.ref a0, .ref a1, .int a2] z
noncomputable def f_X11_forgeKind_N1 (sc : en_S) (d : Nat) (a0 : Nat) (a2 : Int32) (z : en_H) : Option en_R := en_cl sc en_mt d 114 [.ref a0, .null, .int a2] z
noncomputable def f_X11_isOfKind (sc : en_S) (d : Nat) (a0 : Nat) (a1 : Int32) (z : en_H) : Option en_R := en_cl sc en_mt d 115 [.ref a0, .int a1] z
noncomputable def f_X11_forgeNumber (sc : en_S) (d : Nat) (a0 : Nat) (a1 : Nat) (a2 : Int32) (z : en_H) : Option en_R := en_cl sc en_mt d 116 [.ref a0, .ref a1, .int a2] z
noncomputable def f_X11_forgeNumber_N1 (sc : en_S) (d : Nat) (a0 : Nat) (a2 : Int32) (z : en_H) : Option en_R := en_cl sc en_mt d 116 [.ref a0, .null, .int a2] z
noncomputable def f_X11_forgeCopy (sc : en_S) (d : Nat) (a0 : Nat) (a1 : Nat) (a2 : Int32) (z : en_H) : Option en_R := en_cl sc en_mt d 117 [.ref a0, .ref a1, .int a2] z
noncomputable def b_X11_forgeCopy_5 (sc : en_S) (d : Nat) (l0 : Nat) (l1 : Nat) (l2 : Int32) (l3 : Int32) (l4 : Int32) (z : en_H) : Option en_R := en_bk sc (en_cl sc en_mt d) p_X11_forgeCopy 5 [some (.ref l0), some (.ref l1), some (.int l2), some (.int l3), some (.int l4)] [] z
noncomputable def f_X11_forgeCopy_N1 (sc : en_S) (d : Nat) (a0 : Nat) (a2 : Int32) (z : en_H) : Option en_R := en_cl sc en_mt d 117 [.ref a0, .null, .int a2] z
noncomputable def f_X11_forgePut (sc : en_S) (d : Nat) (a0 : Nat) (a1 : Nat) (z : en_H) : Option en_R := en_cl sc en_mt d 118 [.ref a0, .ref a1] z
noncomputable def f_X11_forgePut_N1 (sc : en_S) (d : Nat) (a0 : Nat) (z : en_H) : Option en_R := en_cl sc en_mt d 118 [.ref a0, .null] z
noncomputable def f_X11_status (sc : en_S) (d : Nat) (a0 : Nat) (z : en_H) : Option en_R := en_cl sc en_mt d 119 [.ref a0] z
noncomputable def f_X11_refuse (sc : en_S) (d : Nat) (a0 : Nat) (a1 : Int32) (z : en_H) : Option en_R := en_cl sc en_mt d 120 [.ref a0, .int a1] z
noncomputable def f_X11_done (sc : en_S) (d : Nat) (a0 : Nat) (a1 : Int32) (z : en_H) : Option en_R := en_cl sc en_mt d 121 [.ref a0, .int a1] z
noncomputable def f_X11_keep (sc : en_S) (d : Nat) (a0 : Nat) (a1 : Nat) (z : en_H) : Option en_R := en_cl sc en_mt d 122 [.ref a0, .ref a1] z
noncomputable def f_X11_slopeAt (sc : en_S) (d : Nat) (a0 : Nat) (a1 : Int32) (z : en_H) : Option en_R := en_cl sc en_mt d 123 [.ref a0, .int a1] z
noncomputable def f_X11_rowAt (sc : en_S) (d : Nat) (a0 : Nat) (a1 : Int32) (z : en_H) : Option en_R := en_cl sc en_mt d 124 [.ref a0, .int a1] z
noncomputable def f_X11_isBits (sc : en_S) (d : Nat) (a0 : Int32) (a1 : Int32) (z : en_H) : Option en_R := en_cl sc en_mt d 125 [.int a0, .int a1] z
noncomputable def f_X11_isSquare (sc : en_S) (d : Nat) (a0 : Int32) (z : en_H) : Option en_R := en_cl sc en_mt d 126 [.int a0] z
noncomputable def f_X11_rootOf (sc : en_S) (d : Nat) (a0 : Int64) (z : en_H) : Option en_R := en_cl sc en_mt d 127 [.long a0] z
noncomputable def b_X11_rootOf_2 (sc : en_S) (d : Nat) (l0 : Int64) (l2 : Int64) (l4 : Int32) (z : en_H) : Option en_R := en_bk sc (en_cl sc en_mt d) p_X11_rootOf 2 [some (.long l0), none, some (.long l2), none, some (.int l4), none, none] [] z
noncomputable def f_X11_signOf (sc : en_S) (d : Nat) (a0 : Int64) (a1 : Int64) (a2 : Int64) (z : en_H) : Option en_R := en_cl sc en_mt d 128 [.long a0, .long a1, .long a2] z
noncomputable def b_X11_signOf_3 (sc : en_S) (d : Nat) (l0 : Int64) (l2 : Int64) (l4 : Int64) (s0 : Int32) (z : en_H) : Option en_R := en_bk sc (en_cl sc en_mt d) p_X11_signOf 3 [some (.long l0), none, some (.long l2), none, some (.long l4), none, none, none, none, none] [.int s0] z
noncomputable def b_X11_signOf_6 (sc : en_S) (d : Nat) (l0 : Int64) (l2 : Int64) (l4 : Int64) (l6 : Int32) (s0 : Int32) (z : en_H) : Option en_R := en_bk sc (en_cl sc en_mt d) p_X11_signOf 6 [some (.long l0), none, some (.long l2), none, some (.long l4), none, some (.int l6), none, none, none] [.int s0] z
noncomputable def f_X11_commonOf (sc : en_S) (d : Nat) (a0 : Int64) (a1 : Int64) (z : en_H) : Option en_R := en_cl sc en_mt d 129 [.long a0, .long a1] z
noncomputable def b_X11_commonOf_1 (sc : en_S) (d : Nat) (l4 : Int64) (l6 : Int64) (l8 : Int32) (z : en_H) : Option en_R := en_bk sc (en_cl sc en_mt d) p_X11_commonOf 1 [none, none, none, none, some (.long l4), none, some (.long l6), none, some (.int l8), none, none] [] z
noncomputable def f_X12_init (sc : en_S) (d : Nat) (a0 : Nat) (z : en_H) : Option en_R := en_cl sc en_mt d 130 [.ref a0] z
noncomputable def b_X12_init_1 (sc : en_S) (d : Nat) (l0 : Nat) (z : en_H) : Option en_R := en_bk sc (en_cl sc en_mt d) p_X12_init 1 [some (.ref l0), none] [] z
noncomputable def b_X12_init_2 (sc : en_S) (d : Nat) (l0 : Nat) (z : en_H) : Option en_R := en_bk sc (en_cl sc en_mt d) p_X12_init 2 [some (.ref l0), none] [] z
noncomputable def b_X12_init_3 (sc : en_S) (d : Nat) (l0 : Nat) (z : en_H) : Option en_R := en_bk sc (en_cl sc en_mt d) p_X12_init 3 [some (.ref l0), none] [] z
noncomputable def b_X12_init_4 (sc : en_S) (d : Nat) (l0 : Nat) (z : en_H) : Option en_R := en_bk sc (en_cl sc en_mt d) p_X12_init 4 [some (.ref l0), none] [] z
noncomputable def b_X12_init_5 (sc : en_S) (d : Nat) (l0 : Nat) (l1 : Int32) (z : en_H) : Option en_R := en_bk sc (en_cl sc en_mt d) p_X12_init 5 [some (.ref l0), some (.int l1)] [] z
noncomputable def f_X12_refused (sc : en_S) (d : Nat) (a0 : Nat) (a1 : Int32) (z : en_H) : Option en_R := en_cl sc en_mt d 131 [.ref a0, .int a1] z
noncomputable def f_X12_fine (sc : en_S) (d : Nat) (a0 : Nat) (a1 : Int32) (z : en_H) : Option en_R := en_cl sc en_mt d 132 [.ref a0, .int a1] z
noncomputable def f_X12_in (sc : en_S) (d : Nat) (a0 : Int32) (a1 : Int32) (a2 : Int32) (z : en_H) : Option en_R := en_cl sc en_mt d 133 [.int a0, .int a1, .int a2] z
noncomputable def f_X12_sign (sc : en_S) (d : Nat) (a0 : Int64) (a1 : Int64) (a2 : Int64) (z : en_H) : Option en_R := en_cl sc en_mt d 134 [.long a0, .long a1, .long a2] z
noncomputable def b_X12_sign_5 (sc : en_S) (d : Nat) (l0 : Int64) (l2 : Int64) (l4 : Int64) (z : en_H) : Option en_R := en_bk sc (en_cl sc en_mt d) p_X12_sign 5 [some (.long l0), none, some (.long l2), none, some (.long l4), none, none, none, none, none] [] z
noncomputable def b_X12_sign_6 (sc : en_S) (d : Nat) (l0 : Int64) (l2 : Int64) (l4 : Int64) (z : en_H) : Option en_R := en_bk sc (en_cl sc en_mt d) p_X12_sign 6 [some (.long l0), none, some (.long l2), none, some (.long l4), none, none, none, none, none] [] z
noncomputable def b_X12_sign_9 (sc : en_S) (d : Nat) (l0 : Int64) (s0 : Int32) (z : en_H) : Option en_R := en_bk sc (en_cl sc en_mt d) p_X12_sign 9 [some (.long l0), none, none, none, none, none, none, none, none, none] [.int s0] z
noncomputable def f_X12_side (sc : en_S) (d : Nat) (a0 : Nat) (a1 : Int32) (a2 : Int64) (a3 : Int64) (a4 : Int64) (z : en_H) : Option en_R := en_cl sc en_mt d 135 [.ref a0, .int a1, .long a2, .long a3, .long a4] z
noncomputable def f_X12_wholeOf (sc : en_S) (d : Nat) (a0 : Nat) (a1 : Int32) (a2 : Int32) (z : en_H) : Option en_R := en_cl sc en_mt d 136 [.ref a0, .int a1, .int a2] z
noncomputable def b_X12_wholeOf_1 (sc : en_S) (d : Nat) (l0 : Nat) (l1 : Int32) (l2 : Int32) (l3 : Int32) (l4 : Int32) (z : en_H) : Option en_R := en_bk sc (en_cl sc en_mt d) p_X12_wholeOf 1 [some (.ref l0), some (.int l1), some (.int l2), some (.int l3), some (.int l4), none] [] z
noncomputable def f_X12_isSlope (sc : en_S) (d : Nat) (a0 : Nat) (a1 : Int32) (z : en_H) : Option en_R := en_cl sc en_mt d 137 [.ref a0, .int a1] z
noncomputable def f_X12_isSquare (sc : en_S) (d : Nat) (a0 : Int32) (z : en_H) : Option en_R := en_cl sc en_mt d 138 [.int a0] z
noncomputable def b_X12_isSquare_1 (sc : en_S) (d : Nat) (l0 : Int32) (l1 : Int32) (z : en_H) : Option en_R := en_bk sc (en_cl sc en_mt d) p_X12_isSquare 1 [some (.int l0), some (.int l1)] [] z
noncomputable def f_X12_slope (sc : en_S) (d : Nat) (a0 : Nat) (a1 : Int32) (a2 : Int32) (a3 : Int32) (a4 : Int32) (z : en_H) : Option en_R := en_cl sc en_mt d 139 [.ref a0, .int a1, .int a2, .int a3, .int a4] z
noncomputable def b_X12_slope_4 (sc : en_S) (d : Nat) (l0 : Nat) (l1 : Int32) (l2 : Int32) (l3 : Int32) (l4 : Int32) (z : en_H) : Option en_R := en_bk sc (en_cl sc en_mt d) p_X12_slope 4 [some (.ref l0), some (.int l1), some (.int l2), some (.int l3), some (.int l4), none] [] z
noncomputable def b_X12_slope_7 (sc : en_S) (d : Nat) (l0 : Nat) (l1 : Int32) (l2 : Int32) (l3 : Int32) (s0 : Int32) (z : en_H) : Option en_R := en_bk sc (en_cl sc en_mt d) p_X12_slope 7 [some (.ref l0), some (.int l1), some (.int l2), some (.int l3), none, none] [.int s0] z
noncomputable def f_X12_whole (sc : en_S) (d : Nat) (a0 : Nat) (a1 : Int32) (a2 : Int32) (z : en_H) : Option en_R := en_cl sc en_mt d 140 [.ref a0, .int a1, .int a2] z
noncomputable def f_X12_against (sc : en_S) (d : Nat) (a0 : Nat) (a1 : Int32) (a2 : Int32) (a3 : Int32) (z : en_H) : Option en_R := en_cl sc en_mt d 141 [.ref a0, .int a1, .int a2, .int a3] z
noncomputable def f_X12_common (sc : en_S) (d : Nat) (a0 : Int64) (a1 : Int64) (z : en_H) : Option en_R := en_cl sc en_mt d 142 [.long a0, .long a1] z
noncomputable def b_X12_common_2 (sc : en_S) (d : Nat) (l2 : Int64) (s0 : Int64) (z : en_H) : Option en_R := en_bk sc (en_cl sc en_mt d) p_X12_common 2 [none, none, some (.long l2), none, none, none, none, none, none, none] [.long s0] z
noncomputable def b_X12_common_5 (sc : en_S) (d : Nat) (l4 : Int64) (l6 : Int64) (z : en_H) : Option en_R := en_bk sc (en_cl sc en_mt d) p_X12_common 5 [none, none, none, none, some (.long l4), none, some (.long l6), none, none, none] [] z
noncomputable def f_X12_floorOf (sc : en_S) (d : Nat) (a0 : Int64) (a1 : Int64) (a2 : Int64) (a3 : Int64) (z : en_H) : Option en_R := en_cl sc en_mt d 143 [.long a0, .long a1, .long a2, .long a3] z
noncomputable def b_X12_floorOf_1 (sc : en_S) (d : Nat) (l0 : Int64) (l2 : Int64) (l4 : Int64) (l6 : Int64) (l8 : Int64) (z : en_H) : Option en_R := en_bk sc (en_cl sc en_mt d) p_X12_floorOf 1 [some (.long l0), none, some (.long l2), none, some (.long l4), none, some (.long l6), none, some (.long l8), none, none, none, none, none] [] z
noncomputable def b_X12_floorOf_3 (sc : en_S) (d : Nat) (l0 : Int64) (l2 : Int64) (l4 : Int64) (l6 : Int64) (l8 : Int64) (l10 : Int64) (z : en_H) : Option en_R := en_bk sc (en_cl sc en_mt d) p_X12_floorOf 3 [some (.long l0), none, some (.long l2), none, some (.long l4), none, some (.long l6), none, some (.long l8), none, some (.long l10), none, none, none] [] z
noncomputable def f_X12_quotientsOf (sc : en_S) (d : Nat) (a0 : Nat) (a1 : Int32) (z : en_H) : Option en_R := en_cl sc en_mt d 144 [.ref a0, .int a1] z
noncomputable def b_X12_quotientsOf_1 (sc : en_S) (d : Nat) (l0 : Nat) (l2 : Int64) (l4 : Int64) (l6 : Int64) (l8 : Int64) (l10 : Int32) (z : en_H) : Option en_R := en_bk sc (en_cl sc en_mt d) p_X12_quotientsOf 1 [some (.ref l0), none, some (.long l2), none, some (.long l4), none, some (.long l6), none, some (.long l8), none, some (.int l10), none, none, none, none, none, none, none, none, none, none, none, none] [] z
noncomputable def b_X12_quotientsOf_2 (sc : en_S) (d : Nat) (l0 : Nat) (l4 : Int64) (l6 : Int64) (l8 : Int64) (l10 : Int32) (l13 : Int64) (z : en_H) : Option en_R := en_bk sc (en_cl sc en_mt d) p_X12_quotientsOf 2 [some (.ref l0), none, none, none, some (.long l4), none, some (.long l6), none, some (.long l8), none, some (.int l10), none, none, some (.long l13), none, none, none, none, none, none, none, none, none] [] z
noncomputable def b_X12_quotientsOf_4 (sc : en_S) (d : Nat) (l0 : Nat) (l4 : Int64) (l6 : Int64) (l8 : Int64) (l10 : Int32) (l13 : Int64) (s0 : Int64) (z : en_H) : Option en_R := en_bk sc (en_cl sc en_mt d) p_X12_quotientsOf 4 [some (.ref l0), none, none, none, some (.long l4), none, some (.long l6), none, some (.long l8), none, some (.int l10), none, none, some (.long l13), none, none, none, none, none, none, none, none, none] [.long s0] z
noncomputable def b_X12_quotientsOf_6 (sc : en_S) (d : Nat) (l0 : Nat) (l4 : Int64) (l8 : Int64) (l10 : Int32) (l13 : Int64) (l15 : Int64) (s0 : Int64) (z : en_H) : Option en_R := en_bk sc (en_cl sc en_mt d) p_X12_quotientsOf 6 [some (.ref l0), none, none, none, some (.long l4), none, none, none, some (.long l8), none, some (.int l10), none, none, some (.long l13), none, some (.long l15), none, none, none, none, none, none, none] [.long s0] z
noncomputable def b_X12_quotientsOf_8 (sc : en_S) (d : Nat) (l0 : Nat) (l8 : Int64) (l10 : Int32) (l15 : Int64) (l17 : Int64) (s0 : Int64) (z : en_H) : Option en_R := en_bk sc (en_cl sc en_mt d) p_X12_quotientsOf 8 [some (.ref l0), none, none, none, none, none, none, none, some (.long l8), none, some (.int l10), none, none, none, none, some (.long l15), none, some (.long l17), none, none, none, none, none] [.long s0] z
noncomputable def b_X12_quotientsOf_9 (sc : en_S) (d : Nat) (l0 : Nat) (l8 : Int64) (l10 : Int32) (l15 : Int64) (l17 : Int64) (l19 : Int64) (z : en_H) : Option en_R := en_bk sc (en_cl sc en_mt d) p_X12_quotientsOf 9 [some (.ref l0), none, none, none, none, none, none, none, some (.long l8), none, some (.int l10), none, none, none, none, some (.long l15), none, some (.long l17), none, some (.long l19), none, none, none] [] z
noncomputable def f_X12_quotient (sc : en_S) (d : Nat) (a0 : Nat) (a1 : Int32) (a2 : Int32) (z : en_H) : Option en_R := en_cl sc en_mt d 145 [.ref a0, .int a1, .int a2] z
noncomputable def f_X12_linesOf (sc : en_S) (d : Nat) (a0 : Nat) (a1 : Int32) (z : en_H) : Option en_R := en_cl sc en_mt d 146 [.ref a0, .int a1] z
noncomputable def b_X12_linesOf_1 (sc : en_S) (d : Nat) (l0 : Nat) (l2 : Int64) (l4 : Int64) (l6 : Int32) (z : en_H) : Option en_R := en_bk sc (en_cl sc en_mt d) p_X12_linesOf 1 [some (.ref l0), none, some (.long l2), none, some (.long l4), none, some (.int l6), none, none] [] z
noncomputable def b_X12_linesOf_3 (sc : en_S) (d : Nat) (l0 : Nat) (l2 : Int64) (l4 : Int64) (l6 : Int32) (l7 : Int64) (z : en_H) : Option en_R := en_bk sc (en_cl sc en_mt d) p_X12_linesOf 3 [some (.ref l0), none, some (.long l2), none, some (.long l4), none, some (.int l6), some (.long l7), none] [] z
noncomputable def f_X12_line (sc : en_S) (d : Nat) (a0 : Nat) (a1 : Int32) (a2 : Int32) (z : en_H) : Option en_R := en_cl sc en_mt d 147 [.ref a0, .int a1, .int a2] z
noncomputable def f_X12_digit (sc : en_S) (d : Nat) (a0 : Nat) (a1 : Int32) (a2 : Int32) (a3 : Int32) (z : en_H) : Option en_R := en_cl sc en_mt d 148 [.ref a0, .int a1, .int a2, .int a3] z
noncomputable def b_X12_digit_4 (sc : en_S) (d : Nat) (l0 : Nat) (l3 : Int32) (l4 : Int64) (l6 : Int32) (z : en_H) : Option en_R := en_bk sc (en_cl sc en_mt d) p_X12_digit 4 [some (.ref l0), none, none, some (.int l3), some (.long l4), none, some (.int l6)] [] z
noncomputable def f_X12_nearersOf (sc : en_S) (d : Nat) (a0 : Nat) (a1 : Int32) (z : en_H) : Option en_R := en_cl sc en_mt d 149 [.ref a0, .int a1] z
noncomputable def b_X12_nearersOf_1 (sc : en_S) (d : Nat) (l0 : Nat) (l1 : Int32) (l2 : Int64) (l4 : Int64) (l6 : Int32) (l7 : Int32) (z : en_H) : Option en_R := en_bk sc (en_cl sc en_mt d) p_X12_nearersOf 1 [some (.ref l0), some (.int l1), some (.long l2), none, some (.long l4), none, some (.int l6), some (.int l7), none, none, none, none, none, none, none, none] [] z
noncomputable def b_X12_nearersOf_2 (sc : en_S) (d : Nat) (l0 : Nat) (l1 : Int32) (l2 : Int64) (l4 : Int64) (l6 : Int32) (l7 : Int32) (l8 : Int64) (z : en_H) : Option en_R := en_bk sc (en_cl sc en_mt d) p_X12_nearersOf 2 [some (.ref l0), some (.int l1), some (.long l2), none, some (.long l4), none, some (.int l6), some (.int l7), some (.long l8), none, none, none, none, none, none, none] [] z
noncomputable def b_X12_nearersOf_4 (sc : en_S) (d : Nat) (l0 : Nat) (l1 : Int32) (l2 : Int64) (l4 : Int64) (l6 : Int32) (l7 : Int32) (l8 : Int64) (l10 : Int32) (s0 : Int32) (z : en_H) : Option en_R := en_bk sc (en_cl sc en_mt d) p_X12_nearersOf 4 [some (.ref l0), some (.int l1), some (.long l2), none, some (.long l4), none, some (.int l6), some (.int l7), some (.long l8), none, some (.int l10), none, none, none, none, none] [.int s0] z
noncomputable def b_X12_nearersOf_7 (sc : en_S) (d : Nat) (l0 : Nat) (l1 : Int32) (l2 : Int64) (l4 : Int64) (l6 : Int32) (l7 : Int32) (l8 : Int64) (l10 : Int32) (l11 : Int32) (z : en_H) : Option en_R := en_bk sc (en_cl sc en_mt d) p_X12_nearersOf 7 [some (.ref l0), some (.int l1), some (.long l2), none, some (.long l4), none, some (.int l6), some (.int l7), some (.long l8), none, some (.int l10), some (.int l11), none, none, none, none] [] z
noncomputable def f_X12_nearer (sc : en_S) (d : Nat) (a0 : Nat) (a1 : Int32) (a2 : Int32) (z : en_H) : Option en_R := en_cl sc en_mt d 150 [.ref a0, .int a1, .int a2] z
noncomputable def f_X12_within (sc : en_S) (d : Nat) (a0 : Nat) (a1 : Int32) (a2 : Int32) (a3 : Int32) (a4 : Int32) (z : en_H) : Option en_R := en_cl sc en_mt d 151 [.ref a0, .int a1, .int a2, .int a3, .int a4] z
noncomputable def b_X12_within_3 (sc : en_S) (d : Nat) (l0 : Nat) (l1 : Int32) (l2 : Int32) (l3 : Int32) (l4 : Int32) (l5 : Int32) (z : en_H) : Option en_R := en_bk sc (en_cl sc en_mt d) p_X12_within 3 [some (.ref l0), some (.int l1), some (.int l2), some (.int l3), some (.int l4), some (.int l5), none, none] [] z
noncomputable def f_X12_isRow (sc : en_S) (d : Nat) (a0 : Nat) (a1 : Int32) (z : en_H) : Option en_R := en_cl sc en_mt d 152 [.ref a0, .int a1] z
noncomputable def f_X12_row (sc : en_S) (d : Nat) (a0 : Nat) (a1 : Int32) (a2 : Int32) (a3 : Int32) (z : en_H) : Option en_R := en_cl sc en_mt d 153 [.ref a0, .int a1, .int a2, .int a3] z
noncomputable def b_X12_row_7 (sc : en_S) (d : Nat) (l0 : Nat) (l1 : Int32) (l3 : Int32) (l4 : Int32) (z : en_H) : Option en_R := en_bk sc (en_cl sc en_mt d) p_X12_row 7 [some (.ref l0), some (.int l1), none, some (.int l3), some (.int l4)] [] z
noncomputable def b_X12_row_10 (sc : en_S) (d : Nat) (l0 : Nat) (l1 : Int32) (l3 : Int32) (l4 : Int32) (z : en_H) : Option en_R := en_bk sc (en_cl sc en_mt d) p_X12_row 10 [some (.ref l0), some (.int l1), none, some (.int l3), some (.int l4)] [] z
noncomputable def f_X12_writes (sc : en_S) (d : Nat) (a0 : Nat) (a1 : Int64) (a2 : Int64) (a3 : Int64) (a4 : Int64) (a5 : Int64) (a6 : Int64) (z : en_H) : Option en_R := en_cl sc en_mt d 154 [.ref a0, .long a1, .long a2, .long a3, .long a4, .long a5, .long a6] z
noncomputable def b_X12_writes_1 (sc : en_S) (d : Nat) (l0 : Nat) (l1 : Int64) (l3 : Int64) (l5 : Int64) (l7 : Int64) (l9 : Int64) (l11 : Int64) (l13 : Int64) (l15 : Int32) (z : en_H) : Option en_R := en_bk sc (en_cl sc en_mt d) p_X12_writes 1 [some (.ref l0), some (.long l1), none, some (.long l3), none, some (.long l5), none, some (.long l7), none, some (.long l9), none, some (.long l11), none, some (.long l13), none, some (.int l15), none, none, none, none, none] [] z
noncomputable def b_X12_writes_2 (sc : en_S) (d : Nat) (l0 : Nat) (l1 : Int64) (l3 : Int64) (l5 : Int64) (l7 : Int64) (l9 : Int64) (l11 : Int64) (l13 : Int64) (l15 : Int32) (l16 : Int64) (l18 : Int64) (l20 : Int32) (z : en_H) : Option en_R := en_bk sc (en_cl sc en_mt d) p_X12_writes 2 [some (.ref l0), some (.long l1), none, some (.long l3), none, some (.long l5), none, some (.long l7), none, some (.long l9), none, some (.long l11), none, some (.long l13), none, some (.int l15), some (.long l16), none, some (.long l18), none, some (.int l20)] [] z
noncomputable def f_X12_even (sc : en_S) (d : Nat) (a0 : Nat) (a1 : Int32) (a2 : Int32) (a3 : Int32) (z : en_H) : Option en_R := en_cl sc en_mt d 155 [.ref a0, .int a1, .int a2, .int a3] z
noncomputable def f_X12_ring (sc : en_S) (d : Nat) (a0 : Nat) (a1 : Int32) (a2 : Int32) (z : en_H) : Option en_R := en_cl sc en_mt d 156 [.ref a0, .int a1, .int a2] z
noncomputable def f_X12_cut (sc : en_S) (d : Nat) (a0 : Nat) (a1 : Int32) (a2 : Int32) (a3 : Int32) (a4 : Int32) (a5 : Int32) (z : en_H) : Option en_R := en_cl sc en_mt d 157 [.ref a0, .int a1, .int a2, .int a3, .int a4, .int a5] z
noncomputable def b_X12_cut_6 (sc : en_S) (d : Nat) (l0 : Nat) (l1 : Int32) (l2 : Int32) (l3 : Int32) (l4 : Int32) (l5 : Int32) (l6 : Int32) (l7 : Int32) (z : en_H) : Option en_R := en_bk sc (en_cl sc en_mt d) p_X12_cut 6 [some (.ref l0), some (.int l1), some (.int l2), some (.int l3), some (.int l4), some (.int l5), some (.int l6), some (.int l7), none, none, none] [] z
noncomputable def b_X12_cut_15 (sc : en_S) (d : Nat) (l0 : Nat) (l6 : Int32) (z : en_H) : Option en_R := en_bk sc (en_cl sc en_mt d) p_X12_cut 15 [some (.ref l0), none, none, none, none, none, some (.int l6), none, none, none, none] [] z
noncomputable def b_X12_cut_8 (sc : en_S) (d : Nat) (l0 : Nat) (l1 : Int32) (l2 : Int32) (l3 : Int32) (l4 : Int32) (l5 : Int32) (l6 : Int32) (l7 : Int32) (s0 : Int32) (z : en_H) : Option en_R := en_bk sc (en_cl sc en_mt d) p_X12_cut 8 [some (.ref l0), some (.int l1), some (.int l2), some (.int l3), some (.int l4), some (.int l5), some (.int l6), some (.int l7), none, none, none] [.int s0] z
noncomputable def b_X12_cut_11 (sc : en_S) (d : Nat) (l0 : Nat) (l1 : Int32) (l2 : Int32) (l3 : Int32) (l4 : Int32) (l5 : Int32) (l6 : Int32) (l7 : Int32) (l8 : Int32) (l9 : Int32) (l10 : Int32) (z : en_H) : Option en_R := en_bk sc (en_cl sc en_mt d) p_X12_cut 11 [some (.ref l0), some (.int l1), some (.int l2), some (.int l3), some (.int l4), some (.int l5), some (.int l6), some (.int l7), some (.int l8), some (.int l9), some (.int l10)] [] z
noncomputable def f_X12_points (sc : en_S) (d : Nat) (a0 : Nat) (a1 : Int32) (z : en_H) : Option en_R := en_cl sc en_mt d 158 [.ref a0, .int a1] z
noncomputable def f_X12_drop (sc : en_S) (d : Nat) (a0 : Nat) (a1 : Int32) (z : en_H) : Option en_R := en_cl sc en_mt d 159 [.ref a0, .int a1] z
noncomputable def b_X12_drop_5 (sc : en_S) (d : Nat) (l0 : Nat) (l2 : Int32) (z : en_H) : Option en_R := en_bk sc (en_cl sc en_mt d) p_X12_drop 5 [some (.ref l0), none, some (.int l2)] [] z
noncomputable def f_X12_count (sc : en_S) (d : Nat) (a0 : Nat) (a1 : Int32) (z : en_H) : Option en_R := en_cl sc en_mt d 160 [.ref a0, .int a1] z
noncomputable def f_X12_kind (sc : en_S) (d : Nat) (a0 : Nat) (a1 : Int32) (z : en_H) : Option en_R := en_cl sc en_mt d 161 [.ref a0, .int a1] z
noncomputable def f_X12_step (sc : en_S) (d : Nat) (a0 : Nat) (a1 : Int32) (a2 : Int32) (z : en_H) : Option en_R := en_cl sc en_mt d 162 [.ref a0, .int a1, .int a2] z
noncomputable def f_X12_sum (sc : en_S) (d : Nat) (a0 : Nat) (a1 : Int32) (a2 : Int32) (z : en_H) : Option en_R := en_cl sc en_mt d 163 [.ref a0, .int a1, .int a2] z
noncomputable def b_X12_sum_3 (sc : en_S) (d : Nat) (l0 : Nat) (l1 : Int32) (l2 : Int32) (l3 : Int32) (l4 : Int32) (z : en_H) : Option en_R := en_bk sc (en_cl sc en_mt d) p_X12_sum 3 [some (.ref l0), some (.int l1), some (.int l2), some (.int l3), some (.int l4)] [] z
noncomputable def f_X12_isStretch (sc : en_S) (d : Nat) (a0 : Nat) (a1 : Int32) (a2 : Int32) (a3 : Int32) (z : en_H) : Option en_R := en_cl sc en_mt d 164 [.ref a0, .int a1, .int a2, .int a3] z
noncomputable def f_X12_sumOf (sc : en_S) (d : Nat) (a0 : Nat) (a1 : Int32) (a2 : Int32) (a3 : Int32) (z : en_H) : Option en_R := en_cl sc en_mt d 165 [.ref a0, .int a1, .int a2, .int a3] z
noncomputable def b_X12_sumOf_1 (sc : en_S) (d : Nat) (l0 : Nat) (l1 : Int32) (l2 : Int32) (l3 : Int32) (l4 : Int32) (l5 : Int32) (z : en_H) : Option en_R := en_bk sc (en_cl sc en_mt d) p_X12_sumOf 1 [some (.ref l0), some (.int l1), some (.int l2), some (.int l3), some (.int l4), some (.int l5)] [] z
noncomputable def f_X12_clashOf (sc : en_S) (d : Nat) (a0 : Nat) (a1 : Int32) (a2 : Int32) (a3 : Int32) (z : en_H) : Option en_R := en_cl sc en_mt d 166 [.ref a0, .int a1, .int a2, .int a3] z
noncomputable def b_X12_clashOf_1 (sc : en_S) (d : Nat) (l0 : Nat) (l1 : Int32) (l2 : Int32) (l3 : Int32) (l4 : Int32) (z : en_H) : Option en_R := en_bk sc (en_cl sc en_mt d) p_X12_clashOf 1 [some (.ref l0), some (.int l1), some (.int l2), some (.int l3), some (.int l4), none, none, none] [] z
noncomputable def b_X12_clashOf_2 (sc : en_S) (d : Nat) (l0 : Nat) (l1 : Int32) (l2 : Int32) (l3 : Int32) (l4 : Int32) (l5 : Int32) (z : en_H) : Option en_R := en_bk sc (en_cl sc en_mt d) p_X12_clashOf 2 [some (.ref l0), some (.int l1), some (.int l2), some (.int l3), some (.int l4), some (.int l5), none, none] [] z
noncomputable def b_X12_clashOf_3 (sc : en_S) (d : Nat) (l0 : Nat) (l1 : Int32) (l2 : Int32) (l3 : Int32) (l4 : Int32) (l5 : Int32) (l6 : Int32) (z : en_H) : Option en_R := en_bk sc (en_cl sc en_mt d) p_X12_clashOf 3 [some (.ref l0), some (.int l1), some (.int l2), some (.int l3), some (.int l4), some (.int l5), some (.int l6), none] [] z
noncomputable def f_X12_isEven (sc : en_S) (d : Nat) (a0 : Nat) (a1 : Int32) (a2 : Int32) (a3 : Int32) (z : en_H) : Option en_R := en_cl sc en_mt d 167 [.ref a0, .int a1, .int a2, .int a3] z
noncomputable def f_X12_clash (sc : en_S) (d : Nat) (a0 : Nat) (a1 : Int32) (a2 : Int32) (a3 : Int32) (a4 : Int32) (z : en_H) : Option en_R := en_cl sc en_mt d 168 [.ref a0, .int a1, .int a2, .int a3, .int a4] z
noncomputable def f_X12_range (sc : en_S) (d : Nat) (a0 : Nat) (a1 : Int32) (a2 : Int32) (a3 : Int32) (a4 : Int32) (z : en_H) : Option en_R := en_cl sc en_mt d 169 [.ref a0, .int a1, .int a2, .int a3, .int a4] z
noncomputable def b_X12_range_3 (sc : en_S) (d : Nat) (l0 : Nat) (l1 : Int32) (l2 : Int32) (l3 : Int32) (l4 : Int32) (l5 : Int32) (l6 : Int32) (l7 : Int32) (l8 : Int32) (l9 : Int32) (l10 : Int32) (z : en_H) : Option en_R := en_bk sc (en_cl sc en_mt d) p_X12_range 3 [some (.ref l0), some (.int l1), some (.int l2), some (.int l3), some (.int l4), some (.int l5), some (.int l6), some (.int l7), some (.int l8), some (.int l9), some (.int l10), none, none] [] z
noncomputable def b_X12_range_4 (sc : en_S) (d : Nat) (l0 : Nat) (l1 : Int32) (l2 : Int32) (l3 : Int32) (l4 : Int32) (l5 : Int32) (l6 : Int32) (l7 : Int32) (l8 : Int32) (l9 : Int32) (l10 : Int32) (l11 : Int32) (z : en_H) : Option en_R := en_bk sc (en_cl sc en_mt d) p_X12_range 4 [some (.ref l0), some (.int l1), some (.int l2), some (.int l3), some (.int l4), some (.int l5), some (.int l6), some (.int l7), some (.int l8), some (.int l9), some (.int l10), some (.int l11), none] [] z
noncomputable def b_X12_range_6 (sc : en_S) (d : Nat) (l0 : Nat) (l1 : Int32) (l2 : Int32) (l3 : Int32) (l4 : Int32) (l5 : Int32) (l6 : Int32) (l7 : Int32) (l8 : Int32) (l9 : Int32) (l10 : Int32) (l11 : Int32) (l12 : Int32) (z : en_H) : Option en_R := en_bk sc (en_cl sc en_mt d) p_X12_range 6 [some (.ref l0), some (.int l1), some (.int l2), some (.int l3), some (.int l4), some (.int l5), some (.int l6), some (.int l7), some (.int l8), some (.int l9), some (.int l10), some (.int l11), some (.int l12)] [] z
noncomputable def b_X12_range_7 (sc : en_S) (d : Nat) (l0 : Nat) (l1 : Int32) (l2 : Int32) (l3 : Int32) (l4 : Int32) (l5 : Int32) (l6 : Int32) (l10 : Int32) (l11 : Int32) (l12 : Int32) (z : en_H) : Option en_R := en_bk sc (en_cl sc en_mt d) p_X12_range 7 [some (.ref l0), some (.int l1), some (.int l2), some (.int l3), some (.int l4), some (.int l5), some (.int l6), none, none, none, some (.int l10), some (.int l11), some (.int l12)] [] z
noncomputable def f_X12_areAlike (sc : en_S) (d : Nat) (a0 : Nat) (a1 : Int32) (a2 : Int32) (a3 : Int32) (a4 : Int32) (z : en_H) : Option en_R := en_cl sc en_mt d 170 [.ref a0, .int a1, .int a2, .int a3, .int a4] z
noncomputable def b_X12_areAlike_1 (sc : en_S) (d : Nat) (l0 : Nat) (l1 : Int32) (l2 : Int32) (l3 : Int32) (l4 : Int32) (l5 : Int32) (z : en_H) : Option en_R := en_bk sc (en_cl sc en_mt d) p_X12_areAlike 1 [some (.ref l0), some (.int l1), some (.int l2), some (.int l3), some (.int l4), some (.int l5)] [] z
noncomputable def f_X12_isBackward (sc : en_S) (d : Nat) (a0 : Nat) (a1 : Int32) (a2 : Int32) (a3 : Int32) (z : en_H) : Option en_R := en_cl sc en_mt d 171 [.ref a0, .int a1, .int a2, .int a3] z
noncomputable def b_X12_isBackward_1 (sc : en_S) (d : Nat) (l0 : Nat) (l1 : Int32) (l2 : Int32) (l3 : Int32) (l4 : Int32) (z : en_H) : Option en_R := en_bk sc (en_cl sc en_mt d) p_X12_isBackward 1 [some (.ref l0), some (.int l1), some (.int l2), some (.int l3), some (.int l4)] [] z
noncomputable def f_X12_parts (sc : en_S) (d : Nat) (a0 : Nat) (a1 : Int32) (a2 : Int32) (a3 : Int32) (z : en_H) : Option en_R := en_cl sc en_mt d 172 [.ref a0, .int a1, .int a2, .int a3] z
noncomputable def b_X12_parts_3 (sc : en_S) (d : Nat) (l0 : Nat) (l1 : Int32) (l2 : Int32) (l3 : Int32) (l4 : Int32) (l5 : Int32) (z : en_H) : Option en_R := en_bk sc (en_cl sc en_mt d) p_X12_parts 3 [some (.ref l0), some (.int l1), some (.int l2), some (.int l3), some (.int l4), some (.int l5), none, none] [] z
noncomputable def b_X12_parts_4 (sc : en_S) (d : Nat) (l0 : Nat) (l1 : Int32) (l2 : Int32) (l3 : Int32) (l4 : Int32) (l5 : Int32) (l6 : Int32) (l7 : Int32) (z : en_H) : Option en_R := en_bk sc (en_cl sc en_mt d) p_X12_parts 4 [some (.ref l0), some (.int l1), some (.int l2), some (.int l3), some (.int l4), some (.int l5), some (.int l6), some (.int l7)] [] z
noncomputable def b_X12_parts_7 (sc : en_S) (d : Nat) (l0 : Nat) (l1 : Int32) (l2 : Int32) (l3 : Int32) (l4 : Int32) (l5 : Int32) (l6 : Int32) (z : en_H) : Option en_R := en_bk sc (en_cl sc en_mt d) p_X12_parts 7 [some (.ref l0), some (.int l1), some (.int l2), some (.int l3), some (.int l4), some (.int l5), some (.int l6), none] [] z
noncomputable def f_X12_arePoints (sc : en_S) (d : Nat) (a0 : Nat) (a1 : Int32) (a2 : Int32) (z : en_H) : Option en_R := en_cl sc en_mt d 173 [.ref a0, .int a1, .int a2] z
noncomputable def f_X12_rings (sc : en_S) (d : Nat) (a0 : Nat) (a1 : Int32) (a2 : Int32) (z : en_H) : Option en_R := en_cl sc en_mt d 174 [.ref a0, .int a1, .int a2] z
noncomputable def b_X12_rings_1 (sc : en_S) (d : Nat) (l0 : Nat) (l1 : Int32) (l2 : Int32) (l3 : Int32) (z : en_H) : Option en_R := en_bk sc (en_cl sc en_mt d) p_X12_rings 1 [some (.ref l0), some (.int l1), some (.int l2), some (.int l3), none] [] z
noncomputable def b_X12_rings_2 (sc : en_S) (d : Nat) (l0 : Nat) (l1 : Int32) (l2 : Int32) (l3 : Int32) (l4 : Int32) (z : en_H) : Option en_R := en_bk sc (en_cl sc en_mt d) p_X12_rings 2 [some (.ref l0), some (.int l1), some (.int l2), some (.int l3), some (.int l4)] [] z
noncomputable def f_X12_isAhead (sc : en_S) (d : Nat) (a0 : Nat) (a1 : Int32) (a2 : Int32) (a3 : Int32) (z : en_H) : Option en_R := en_cl sc en_mt d 175 [.ref a0, .int a1, .int a2, .int a3] z
noncomputable def f_X12_against_ (sc : en_S) (d : Nat) (a0 : Nat) (a1 : Int32) (a2 : Int32) (a3 : Int32) (a4 : Int32) (a5 : Int32) (z : en_H) : Option en_R := en_cl sc en_mt d 176 [.ref a0, .int a1, .int a2, .int a3, .int a4, .int a5] z
noncomputable def f_X12_gapsOf (sc : en_S) (d : Nat) (a0 : Nat) (a1 : Int32) (a2 : Int32) (z : en_H) : Option en_R := en_cl sc en_mt d 177 [.ref a0, .int a1, .int a2] z
noncomputable def b_X12_gapsOf_1 (sc : en_S) (d : Nat) (l0 : Nat) (l2 : Int32) (l3 : Int32) (l4 : Int32) (z : en_H) : Option en_R := en_bk sc (en_cl sc en_mt d) p_X12_gapsOf 1 [some (.ref l0), none, some (.int l2), some (.int l3), some (.int l4), none, none] [] z
noncomputable def b_X12_gapsOf_7 (sc : en_S) (d : Nat) (l0 : Nat) (l2 : Int32) (l3 : Int32) (l4 : Int32) (z : en_H) : Option en_R := en_bk sc (en_cl sc en_mt d) p_X12_gapsOf 7 [some (.ref l0), none, some (.int l2), some (.int l3), some (.int l4), none, none] [] z
noncomputable def b_X12_gapsOf_3 (sc : en_S) (d : Nat) (l0 : Nat) (l2 : Int32) (l3 : Int32) (l4 : Int32) (l5 : Int32) (s0 : Int32) (z : en_H) : Option en_R := en_bk sc (en_cl sc en_mt d) p_X12_gapsOf 3 [some (.ref l0), none, some (.int l2), some (.int l3), some (.int l4), some (.int l5), none] [.int s0, .null] z
noncomputable def b_X12_gapsOf_3_1 (sc : en_S) (d : Nat) (l0 : Nat) (l2 : Int32) (l3 : Int32) (l4 : Int32) (l5 : Int32) (s0 : Int32) (s1 : Nat) (z : en_H) : Option en_R := en_bk sc (en_cl sc en_mt d) p_X12_gapsOf 3 [some (.ref l0), none, some (.int l2), some (.int l3), some (.int l4), some (.int l5), none] [.int s0, .ref s1] z
noncomputable def b_X12_gapsOf_8 (sc : en_S) (d : Nat) (l0 : Nat) (l2 : Int32) (l3 : Int32) (l4 : Int32) (l5 : Int32) (z : en_H) : Option en_R := en_bk sc (en_cl sc en_mt d) p_X12_gapsOf 8 [some (.ref l0), none, some (.int l2), some (.int l3), some (.int l4), some (.int l5), none] [] z
noncomputable def b_X12_gapsOf_5 (sc : en_S) (d : Nat) (l0 : Nat) (l2 : Int32) (l3 : Int32) (l4 : Int32) (l5 : Int32) (l6 : Int32) (s0 : Int32) (s1 : Int32) (s2 : Int32) (z : en_H) : Option en_R := en_bk sc (en_cl sc en_mt d) p_X12_gapsOf 5 [some (.ref l0), none, some (.int l2), some (.int l3), some (.int l4), some (.int l5), some (.int l6)] [.int s0, .int s1, .int s2, .null] z
noncomputable def b_X12_gapsOf_5_1 (sc : en_S) (d : Nat) (l0 : Nat) (l2 : Int32) (l3 : Int32) (l4 : Int32) (l5 : Int32) (l6 : Int32) (s0 : Int32) (s1 : Int32) (s2 : Int32) (s3 : Nat) (z : en_H) : Option en_R := en_bk sc (en_cl sc en_mt d) p_X12_gapsOf 5 [some (.ref l0), none, some (.int l2), some (.int l3), some (.int l4), some (.int l5), some (.int l6)] [.int s0, .int s1, .int s2, .ref s3] z
noncomputable def b_X12_gapsOf_9 (sc : en_S) (d : Nat) (l0 : Nat) (l2 : Int32) (l3 : Int32) (l4 : Int32) (l5 : Int32) (z : en_H) : Option en_R := en_bk sc (en_cl sc en_mt d) p_X12_gapsOf 9 [some (.ref l0), none, some (.int l2), some (.int l3), some (.int l4), some (.int l5), none] [] z
noncomputable def b_X12_gapsOf_11 (sc : en_S) (d : Nat) (l0 : Nat) (l2 : Int32) (l3 : Int32) (l4 : Int32) (l5 : Int32) (l6 : Int32) (z : en_H) : Option en_R := en_bk sc (en_cl sc en_mt d) p_X12_gapsOf 11 [some (.ref l0), none, some (.int l2), some (.int l3), some (.int l4), some (.int l5), some (.int l6)] [] z
noncomputable def f_X12_gaps (sc : en_S) (d : Nat) (a0 : Nat) (a1 : Int32) (a2 : Int32) (z : en_H) : Option en_R := en_cl sc en_mt d 178 [.ref a0, .int a1, .int a2] z
noncomputable def f_X12_gap (sc : en_S) (d : Nat) (a0 : Nat) (a1 : Int32) (a2 : Int32) (a3 : Int32) (a4 : Int32) (z : en_H) : Option en_R := en_cl sc en_mt d 179 [.ref a0, .int a1, .int a2, .int a3, .int a4] z
noncomputable def f_X12_follows (sc : en_S) (d : Nat) (a0 : Nat) (a1 : Int32) (a2 : Int32) (a3 : Int32) (z : en_H) : Option en_R := en_cl sc en_mt d 180 [.ref a0, .int a1, .int a2, .int a3] z
noncomputable def b_X12_follows_3 (sc : en_S) (d : Nat) (l0 : Nat) (l2 : Int32) (l3 : Int32) (l4 : Int32) (z : en_H) : Option en_R := en_bk sc (en_cl sc en_mt d) p_X12_follows 3 [some (.ref l0), none, some (.int l2), some (.int l3), some (.int l4)] [] z
noncomputable def f_X12_areOne (sc : en_S) (d : Nat) (a0 : Nat) (a1 : Int32) (a2 : Int32) (z : en_H) : Option en_R := en_cl sc en_mt d 181 [.ref a0, .int a1, .int a2] z
noncomputable def b_X12_areOne_7 (sc : en_S) (d : Nat) (l0 : Nat) (l2 : Int32) (l9 : Int64) (l11 : Int64) (l15 : Int64) (s0 : Int32) (s1 : Int32) (z : en_H) : Option en_R := en_bk sc (en_cl sc en_mt d) p_X12_areOne 7 [some (.ref l0), none, some (.int l2), none, none, none, none, none, none, some (.long l9), none, some (.long l11), none, none, none, some (.long l15), none] [.int s0, .int s1] z
noncomputable def b_X12_areOne_11 (sc : en_S) (d : Nat) (l0 : Nat) (l2 : Int32) (l9 : Int64) (l11 : Int64) (l15 : Int64) (s0 : Int32) (s1 : Int32) (z : en_H) : Option en_R := en_bk sc (en_cl sc en_mt d) p_X12_areOne 11 [some (.ref l0), none, some (.int l2), none, none, none, none, none, none, some (.long l9), none, some (.long l11), none, none, none, some (.long l15), none] [.int s0, .int s1] z
noncomputable def f_X12_share (sc : en_S) (d : Nat) (a0 : Nat) (a1 : Int32) (a2 : Int32) (z : en_H) : Option en_R := en_cl sc en_mt d 182 [.ref a0, .int a1, .int a2] z
noncomputable def b_X12_share_6 (sc : en_S) (d : Nat) (l0 : Nat) (l1 : Int32) (l2 : Int32) (l3 : Int32) (l4 : Int32) (z : en_H) : Option en_R := en_bk sc (en_cl sc en_mt d) p_X12_share 6 [some (.ref l0), some (.int l1), some (.int l2), some (.int l3), some (.int l4), none, none] [] z
noncomputable def b_X12_share_7 (sc : en_S) (d : Nat) (l0 : Nat) (l1 : Int32) (l2 : Int32) (l3 : Int32) (l4 : Int32) (z : en_H) : Option en_R := en_bk sc (en_cl sc en_mt d) p_X12_share 7 [some (.ref l0), some (.int l1), some (.int l2), some (.int l3), some (.int l4), none, none] [] z
noncomputable def b_X12_share_9 (sc : en_S) (d : Nat) (l0 : Nat) (l1 : Int32) (l2 : Int32) (l3 : Int32) (l4 : Int32) (l5 : Int32) (z : en_H) : Option en_R := en_bk sc (en_cl sc en_mt d) p_X12_share 9 [some (.ref l0), some (.int l1), some (.int l2), some (.int l3), some (.int l4), some (.int l5), none] [] z
noncomputable def b_X12_share_10 (sc : en_S) (d : Nat) (l0 : Nat) (l1 : Int32) (l2 : Int32) (l3 : Int32) (l4 : Int32) (l5 : Int32) (l6 : Int32) (z : en_H) : Option en_R := en_bk sc (en_cl sc en_mt d) p_X12_share 10 [some (.ref l0), some (.int l1), some (.int l2), some (.int l3), some (.int l4), some (.int l5), some (.int l6)] [] z
noncomputable def b_X12_share_11 (sc : en_S) (d : Nat) (l0 : Nat) (l1 : Int32) (l2 : Int32) (l3 : Int32) (l4 : Int32) (l5 : Int32) (l6 : Int32) (z : en_H) : Option en_R := en_bk sc (en_cl sc en_mt d) p_X12_share 11 [some (.ref l0), some (.int l1), some (.int l2), some (.int l3), some (.int l4), some (.int l5), some (.int l6)] [] z
noncomputable def f_X12_spread (sc : en_S) (d : Nat) (a0 : Nat) (a1 : Int32) (a2 : Int32) (z : en_H) : Option en_R := en_cl sc en_mt d 183 [.ref a0, .int a1, .int a2] z
noncomputable def b_X12_spread_3 (sc : en_S) (d : Nat) (l3 : Int64) (l5 : Int64) (l7 : Int32) (l8 : Int32) (l9 : Int32) (l10 : Int32) (z : en_H) : Option en_R := en_bk sc (en_cl sc en_mt d) p_X12_spread 3 [none, none, none, some (.long l3), none, some (.long l5), none, some (.int l7), some (.int l8), some (.int l9), some (.int l10), none, none, none, none] [] z
noncomputable def b_X12_spread_9 (sc : en_S) (d : Nat) (l3 : Int64) (l5 : Int64) (l7 : Int32) (l8 : Int32) (l9 : Int32) (l10 : Int32) (l11 : Int64) (l13 : Int32) (l14 : Int32) (z : en_H) : Option en_R := en_bk sc (en_cl sc en_mt d) p_X12_spread 9 [none, none, none, some (.long l3), none, some (.long l5), none, some (.int l7), some (.int l8), some (.int l9), some (.int l10), some (.long l11), none, some (.int l13), some (.int l14)] [] z
noncomputable def b_X12_spread_5 (sc : en_S) (d : Nat) (l3 : Int64) (l5 : Int64) (l7 : Int32) (l8 : Int32) (l9 : Int32) (l10 : Int32) (s0 : Int32) (z : en_H) : Option en_R := en_bk sc (en_cl sc en_mt d) p_X12_spread 5 [none, none, none, some (.long l3), none, some (.long l5), none, some (.int l7), some (.int l8), some (.int l9), some (.int l10), none, none, none, none] [.int s0] z
noncomputable def b_X12_spread_11 (sc : en_S) (d : Nat) (l5 : Int64) (l8 : Int32) (l10 : Int32) (l11 : Int64) (l13 : Int32) (l14 : Int32) (z : en_H) : Option en_R := en_bk sc (en_cl sc en_mt d) p_X12_spread 11 [none, none, none, none, none, some (.long l5), none, none, some (.int l8), none, some (.int l10), some (.long l11), none, some (.int l13), some (.int l14)] [] z
noncomputable def f_X12_turning (sc : en_S) (d : Nat) (a0 : Nat) (a1 : Int64) (a2 : Int32) (z : en_H) : Option en_R := en_cl sc en_mt d 184 [.ref a0, .long a1, .int a2] z
noncomputable def b_X12_turning_2 (sc : en_S) (d : Nat) (l1 : Int64) (l3 : Int32) (l4 : Int32) (l5 : Int32) (z : en_H) : Option en_R := en_bk sc (en_cl sc en_mt d) p_X12_turning 2 [none, some (.long l1), none, some (.int l3), some (.int l4), some (.int l5), none] [] z
noncomputable def b_X12_turning_3 (sc : en_S) (d : Nat) (l1 : Int64) (l3 : Int32) (l4 : Int32) (l5 : Int32) (l6 : Int32) (z : en_H) : Option en_R := en_bk sc (en_cl sc en_mt d) p_X12_turning 3 [none, some (.long l1), none, some (.int l3), some (.int l4), some (.int l5), some (.int l6)] [] z
noncomputable def b_X12_turning_4 (sc : en_S) (d : Nat) (l1 : Int64) (l3 : Int32) (l4 : Int32) (l5 : Int32) (l6 : Int32) (z : en_H) : Option en_R := en_bk sc (en_cl sc en_mt d) p_X12_turning 4 [none, some (.long l1), none, some (.int l3), some (.int l4), some (.int l5), some (.int l6)] [] z
noncomputable def f_X12_pairs (sc : en_S) (d : Nat) (a0 : Nat) (z : en_H) : Option en_R := en_cl sc en_mt d 185 [.ref a0] z
noncomputable def b_X12_pairs_2 (sc : en_S) (d : Nat) (l0 : Nat) (l1 : Int32) (z : en_H) : Option en_R := en_bk sc (en_cl sc en_mt d) p_X12_pairs 2 [some (.ref l0), some (.int l1), none] [] z
noncomputable def b_X12_pairs_4 (sc : en_S) (d : Nat) (l0 : Nat) (l1 : Int32) (l2 : Int32) (z : en_H) : Option en_R := en_bk sc (en_cl sc en_mt d) p_X12_pairs 4 [some (.ref l0), some (.int l1), some (.int l2)] [] z
noncomputable def f_X12_wins (sc : en_S) (d : Nat) (a0 : Nat) (a1 : Int32) (a2 : Int32) (z : en_H) : Option en_R := en_cl sc en_mt d 186 [.ref a0, .int a1, .int a2] z
noncomputable def f_X12_takes (sc : en_S) (d : Nat) (a0 : Nat) (a1 : Int32) (a2 : Int32) (z : en_H) : Option en_R := en_cl sc en_mt d 187 [.ref a0, .int a1, .int a2] z
noncomputable def b_X12_takes_4 (sc : en_S) (d : Nat) (l0 : Nat) (l1 : Int32) (l2 : Int32) (l3 : Int32) (z : en_H) : Option en_R := en_bk sc (en_cl sc en_mt d) p_X12_takes 4 [some (.ref l0), some (.int l1), some (.int l2), some (.int l3)] [] z
noncomputable def f_X12_ran (sc : en_S) (d : Nat) (a0 : Nat) (a1 : Int32) (z : en_H) : Option en_R := en_cl sc en_mt d 188 [.ref a0, .int a1] z
noncomputable def f_X12_stepOne (sc : en_S) (d : Nat) (a0 : Nat) (a1 : Int32) (z : en_H) : Option en_R := en_cl sc en_mt d 189 [.ref a0, .int a1] z
noncomputable def f_X12_goRow (sc : en_S) (d : Nat) (a0 : Nat) (a1 : Int32) (a2 : Int32) (z : en_H) : Option en_R := en_cl sc en_mt d 190 [.ref a0, .int a1, .int a2] z
noncomputable def f_X12_goEven (sc : en_S) (d : Nat) (a0 : Nat) (a1 : Int32) (a2 : Int32) (z : en_H) : Option en_R := en_cl sc en_mt d 191 [.ref a0, .int a1, .int a2] z
noncomputable def f_X12_go (sc : en_S) (d : Nat) (a0 : Nat) (a1 : Int32) (a2 : Int32) (z : en_H) : Option en_R := en_cl sc en_mt d 192 [.ref a0, .int a1, .int a2] z
noncomputable def f_X12_gapRow (sc : en_S) (d : Nat) (a0 : Nat) (a1 : Int32) (a2 : Int32) (z : en_H) : Option en_R := en_cl sc en_mt d 193 [.ref a0, .int a1, .int a2] z
noncomputable def f_X12_gapNow (sc : en_S) (d : Nat) (a0 : Nat) (a1 : Int32) (a2 : Int32) (z : en_H) : Option en_R := en_cl sc en_mt d 194 [.ref a0, .int a1, .int a2] z
noncomputable def f_X12_growRow (sc : en_S) (d : Nat) (a0 : Nat) (a1 : Int32) (a2 : Int32) (z : en_H) : Option en_R := en_cl sc en_mt d 195 [.ref a0, .int a1, .int a2] z
noncomputable def f_X12_growEven (sc : en_S) (d : Nat) (a0 : Nat) (a1 : Int32) (a2 : Int32) (z : en_H) : Option en_R := en_cl sc en_mt d 196 [.ref a0, .int a1, .int a2] z
noncomputable def f_X12_grow (sc : en_S) (d : Nat) (a0 : Nat) (a1 : Int32) (a2 : Int32) (z : en_H) : Option en_R := en_cl sc en_mt d 197 [.ref a0, .int a1, .int a2] z
noncomputable def f_X12_tellRow (sc : en_S) (d : Nat) (a0 : Nat) (a1 : Int32) (a2 : Int32) (z : en_H) : Option en_R := en_cl sc en_mt d 198 [.ref a0, .int a1, .int a2] z
noncomputable def f_X12_tell (sc : en_S) (d : Nat) (a0 : Nat) (a1 : Int32) (a2 : Int32) (z : en_H) : Option en_R := en_cl sc en_mt d 199 [.ref a0, .int a1, .int a2] z
noncomputable def f_X12_act (sc : en_S) (d : Nat) (a0 : Nat) (a1 : Int32) (a2 : Int32) (a3 : Int32) (z : en_H) : Option en_R := en_cl sc en_mt d 200 [.ref a0, .int a1, .int a2, .int a3] z
noncomputable def f_X12_trace (sc : en_S) (d : Nat) (a0 : Nat) (a1 : Int32) (z : en_H) : Option en_R := en_cl sc en_mt d 201 [.ref a0, .int a1] z
noncomputable def f_X12_sheet (sc : en_S) (d : Nat) (a0 : Nat) (a1 : Int32) (a2 : Int32) (a3 : Int32) (z : en_H) : Option en_R := en_cl sc en_mt d 202 [.ref a0, .int a1, .int a2, .int a3] z
noncomputable def b_X12_sheet_2 (sc : en_S) (d : Nat) (l0 : Nat) (l1 : Int32) (l2 : Int32) (l3 : Int32) (z : en_H) : Option en_R := en_bk sc (en_cl sc en_mt d) p_X12_sheet 2 [some (.ref l0), some (.int l1), some (.int l2), some (.int l3), none] [] z
noncomputable def b_X12_sheet_5 (sc : en_S) (d : Nat) (l0 : Nat) (l1 : Int32) (l4 : Int32) (z : en_H) : Option en_R := en_bk sc (en_cl sc en_mt d) p_X12_sheet 5 [some (.ref l0), some (.int l1), none, none, some (.int l4)] [] z
noncomputable def f_X12_cell (sc : en_S) (d : Nat) (a0 : Nat) (a1 : Int32) (a2 : Int32) (a3 : Int32) (z : en_H) : Option en_R := en_cl sc en_mt d 203 [.ref a0, .int a1, .int a2, .int a3] z
noncomputable def f_X12_modulo (sc : en_S) (d : Nat) (a0 : Int32) (a1 : Int32) (z : en_H) : Option en_R := en_cl sc en_mt d 204 [.int a0, .int a1] z
noncomputable def f_X12_isUnder (sc : en_S) (d : Nat) (a0 : Int32) (a1 : Int32) (z : en_H) : Option en_R := en_cl sc en_mt d 205 [.int a0, .int a1] z
noncomputable def f_X12_forge (sc : en_S) (d : Nat) (a0 : Nat) (a1 : Int32) (a2 : Int32) (a3 : Int32) (z : en_H) : Option en_R := en_cl sc en_mt d 206 [.ref a0, .int a1, .int a2, .int a3] z
noncomputable def b_X12_forge_20 (sc : en_S) (d : Nat) (l0 : Nat) (l2 : Int32) (l5 : Int32) (l6 : Int32) (l7 : Int32) (z : en_H) : Option en_R := en_bk sc (en_cl sc en_mt d) p_X12_forge 20 [some (.ref l0), none, some (.int l2), none, none, some (.int l5), some (.int l6), some (.int l7)] [] z
noncomputable def f_X12_status (sc : en_S) (d : Nat) (a0 : Nat) (z : en_H) : Option en_R := en_cl sc en_mt d 207 [.ref a0] z
noncomputable def f_J6_numberOfLeadingZeros_0f7a4 (sc : en_S) (d : Nat) (a0 : Int32) (z : en_H) : Option en_R := en_cl sc en_mt d 208 [.int a0] z
noncomputable def b_J6_numberOfLeadingZeros_0f7a4_4 (sc : en_S) (d : Nat) (l0 : Int32) (l1 : Int32) (z : en_H) : Option en_R := en_bk sc (en_cl sc en_mt d) p_J6_numberOfLeadingZeros_0f7a4 4 [some (.int l0), some (.int l1)] [] z
noncomputable def b_J6_numberOfLeadingZeros_0f7a4_6 (sc : en_S) (d : Nat) (l0 : Int32) (l1 : Int32) (z : en_H) : Option en_R := en_bk sc (en_cl sc en_mt d) p_J6_numberOfLeadingZeros_0f7a4 6 [some (.int l0), some (.int l1)] [] z
noncomputable def f_J13_numberOfLeadingZeros_95d88 (sc : en_S) (d : Nat) (a0 : Int64) (z : en_H) : Option en_R := en_cl sc en_mt d 209 [.long a0] z
noncomputable def f_J13_bitCount_95d88 (sc : en_S) (d : Nat) (a0 : Int64) (z : en_H) : Option en_R := en_cl sc en_mt d 210 [.long a0] z
noncomputable def f_J9_floorDiv_7cf53 (sc : en_S) (d : Nat) (a0 : Int32) (a1 : Int32) (z : en_H) : Option en_R := en_cl sc en_mt d 211 [.int a0, .int a1] z
noncomputable def f_J9_floorDiv_f86c9 (sc : en_S) (d : Nat) (a0 : Int64) (a1 : Int64) (z : en_H) : Option en_R := en_cl sc en_mt d 212 [.long a0, .long a1] z
noncomputable def f_J9_floorMod_7cf53 (sc : en_S) (d : Nat) (a0 : Int32) (a1 : Int32) (z : en_H) : Option en_R := en_cl sc en_mt d 213 [.int a0, .int a1] z
noncomputable def f_J9_floorMod_f86c9 (sc : en_S) (d : Nat) (a0 : Int64) (a1 : Int64) (z : en_H) : Option en_R := en_cl sc en_mt d 214 [.long a0, .long a1] z
noncomputable def f_J9_abs_0f7a4 (sc : en_S) (d : Nat) (a0 : Int32) (z : en_H) : Option en_R := en_cl sc en_mt d 215 [.int a0] z
noncomputable def f_J9_abs_067f4 (sc : en_S) (d : Nat) (a0 : Int64) (z : en_H) : Option en_R := en_cl sc en_mt d 216 [.long a0] z
noncomputable def f_J9_max_7cf53 (sc : en_S) (d : Nat) (a0 : Int32) (a1 : Int32) (z : en_H) : Option en_R := en_cl sc en_mt d 217 [.int a0, .int a1] z
noncomputable def f_J9_max_f86c9 (sc : en_S) (d : Nat) (a0 : Int64) (a1 : Int64) (z : en_H) : Option en_R := en_cl sc en_mt d 218 [.long a0, .long a1] z
noncomputable def f_J9_min_7cf53 (sc : en_S) (d : Nat) (a0 : Int32) (a1 : Int32) (z : en_H) : Option en_R := en_cl sc en_mt d 219 [.int a0, .int a1] z
noncomputable def f_L_law (sc : en_S) (d : Nat) (a0 : Nat) (z : en_H) : Option en_R := en_cl sc en_mt d 220 [.ref a0] z
noncomputable def b_L_law_1 (sc : en_S) (d : Nat) (l0 : Nat) (l1 : Nat) (l2 : Nat) (l3 : Int32) (z : en_H) : Option en_R := en_bk sc (en_cl sc en_mt d) p_L_law 1 [some (.ref l0), some (.ref l1), some (.ref l2), some (.int l3)] [] z
